section
-- ===== PART A: goes FIRST, ahead of the names: the tables' words, and 'selects' of the private methods out of them =====
/-- a private method of a class that the tables say can be made, by its rows of tables_1 -/
def lw_okq (q : MethodName × Nat) : Prop := (q.1.cls ≠ "java/lang/invoke/MethodHandle" ∧ q.1.cls ≠ "java/lang/invoke/VarHandle") ∧ Cond.instantiable q.1.cls q.2 ∈ tables_1 ∧ Cond.privateMethod q.1 ∈ tables_1 ∧ Cond.instanceMethod q.1 ∈ tables_1
theorem lw_p0 : lw_okq (⟨"BarCutting", "lineAt", "(I)LBarCutting$Line;"⟩, 12) := ⟨⟨by decide +kernel, by decide +kernel⟩, List.mem_of_getElem? (i := 14) (by decide +kernel), List.mem_of_getElem? (i := 333) (by decide +kernel), List.mem_of_getElem? (i := 334) (by decide +kernel)⟩
theorem lw_p1 : lw_okq (⟨"BarCutting", "cutLength", "(LBarCutting$Line;)I"⟩, 12) := ⟨⟨by decide +kernel, by decide +kernel⟩, List.mem_of_getElem? (i := 14) (by decide +kernel), List.mem_of_getElem? (i := 343) (by decide +kernel), List.mem_of_getElem? (i := 344) (by decide +kernel)⟩
theorem lw_p2 : lw_okq (⟨"BarCutting", "cutDiameter", "(II)Z"⟩, 12) := ⟨⟨by decide +kernel, by decide +kernel⟩, List.mem_of_getElem? (i := 14) (by decide +kernel), List.mem_of_getElem? (i := 389) (by decide +kernel), List.mem_of_getElem? (i := 390) (by decide +kernel)⟩
theorem lw_p3 : lw_okq (⟨"BarCutting", "gatherPieces", "(II)Z"⟩, 12) := ⟨⟨by decide +kernel, by decide +kernel⟩, List.mem_of_getElem? (i := 14) (by decide +kernel), List.mem_of_getElem? (i := 393) (by decide +kernel), List.mem_of_getElem? (i := 394) (by decide +kernel)⟩
theorem lw_p4 : lw_okq (⟨"BarCutting$FirstFit", "leastKindFor", "(LBarCutting$Shelf;I)I"⟩, 1) := ⟨⟨by decide +kernel, by decide +kernel⟩, List.mem_of_getElem? (i := 141) (by decide +kernel), List.mem_of_getElem? (i := 411) (by decide +kernel), List.mem_of_getElem? (i := 412) (by decide +kernel)⟩
theorem lw_p5 : lw_okq (⟨"BarCutting$LeastWaste", "sumSets", "(LBarCutting$Plan;II)V"⟩, 11) := ⟨⟨by decide +kernel, by decide +kernel⟩, List.mem_of_getElem? (i := 101) (by decide +kernel), List.mem_of_getElem? (i := 428) (by decide +kernel), List.mem_of_getElem? (i := 429) (by decide +kernel)⟩
theorem lw_p6 : lw_okq (⟨"BarCutting$LeastWaste", "findFloors", "(I)V"⟩, 11) := ⟨⟨by decide +kernel, by decide +kernel⟩, List.mem_of_getElem? (i := 101) (by decide +kernel), List.mem_of_getElem? (i := 432) (by decide +kernel), List.mem_of_getElem? (i := 433) (by decide +kernel)⟩
theorem lw_p7 : lw_okq (⟨"BarCutting$LeastWaste", "costOfCheapestBar", "(I)I"⟩, 11) := ⟨⟨by decide +kernel, by decide +kernel⟩, List.mem_of_getElem? (i := 101) (by decide +kernel), List.mem_of_getElem? (i := 440) (by decide +kernel), List.mem_of_getElem? (i := 441) (by decide +kernel)⟩
theorem lw_p8 : lw_okq (⟨"BarCutting$LeastWaste", "costOfBar", "(I)I"⟩, 11) := ⟨⟨by decide +kernel, by decide +kernel⟩, List.mem_of_getElem? (i := 101) (by decide +kernel), List.mem_of_getElem? (i := 444) (by decide +kernel), List.mem_of_getElem? (i := 445) (by decide +kernel)⟩
theorem lw_p9 : lw_okq (⟨"BarCutting$LeastWaste", "search", "(III)V"⟩, 11) := ⟨⟨by decide +kernel, by decide +kernel⟩, List.mem_of_getElem? (i := 101) (by decide +kernel), List.mem_of_getElem? (i := 451) (by decide +kernel), List.mem_of_getElem? (i := 452) (by decide +kernel)⟩
theorem lw_p10 : lw_okq (⟨"BarCutting$LeastWaste", "keep", "(II)V"⟩, 11) := ⟨⟨by decide +kernel, by decide +kernel⟩, List.mem_of_getElem? (i := 101) (by decide +kernel), List.mem_of_getElem? (i := 455) (by decide +kernel), List.mem_of_getElem? (i := 456) (by decide +kernel)⟩
theorem lw_p11 : lw_okq (⟨"BarCutting$LeastWaste", "searchRows", "(III)V"⟩, 11) := ⟨⟨by decide +kernel, by decide +kernel⟩, List.mem_of_getElem? (i := 101) (by decide +kernel), List.mem_of_getElem? (i := 459) (by decide +kernel), List.mem_of_getElem? (i := 460) (by decide +kernel)⟩
theorem lw_p12 : lw_okq (⟨"BarCutting$LeastWaste", "writeBest", "(LBarCutting$Plan;II)Z"⟩, 11) := ⟨⟨by decide +kernel, by decide +kernel⟩, List.mem_of_getElem? (i := 101) (by decide +kernel), List.mem_of_getElem? (i := 463) (by decide +kernel), List.mem_of_getElem? (i := 464) (by decide +kernel)⟩
theorem lw_p13 : lw_okq (⟨"BarCutting$Track", "go", "(IIZ)V"⟩, 8) := ⟨⟨by decide +kernel, by decide +kernel⟩, List.mem_of_getElem? (i := 151) (by decide +kernel), List.mem_of_getElem? (i := 522) (by decide +kernel), List.mem_of_getElem? (i := 523) (by decide +kernel)⟩
theorem lw_p14 : lw_okq (⟨"BarCutting", "linesBentBefore", "(I)I"⟩, 12) := ⟨⟨by decide +kernel, by decide +kernel⟩, List.mem_of_getElem? (i := 14) (by decide +kernel), List.mem_of_getElem? (i := 581) (by decide +kernel), List.mem_of_getElem? (i := 582) (by decide +kernel)⟩
theorem lw_p15 : lw_okq (⟨"BarCutting", "isBentBefore", "(II)Z"⟩, 12) := ⟨⟨by decide +kernel, by decide +kernel⟩, List.mem_of_getElem? (i := 14) (by decide +kernel), List.mem_of_getElem? (i := 585) (by decide +kernel), List.mem_of_getElem? (i := 586) (by decide +kernel)⟩
def lw_privs_1 : List (MethodName × Nat) := [(⟨"BarCutting", "lineAt", "(I)LBarCutting$Line;"⟩, 12), (⟨"BarCutting", "cutLength", "(LBarCutting$Line;)I"⟩, 12), (⟨"BarCutting", "cutDiameter", "(II)Z"⟩, 12), (⟨"BarCutting", "gatherPieces", "(II)Z"⟩, 12), (⟨"BarCutting$FirstFit", "leastKindFor", "(LBarCutting$Shelf;I)I"⟩, 1), (⟨"BarCutting$LeastWaste", "sumSets", "(LBarCutting$Plan;II)V"⟩, 11), (⟨"BarCutting$LeastWaste", "findFloors", "(I)V"⟩, 11), (⟨"BarCutting$LeastWaste", "costOfCheapestBar", "(I)I"⟩, 11), (⟨"BarCutting$LeastWaste", "costOfBar", "(I)I"⟩, 11), (⟨"BarCutting$LeastWaste", "search", "(III)V"⟩, 11), (⟨"BarCutting$LeastWaste", "keep", "(II)V"⟩, 11), (⟨"BarCutting$LeastWaste", "searchRows", "(III)V"⟩, 11), (⟨"BarCutting$LeastWaste", "writeBest", "(LBarCutting$Plan;II)Z"⟩, 11), (⟨"BarCutting$Track", "go", "(IIZ)V"⟩, 8), (⟨"BarCutting", "linesBentBefore", "(I)I"⟩, 12), (⟨"BarCutting", "isBentBefore", "(II)Z"⟩, 12)]
theorem lw_r1 : ∀ q ∈ lw_privs_1, lw_okq q := List.forall_mem_cons.mpr ⟨lw_p0, List.forall_mem_cons.mpr ⟨lw_p1, List.forall_mem_cons.mpr ⟨lw_p2, List.forall_mem_cons.mpr ⟨lw_p3, List.forall_mem_cons.mpr ⟨lw_p4, List.forall_mem_cons.mpr ⟨lw_p5, List.forall_mem_cons.mpr ⟨lw_p6, List.forall_mem_cons.mpr ⟨lw_p7, List.forall_mem_cons.mpr ⟨lw_p8, List.forall_mem_cons.mpr ⟨lw_p9, List.forall_mem_cons.mpr ⟨lw_p10, List.forall_mem_cons.mpr ⟨lw_p11, List.forall_mem_cons.mpr ⟨lw_p12, List.forall_mem_cons.mpr ⟨lw_p13, List.forall_mem_cons.mpr ⟨lw_p14, List.forall_mem_cons.mpr ⟨lw_p15, fun _ h => absurd h List.not_mem_nil⟩⟩⟩⟩⟩⟩⟩⟩⟩⟩⟩⟩⟩⟩⟩⟩
theorem lw_p16 : lw_okq (⟨"BarCuttingModel", "isLine", "(I)Z"⟩, 46) := ⟨⟨by decide +kernel, by decide +kernel⟩, List.mem_of_getElem? (i := 589) (by decide +kernel), List.mem_of_getElem? (i := 767) (by decide +kernel), List.mem_of_getElem? (i := 768) (by decide +kernel)⟩
theorem lw_p17 : lw_okq (⟨"BarCuttingModel", "lengthOf", "(I)J"⟩, 46) := ⟨⟨by decide +kernel, by decide +kernel⟩, List.mem_of_getElem? (i := 589) (by decide +kernel), List.mem_of_getElem? (i := 783) (by decide +kernel), List.mem_of_getElem? (i := 784) (by decide +kernel)⟩
theorem lw_p18 : lw_okq (⟨"BarCuttingModel", "sumOf", "(I)J"⟩, 46) := ⟨⟨by decide +kernel, by decide +kernel⟩, List.mem_of_getElem? (i := 589) (by decide +kernel), List.mem_of_getElem? (i := 787) (by decide +kernel), List.mem_of_getElem? (i := 788) (by decide +kernel)⟩
theorem lw_p19 : lw_okq (⟨"BarCuttingModel", "findPieces", "(I)V"⟩, 46) := ⟨⟨by decide +kernel, by decide +kernel⟩, List.mem_of_getElem? (i := 589) (by decide +kernel), List.mem_of_getElem? (i := 797) (by decide +kernel), List.mem_of_getElem? (i := 798) (by decide +kernel)⟩
theorem lw_p20 : lw_okq (⟨"BarCuttingModel", "cutBest", "(I)Z"⟩, 46) := ⟨⟨by decide +kernel, by decide +kernel⟩, List.mem_of_getElem? (i := 589) (by decide +kernel), List.mem_of_getElem? (i := 801) (by decide +kernel), List.mem_of_getElem? (i := 802) (by decide +kernel)⟩
theorem lw_p21 : lw_okq (⟨"BarCuttingModel", "firstOf", "(I)I"⟩, 46) := ⟨⟨by decide +kernel, by decide +kernel⟩, List.mem_of_getElem? (i := 589) (by decide +kernel), List.mem_of_getElem? (i := 805) (by decide +kernel), List.mem_of_getElem? (i := 806) (by decide +kernel)⟩
theorem lw_p22 : lw_okq (⟨"BarCuttingModel", "lengthOfSet", "(I)J"⟩, 46) := ⟨⟨by decide +kernel, by decide +kernel⟩, List.mem_of_getElem? (i := 589) (by decide +kernel), List.mem_of_getElem? (i := 809) (by decide +kernel), List.mem_of_getElem? (i := 810) (by decide +kernel)⟩
theorem lw_p23 : lw_okq (⟨"BarCuttingModel", "openBar", "(II)V"⟩, 46) := ⟨⟨by decide +kernel, by decide +kernel⟩, List.mem_of_getElem? (i := 589) (by decide +kernel), List.mem_of_getElem? (i := 813) (by decide +kernel), List.mem_of_getElem? (i := 814) (by decide +kernel)⟩
theorem lw_p24 : lw_okq (⟨"BarCuttingModel", "put", "(II)V"⟩, 46) := ⟨⟨by decide +kernel, by decide +kernel⟩, List.mem_of_getElem? (i := 589) (by decide +kernel), List.mem_of_getElem? (i := 817) (by decide +kernel), List.mem_of_getElem? (i := 818) (by decide +kernel)⟩
theorem lw_p25 : lw_okq (⟨"BarCuttingModel", "cutInTurn", "(I)Z"⟩, 46) := ⟨⟨by decide +kernel, by decide +kernel⟩, List.mem_of_getElem? (i := 589) (by decide +kernel), List.mem_of_getElem? (i := 821) (by decide +kernel), List.mem_of_getElem? (i := 822) (by decide +kernel)⟩
theorem lw_p26 : lw_okq (⟨"BarCuttingModel", "kindFor", "(IJ)I"⟩, 46) := ⟨⟨by decide +kernel, by decide +kernel⟩, List.mem_of_getElem? (i := 589) (by decide +kernel), List.mem_of_getElem? (i := 825) (by decide +kernel), List.mem_of_getElem? (i := 826) (by decide +kernel)⟩
theorem lw_p27 : lw_okq (⟨"BarCuttingModel", "piecesTogether", "()J"⟩, 46) := ⟨⟨by decide +kernel, by decide +kernel⟩, List.mem_of_getElem? (i := 589) (by decide +kernel), List.mem_of_getElem? (i := 833) (by decide +kernel), List.mem_of_getElem? (i := 834) (by decide +kernel)⟩
theorem lw_p28 : lw_okq (⟨"BarCuttingModel", "isTold", "(I)Z"⟩, 46) := ⟨⟨by decide +kernel, by decide +kernel⟩, List.mem_of_getElem? (i := 589) (by decide +kernel), List.mem_of_getElem? (i := 859) (by decide +kernel), List.mem_of_getElem? (i := 860) (by decide +kernel)⟩
theorem lw_p29 : lw_okq (⟨"BarCuttingModel", "draw", "(I)V"⟩, 46) := ⟨⟨by decide +kernel, by decide +kernel⟩, List.mem_of_getElem? (i := 589) (by decide +kernel), List.mem_of_getElem? (i := 863) (by decide +kernel), List.mem_of_getElem? (i := 864) (by decide +kernel)⟩
theorem lw_p30 : lw_okq (⟨"BarCuttingModel", "go", "(IJZ)V"⟩, 46) := ⟨⟨by decide +kernel, by decide +kernel⟩, List.mem_of_getElem? (i := 589) (by decide +kernel), List.mem_of_getElem? (i := 868) (by decide +kernel), List.mem_of_getElem? (i := 869) (by decide +kernel)⟩
theorem lw_p31 : lw_okq (⟨"BarCuttingModel", "stretches", "(II)I"⟩, 46) := ⟨⟨by decide +kernel, by decide +kernel⟩, List.mem_of_getElem? (i := 589) (by decide +kernel), List.mem_of_getElem? (i := 876) (by decide +kernel), List.mem_of_getElem? (i := 877) (by decide +kernel)⟩
def lw_privs_2 : List (MethodName × Nat) := [(⟨"BarCuttingModel", "isLine", "(I)Z"⟩, 46), (⟨"BarCuttingModel", "lengthOf", "(I)J"⟩, 46), (⟨"BarCuttingModel", "sumOf", "(I)J"⟩, 46), (⟨"BarCuttingModel", "findPieces", "(I)V"⟩, 46), (⟨"BarCuttingModel", "cutBest", "(I)Z"⟩, 46), (⟨"BarCuttingModel", "firstOf", "(I)I"⟩, 46), (⟨"BarCuttingModel", "lengthOfSet", "(I)J"⟩, 46), (⟨"BarCuttingModel", "openBar", "(II)V"⟩, 46), (⟨"BarCuttingModel", "put", "(II)V"⟩, 46), (⟨"BarCuttingModel", "cutInTurn", "(I)Z"⟩, 46), (⟨"BarCuttingModel", "kindFor", "(IJ)I"⟩, 46), (⟨"BarCuttingModel", "piecesTogether", "()J"⟩, 46), (⟨"BarCuttingModel", "isTold", "(I)Z"⟩, 46), (⟨"BarCuttingModel", "draw", "(I)V"⟩, 46), (⟨"BarCuttingModel", "go", "(IJZ)V"⟩, 46), (⟨"BarCuttingModel", "stretches", "(II)I"⟩, 46)]
theorem lw_r2 : ∀ q ∈ lw_privs_2, lw_okq q := List.forall_mem_cons.mpr ⟨lw_p16, List.forall_mem_cons.mpr ⟨lw_p17, List.forall_mem_cons.mpr ⟨lw_p18, List.forall_mem_cons.mpr ⟨lw_p19, List.forall_mem_cons.mpr ⟨lw_p20, List.forall_mem_cons.mpr ⟨lw_p21, List.forall_mem_cons.mpr ⟨lw_p22, List.forall_mem_cons.mpr ⟨lw_p23, List.forall_mem_cons.mpr ⟨lw_p24, List.forall_mem_cons.mpr ⟨lw_p25, List.forall_mem_cons.mpr ⟨lw_p26, List.forall_mem_cons.mpr ⟨lw_p27, List.forall_mem_cons.mpr ⟨lw_p28, List.forall_mem_cons.mpr ⟨lw_p29, List.forall_mem_cons.mpr ⟨lw_p30, List.forall_mem_cons.mpr ⟨lw_p31, fun _ h => absurd h List.not_mem_nil⟩⟩⟩⟩⟩⟩⟩⟩⟩⟩⟩⟩⟩⟩⟩⟩
theorem lw_p32 : lw_okq (⟨"BarCuttingModel", "sign", "(I)V"⟩, 46) := ⟨⟨by decide +kernel, by decide +kernel⟩, List.mem_of_getElem? (i := 589) (by decide +kernel), List.mem_of_getElem? (i := 897) (by decide +kernel), List.mem_of_getElem? (i := 898) (by decide +kernel)⟩
theorem lw_p33 : lw_okq (⟨"BarCuttingModel", "differ", "(III)Z"⟩, 46) := ⟨⟨by decide +kernel, by decide +kernel⟩, List.mem_of_getElem? (i := 589) (by decide +kernel), List.mem_of_getElem? (i := 905) (by decide +kernel), List.mem_of_getElem? (i := 906) (by decide +kernel)⟩
theorem lw_p34 : lw_okq (⟨"BarCuttingModel", "isBentBefore", "(II)Z"⟩, 46) := ⟨⟨by decide +kernel, by decide +kernel⟩, List.mem_of_getElem? (i := 589) (by decide +kernel), List.mem_of_getElem? (i := 913) (by decide +kernel), List.mem_of_getElem? (i := 914) (by decide +kernel)⟩
def lw_privs_3 : List (MethodName × Nat) := [(⟨"BarCuttingModel", "sign", "(I)V"⟩, 46), (⟨"BarCuttingModel", "differ", "(III)Z"⟩, 46), (⟨"BarCuttingModel", "isBentBefore", "(II)Z"⟩, 46)]
theorem lw_r3 : ∀ q ∈ lw_privs_3, lw_okq q := List.forall_mem_cons.mpr ⟨lw_p32, List.forall_mem_cons.mpr ⟨lw_p33, List.forall_mem_cons.mpr ⟨lw_p34, fun _ h => absurd h List.not_mem_nil⟩⟩⟩
def lw_privs : List (MethodName × Nat) := lw_privs_1 ++ (lw_privs_2 ++ (lw_privs_3))
def lw_tbl : List Cond := k2_sels lw_privs ++ tables_1
theorem lw_privs_ok : ∀ q ∈ lw_privs, lw_okq q := by
  show ∀ q ∈ lw_privs_1 ++ (lw_privs_2 ++ (lw_privs_3)), lw_okq q
  exact List.forall_mem_append.mpr ⟨lw_r1, List.forall_mem_append.mpr ⟨lw_r2, lw_r3⟩⟩
end
section
/-! names, by program (wip/gen/names.py) -/
def gw : List Cond := lw_tbl.filter goodWord
def wsO (y : MethodName) (c : ByteArray) (n : Nat) (r : Option FieldType) : List Cond := .code y c n r :: gw
theorem gw_at {w : Cond} (i : Nat) (h : tables_1[i]? = some w) (g : goodWord w = true) : w ∈ gw := List.mem_filter.mpr ⟨List.mem_append_right _ (List.mem_of_getElem? h), g⟩
theorem gw_pr {w : Cond} (i : Nat) (h : (k2_sels lw_privs)[i]? = some w) (g : goodWord w = true) : w ∈ gw := List.mem_filter.mpr ⟨List.mem_append_left _ (List.mem_of_getElem? h), g⟩
theorem gw_sub (ws : List Cond) (ps : List Nat) (hp : ws = ps.filterMap (fun i => tables_1[i]?)) (hg : ws.all goodWord = true) : ∀ w ∈ ws, w ∈ gw := by
  intro w hw
  have h1 := List.all_eq_true.mp hg w hw
  rw [hp] at hw
  obtain ⟨i, -, hi⟩ := List.mem_filterMap.mp hw
  exact gw_at i hi h1
theorem gw_good {w : Cond} (h : w ∈ gw) : (w.onTables && w.keeps) = true ∨ ∃ ty, w = .arrayClass ty := good_of_word (List.mem_filter.mp h).2
theorem gd_O {y : MethodName} {cy : ByteArray} {ny : Nat} {ry : Option FieldType} (h : Cond.code y cy ny ry ∈ gw) : GoodIn gw (wsO y cy ny ry) := by
  intro w hw
  rcases List.mem_cons.mp hw with rfl | hw
  · exact ⟨h, gw_good h⟩
  · exact ⟨hw, gw_good hw⟩
theorem gd_V {y : MethodName} {cy : ByteArray} {ny : Nat} {ry : Option FieldType} {own C : String} {ix : Nat} (h1 : Cond.methodLink own ix y ∈ gw) (h2 : Cond.instanceMethod y ∈ gw) (h3 : Cond.selects C y y ∈ gw) (h4 : Cond.initialized C ∈ gw) (h : Cond.code y cy ny ry ∈ gw) : GoodIn gw (wsV own ix C y (wsO y cy ny ry)) := by
  intro w hw
  rcases List.mem_append.mp hw with hw | hw
  · have hg : w ∈ gw := by
      rcases List.mem_cons.mp hw with rfl | hw
      · exact h1
      rcases List.mem_cons.mp hw with rfl | hw
      · exact h2
      rcases List.mem_cons.mp hw with rfl | hw
      · exact h3
      rcases List.mem_cons.mp hw with rfl | hw
      · exact h4
      cases hw
    exact ⟨hg, gw_good hg⟩
  · exact gd_O h w hw
theorem gd_S {y : MethodName} {cy : ByteArray} {ny : Nat} {ry : Option FieldType} {own : String} {ix : Nat} (h1 : Cond.methodLink own ix y ∈ gw) (h2 : Cond.static y ∈ gw) (h3 : Cond.initialized own ∈ gw) (h : Cond.code y cy ny ry ∈ gw) : GoodIn gw (wsS own ix y (wsO y cy ny ry)) := by
  intro w hw
  rcases List.mem_append.mp hw with hw | hw
  · have hg : w ∈ gw := by
      rcases List.mem_cons.mp hw with rfl | hw
      · exact h1
      rcases List.mem_cons.mp hw with rfl | hw
      · exact h2
      rcases List.mem_cons.mp hw with rfl | hw
      · exact h3
      cases hw
    exact ⟨hg, gw_good hg⟩
  · exact gd_O h w hw
def RX0 : String := "BarCutting$FirstFit"
def TX0 : u_T := fun k => match k with
  | _ => ("BarCutting$FirstFit", "left", "[I", true)
def tyX0 : Nat → FieldType := fun k => match k with
  | _ => .array .int
theorem nmX0 : ∀ a, a < 1 → ∀ b, b < 1 → a ≠ b → (TX0 a).2.1 ≠ (TX0 b).2.1 := by decide +kernel
theorem tyX0_ok : ∀ k, k < 1 → parseFieldDescriptor (TX0 k).2.2.1 = some (tyX0 k) := by decide +kernel
def RX1 : String := "BarCutting$LeastWaste"
def TX1 : u_T := fun k => match k with
  | 0 => ("BarCutting$LeastWaste", "sums", "[I", true)
  | 1 => ("BarCutting$LeastWaste", "floors", "[I", true)
  | 2 => ("BarCutting$LeastWaste", "sizes", "[I", true)
  | 3 => ("BarCutting$LeastWaste", "left", "[I", true)
  | 4 => ("BarCutting$LeastWaste", "kindOfBar", "[I", true)
  | 5 => ("BarCutting$LeastWaste", "rowOfBar", "[I", true)
  | 6 => ("BarCutting$LeastWaste", "bestKindOfBar", "[I", true)
  | 7 => ("BarCutting$LeastWaste", "bestRowOfBar", "[I", true)
  | 8 => ("BarCutting$LeastWaste", "kinds", "I", false)
  | 9 => ("BarCutting$LeastWaste", "best", "I", false)
  | _ => ("BarCutting$LeastWaste", "bestBars", "I", false)
def tyX1 : Nat → FieldType := fun k => match k with
  | 0 => .array .int
  | 1 => .array .int
  | 2 => .array .int
  | 3 => .array .int
  | 4 => .array .int
  | 5 => .array .int
  | 6 => .array .int
  | 7 => .array .int
  | 8 => .int
  | 9 => .int
  | _ => .int
theorem nmX1 : ∀ a, a < 11 → ∀ b, b < 11 → a ≠ b → (TX1 a).2.1 ≠ (TX1 b).2.1 := by decide +kernel
theorem tyX1_ok : ∀ k, k < 11 → parseFieldDescriptor (TX1 k).2.2.1 = some (tyX1 k) := by decide +kernel
def RX2 : String := "BarCutting$Line"
def TX2 : u_T := fun k => match k with
  | 0 => ("BarCutting$Line", "shapeNumber", "I", true)
  | 1 => ("BarCutting$Line", "shape", "LBarCutting$Shape;", true)
  | 2 => ("BarCutting$Line", "diameter", "I", true)
  | 3 => ("BarCutting$Line", "bars", "I", true)
  | 4 => ("BarCutting$Line", "legs", "[I", true)
  | 5 => ("BarCutting$Line", "placed", "Z", false)
  | 6 => ("BarCutting$Line", "x", "I", false)
  | 7 => ("BarCutting$Line", "y", "I", false)
  | _ => ("BarCutting$Line", "z", "I", false)
def tyX2 : Nat → FieldType := fun k => match k with
  | 0 => .int
  | 1 => .object "BarCutting$Shape"
  | 2 => .int
  | 3 => .int
  | 4 => .array .int
  | 5 => .boolean
  | 6 => .int
  | 7 => .int
  | _ => .int
theorem nmX2 : ∀ a, a < 9 → ∀ b, b < 9 → a ≠ b → (TX2 a).2.1 ≠ (TX2 b).2.1 := by decide +kernel
theorem tyX2_ok : ∀ k, k < 9 → parseFieldDescriptor (TX2 k).2.2.1 = some (tyX2 k) := by decide +kernel
def RX3 : String := "BarCutting$Plan"
def TX3 : u_T := fun k => match k with
  | 0 => ("BarCutting$Plan", "pieceLine", "[I", true)
  | 1 => ("BarCutting$Plan", "pieceSize", "[I", true)
  | 2 => ("BarCutting$Plan", "pieceBar", "[I", true)
  | 3 => ("BarCutting$Plan", "barDiameter", "[I", true)
  | 4 => ("BarCutting$Plan", "barSize", "[I", true)
  | 5 => ("BarCutting$Plan", "barRoom", "[I", true)
  | 6 => ("BarCutting$Plan", "barPieces", "[I", true)
  | 7 => ("BarCutting$Plan", "pieces", "I", false)
  | 8 => ("BarCutting$Plan", "bars", "I", false)
  | 9 => ("BarCutting$Plan", "diameters", "I", false)
  | 10 => ("BarCutting$Plan", "leastWasteDiameters", "I", false)
  | _ => ("BarCutting$Plan", "done", "Z", false)
def tyX3 : Nat → FieldType := fun k => match k with
  | 0 => .array .int
  | 1 => .array .int
  | 2 => .array .int
  | 3 => .array .int
  | 4 => .array .int
  | 5 => .array .int
  | 6 => .array .int
  | 7 => .int
  | 8 => .int
  | 9 => .int
  | 10 => .int
  | _ => .boolean
theorem nmX3 : ∀ a, a < 12 → ∀ b, b < 12 → a ≠ b → (TX3 a).2.1 ≠ (TX3 b).2.1 := by decide +kernel
theorem tyX3_ok : ∀ k, k < 12 → parseFieldDescriptor (TX3 k).2.2.1 = some (tyX3 k) := by decide +kernel
def RX4 : String := "BarCutting$Shape"
def TX4 : u_T := fun k => match k with
  | 0 => ("BarCutting$Shape", "text", "[C", true)
  | 1 => ("BarCutting$Shape", "legs", "I", true)
  | _ => ("BarCutting$Shape", "quarters", "I", true)
def tyX4 : Nat → FieldType := fun k => match k with
  | 0 => .array .char
  | 1 => .int
  | _ => .int
theorem nmX4 : ∀ a, a < 3 → ∀ b, b < 3 → a ≠ b → (TX4 a).2.1 ≠ (TX4 b).2.1 := by decide +kernel
theorem tyX4_ok : ∀ k, k < 3 → parseFieldDescriptor (TX4 k).2.2.1 = some (tyX4 k) := by decide +kernel
def RX5 : String := "BarCutting$Shelf"
def TX5 : u_T := fun k => match k with
  | 0 => ("BarCutting$Shelf", "sizes", "[I", true)
  | 1 => ("BarCutting$Shelf", "bars", "[I", true)
  | _ => ("BarCutting$Shelf", "kinds", "I", false)
def tyX5 : Nat → FieldType := fun k => match k with
  | 0 => .array .int
  | 1 => .array .int
  | _ => .int
theorem nmX5 : ∀ a, a < 3 → ∀ b, b < 3 → a ≠ b → (TX5 a).2.1 ≠ (TX5 b).2.1 := by decide +kernel
theorem tyX5_ok : ∀ k, k < 3 → parseFieldDescriptor (TX5 k).2.2.1 = some (tyX5 k) := by decide +kernel
def RX6 : String := "BarCutting$Signs"
def TX6 : u_T := fun k => match k with
  | 0 => ("BarCutting$Signs", "row", "[C", true)
  | _ => ("BarCutting$Signs", "count", "I", false)
def tyX6 : Nat → FieldType := fun k => match k with
  | 0 => .array .char
  | _ => .int
theorem nmX6 : ∀ a, a < 2 → ∀ b, b < 2 → a ≠ b → (TX6 a).2.1 ≠ (TX6 b).2.1 := by decide +kernel
theorem tyX6_ok : ∀ k, k < 2 → parseFieldDescriptor (TX6 k).2.2.1 = some (tyX6 k) := by decide +kernel
def RX7 : String := "BarCutting$Track"
def TX7 : u_T := fun k => match k with
  | 0 => ("BarCutting$Track", "fromX", "[I", true)
  | 1 => ("BarCutting$Track", "fromY", "[I", true)
  | 2 => ("BarCutting$Track", "stepX", "[I", true)
  | 3 => ("BarCutting$Track", "stepY", "[I", true)
  | 4 => ("BarCutting$Track", "isLeg", "[Z", true)
  | 5 => ("BarCutting$Track", "steps", "I", false)
  | 6 => ("BarCutting$Track", "x", "I", false)
  | _ => ("BarCutting$Track", "y", "I", false)
def tyX7 : Nat → FieldType := fun k => match k with
  | 0 => .array .int
  | 1 => .array .int
  | 2 => .array .int
  | 3 => .array .int
  | 4 => .array .boolean
  | 5 => .int
  | 6 => .int
  | _ => .int
theorem nmX7 : ∀ a, a < 8 → ∀ b, b < 8 → a ≠ b → (TX7 a).2.1 ≠ (TX7 b).2.1 := by decide +kernel
theorem tyX7_ok : ∀ k, k < 8 → parseFieldDescriptor (TX7 k).2.2.1 = some (tyX7 k) := by decide +kernel
def RX8 : String := "BarCutting"
def TX8 : u_T := fun k => match k with
  | 0 => ("BarCutting", "signs", "LBarCutting$Signs;", true)
  | 1 => ("BarCutting", "shapes", "[LBarCutting$Shape;", true)
  | 2 => ("BarCutting", "lines", "[LBarCutting$Line;", true)
  | 3 => ("BarCutting", "rules", "[I", true)
  | 4 => ("BarCutting", "shelves", "[LBarCutting$Shelf;", true)
  | 5 => ("BarCutting", "plan", "LBarCutting$Plan;", true)
  | 6 => ("BarCutting", "leastWaste", "LBarCutting$LeastWaste;", true)
  | 7 => ("BarCutting", "firstFit", "LBarCutting$FirstFit;", true)
  | 8 => ("BarCutting", "track", "LBarCutting$Track;", true)
  | 9 => ("BarCutting", "otherTrack", "LBarCutting$Track;", true)
  | 10 => ("BarCutting", "shapeCount", "I", false)
  | _ => ("BarCutting", "lineCount", "I", false)
def tyX8 : Nat → FieldType := fun k => match k with
  | 0 => .object "BarCutting$Signs"
  | 1 => .array (.object "BarCutting$Shape")
  | 2 => .array (.object "BarCutting$Line")
  | 3 => .array .int
  | 4 => .array (.object "BarCutting$Shelf")
  | 5 => .object "BarCutting$Plan"
  | 6 => .object "BarCutting$LeastWaste"
  | 7 => .object "BarCutting$FirstFit"
  | 8 => .object "BarCutting$Track"
  | 9 => .object "BarCutting$Track"
  | 10 => .int
  | _ => .int
theorem nmX8 : ∀ a, a < 12 → ∀ b, b < 12 → a ≠ b → (TX8 a).2.1 ≠ (TX8 b).2.1 := by decide +kernel
theorem tyX8_ok : ∀ k, k < 12 → parseFieldDescriptor (TX8 k).2.2.1 = some (tyX8 k) := by decide +kernel
def RX9 : String := "BarCuttingModel"
def TX9 : u_T := fun k => match k with
  | 0 => ("BarCuttingModel", "text", "[I", true)
  | 1 => ("BarCuttingModel", "size", "I", false)
  | 2 => ("BarCuttingModel", "shapes", "I", false)
  | 3 => ("BarCuttingModel", "legCount", "[I", true)
  | 4 => ("BarCuttingModel", "bends", "[I", true)
  | 5 => ("BarCuttingModel", "rules", "[J", true)
  | 6 => ("BarCuttingModel", "lines", "I", false)
  | 7 => ("BarCuttingModel", "shapeOf", "[I", true)
  | 8 => ("BarCuttingModel", "diameterOf", "[I", true)
  | 9 => ("BarCuttingModel", "manyOf", "[I", true)
  | 10 => ("BarCuttingModel", "legs", "[J", true)
  | 11 => ("BarCuttingModel", "placed", "[Z", true)
  | 12 => ("BarCuttingModel", "placeX", "[J", true)
  | 13 => ("BarCuttingModel", "placeY", "[J", true)
  | 14 => ("BarCuttingModel", "placeZ", "[J", true)
  | 15 => ("BarCuttingModel", "kinds", "[I", true)
  | 16 => ("BarCuttingModel", "kindLength", "[J", true)
  | 17 => ("BarCuttingModel", "kindMany", "[I", true)
  | 18 => ("BarCuttingModel", "left", "[I", true)
  | 19 => ("BarCuttingModel", "pieces", "I", false)
  | 20 => ("BarCuttingModel", "pieceLine", "[I", true)
  | 21 => ("BarCuttingModel", "pieceLength", "[J", true)
  | 22 => ("BarCuttingModel", "remains", "[I", true)
  | 23 => ("BarCuttingModel", "wayKind", "[I", true)
  | 24 => ("BarCuttingModel", "waySet", "[I", true)
  | 25 => ("BarCuttingModel", "bestKind", "[I", true)
  | 26 => ("BarCuttingModel", "bestSet", "[I", true)
  | 27 => ("BarCuttingModel", "cut", "Z", false)
  | 28 => ("BarCuttingModel", "bars", "I", false)
  | 29 => ("BarCuttingModel", "barDiameter", "[I", true)
  | 30 => ("BarCuttingModel", "barLength", "[J", true)
  | 31 => ("BarCuttingModel", "barMany", "[I", true)
  | 32 => ("BarCuttingModel", "barLines", "[I", true)
  | 33 => ("BarCuttingModel", "barRoom", "[J", true)
  | 34 => ("BarCuttingModel", "diameters", "I", false)
  | 35 => ("BarCuttingModel", "exact", "I", false)
  | 36 => ("BarCuttingModel", "pairs", "I", false)
  | 37 => ("BarCuttingModel", "goesX", "[J", true)
  | 38 => ("BarCuttingModel", "goesY", "[J", true)
  | 39 => ("BarCuttingModel", "isLeg", "[Z", true)
  | 40 => ("BarCuttingModel", "lowX", "[J", true)
  | 41 => ("BarCuttingModel", "highX", "[J", true)
  | 42 => ("BarCuttingModel", "lowY", "[J", true)
  | 43 => ("BarCuttingModel", "highY", "[J", true)
  | 44 => ("BarCuttingModel", "tagSigns", "[I", true)
  | _ => ("BarCuttingModel", "tagSize", "I", false)
def tyX9 : Nat → FieldType := fun k => match k with
  | 0 => .array .int
  | 1 => .int
  | 2 => .int
  | 3 => .array .int
  | 4 => .array .int
  | 5 => .array .long
  | 6 => .int
  | 7 => .array .int
  | 8 => .array .int
  | 9 => .array .int
  | 10 => .array .long
  | 11 => .array .boolean
  | 12 => .array .long
  | 13 => .array .long
  | 14 => .array .long
  | 15 => .array .int
  | 16 => .array .long
  | 17 => .array .int
  | 18 => .array .int
  | 19 => .int
  | 20 => .array .int
  | 21 => .array .long
  | 22 => .array .int
  | 23 => .array .int
  | 24 => .array .int
  | 25 => .array .int
  | 26 => .array .int
  | 27 => .boolean
  | 28 => .int
  | 29 => .array .int
  | 30 => .array .long
  | 31 => .array .int
  | 32 => .array .int
  | 33 => .array .long
  | 34 => .int
  | 35 => .int
  | 36 => .int
  | 37 => .array .long
  | 38 => .array .long
  | 39 => .array .boolean
  | 40 => .array .long
  | 41 => .array .long
  | 42 => .array .long
  | 43 => .array .long
  | 44 => .array .int
  | _ => .int
theorem nmX9 : ∀ a, a < 46 → ∀ b, b < 46 → a ≠ b → (TX9 a).2.1 ≠ (TX9 b).2.1 := by decide +kernel
theorem tyX9_ok : ∀ k, k < 46 → parseFieldDescriptor (TX9 k).2.2.1 = some (tyX9 k) := by decide +kernel
def RL : String := "BarCuttingLaw"
abbrev vwCl : List vw_C := [(RX0, TX0, 1), (RX1, TX1, 11), (RX2, TX2, 9), (RX3, TX3, 12), (RX4, TX4, 3), (RX5, TX5, 3), (RX6, TX6, 2), (RX7, TX7, 8), (RX8, TX8, 12), (RX9, TX9, 46)]
abbrev c_Bc_init : ByteArray := prog_1_method_1_code
def y_Bc_init : MethodName := ⟨RX8, "<init>", "()V"⟩
abbrev w_Bc_init : List Cond := wsO y_Bc_init c_Bc_init 1 none
abbrev c_Sg_init : ByteArray := prog_8_method_1_code
def y_Sg_init : MethodName := ⟨RX6, "<init>", "()V"⟩
abbrev w_Sg_init : List Cond := wsO y_Sg_init c_Sg_init 1 none
abbrev c_Pl_init : ByteArray := prog_5_method_1_code
def y_Pl_init : MethodName := ⟨RX3, "<init>", "()V"⟩
abbrev w_Pl_init : List Cond := wsO y_Pl_init c_Pl_init 1 none
abbrev c_Lw_init : ByteArray := prog_3_method_1_code
def y_Lw_init : MethodName := ⟨RX1, "<init>", "()V"⟩
abbrev w_Lw_init : List Cond := wsO y_Lw_init c_Lw_init 1 none
abbrev c_Ff_init : ByteArray := prog_2_method_1_code
def y_Ff_init : MethodName := ⟨RX0, "<init>", "()V"⟩
abbrev w_Ff_init : List Cond := wsO y_Ff_init c_Ff_init 1 none
abbrev c_Tr_init : ByteArray := prog_9_method_1_code
def y_Tr_init : MethodName := ⟨RX7, "<init>", "()V"⟩
abbrev w_Tr_init : List Cond := wsO y_Tr_init c_Tr_init 1 none
abbrev c_Bc_unit : ByteArray := prog_1_method_2_code
def y_Bc_unit : MethodName := ⟨RX8, "unit", "(I)Z"⟩
abbrev w_Bc_unit : List Cond := wsO y_Bc_unit c_Bc_unit 2 (some (.boolean))
abbrev c_Sg_collect : ByteArray := prog_8_method_2_code
def y_Sg_collect : MethodName := ⟨RX6, "collect", "(I)Z"⟩
abbrev w_Sg_collect : List Cond := wsO y_Sg_collect c_Sg_collect 2 (some (.boolean))
abbrev c_Bc_shape : ByteArray := prog_1_method_3_code
def y_Bc_shape : MethodName := ⟨RX8, "shape", "()I"⟩
abbrev w_Bc_shape : List Cond := wsO y_Bc_shape c_Bc_shape 4 (some (.int))
abbrev c_Sg_firstWrong : ByteArray := prog_8_method_3_code
def y_Sg_firstWrong : MethodName := ⟨RX6, "firstWrong", "()I"⟩
abbrev w_Sg_firstWrong : List Cond := wsO y_Sg_firstWrong c_Sg_firstWrong 3 (some (.int))
abbrev c_Sg_isLeg : ByteArray := prog_8_method_5_code
def y_Sg_isLeg : MethodName := ⟨RX6, "isLeg", "(II)Z"⟩
abbrev w_Sg_isLeg : List Cond := wsO y_Sg_isLeg c_Sg_isLeg 2 (some (.boolean))
abbrev c_Sg_quartersOf : ByteArray := prog_8_method_6_code
def y_Sg_quartersOf : MethodName := ⟨RX6, "quartersOf", "(I)I"⟩
abbrev w_Sg_quartersOf : List Cond := wsO y_Sg_quartersOf c_Sg_quartersOf 1 (some (.int))
abbrev c_Sg_toShape : ByteArray := prog_8_method_4_code
def y_Sg_toShape : MethodName := ⟨RX6, "toShape", "()LBarCutting$Shape;"⟩
abbrev w_Sg_toShape : List Cond := wsO y_Sg_toShape c_Sg_toShape 4 (some (.object "BarCutting$Shape"))
abbrev c_Sh_init : ByteArray := prog_6_method_1_code
def y_Sh_init : MethodName := ⟨RX4, "<init>", "([CI)V"⟩
abbrev w_Sh_init : List Cond := wsO y_Sh_init c_Sh_init 3 none
abbrev c_Bc_rule : ByteArray := prog_1_method_4_code
def y_Bc_rule : MethodName := ⟨RX8, "rule", "(IJ)Z"⟩
abbrev w_Bc_rule : List Cond := wsO y_Bc_rule c_Bc_rule 4 (some (.boolean))
abbrev c_Bc_isDiameter : ByteArray := prog_1_method_22_code
def y_Bc_isDiameter : MethodName := ⟨RX8, "isDiameter", "(I)Z"⟩
abbrev w_Bc_isDiameter : List Cond := wsO y_Bc_isDiameter c_Bc_isDiameter 1 (some (.boolean))
abbrev c_Pl_clear : ByteArray := prog_5_method_2_code
def y_Pl_clear : MethodName := ⟨RX3, "clear", "()V"⟩
abbrev w_Pl_clear : List Cond := wsO y_Pl_clear c_Pl_clear 1 none
abbrev c_Bc_bar : ByteArray := prog_1_method_5_code
def y_Bc_bar : MethodName := ⟨RX8, "bar", "(III)I"⟩
abbrev w_Bc_bar : List Cond := wsO y_Bc_bar c_Bc_bar 4 (some (.int))
abbrev c_Ln_init : ByteArray := prog_4_method_1_code
def y_Ln_init : MethodName := ⟨RX2, "<init>", "(ILBarCutting$Shape;II)V"⟩
abbrev w_Ln_init : List Cond := wsO y_Ln_init c_Ln_init 5 none
abbrev c_Bc_leg : ByteArray := prog_1_method_6_code
def y_Bc_leg : MethodName := ⟨RX8, "leg", "(IIJ)Z"⟩
abbrev w_Bc_leg : List Cond := wsO y_Bc_leg c_Bc_leg 6 (some (.boolean))
abbrev c_Bc_lineAt : ByteArray := prog_1_method_24_code
def y_Bc_lineAt : MethodName := ⟨RX8, "lineAt", "(I)LBarCutting$Line;"⟩
abbrev w_Bc_lineAt : List Cond := wsO y_Bc_lineAt c_Bc_lineAt 2 (some (.object "BarCutting$Line"))
abbrev c_Bc_length : ByteArray := prog_1_method_7_code
def y_Bc_length : MethodName := ⟨RX8, "length", "(II)J"⟩
abbrev w_Bc_length : List Cond := wsO y_Bc_length c_Bc_length 4 (some (.long))
abbrev c_Bc_cutLength : ByteArray := prog_1_method_25_code
def y_Bc_cutLength : MethodName := ⟨RX8, "cutLength", "(LBarCutting$Line;)I"⟩
abbrev w_Bc_cutLength : List Cond := wsO y_Bc_cutLength c_Bc_cutLength 3 (some (.int))
abbrev c_Ln_sumOfLegs : ByteArray := prog_4_method_2_code
def y_Ln_sumOfLegs : MethodName := ⟨RX2, "sumOfLegs", "()I"⟩
abbrev w_Ln_sumOfLegs : List Cond := wsO y_Ln_sumOfLegs c_Ln_sumOfLegs 3 (some (.int))
abbrev c_Bc_stock : ByteArray := prog_1_method_8_code
def y_Bc_stock : MethodName := ⟨RX8, "stock", "(IJI)Z"⟩
abbrev w_Bc_stock : List Cond := wsO y_Bc_stock c_Bc_stock 6 (some (.boolean))
abbrev c_Sf_init : ByteArray := prog_7_method_1_code
def y_Sf_init : MethodName := ⟨RX5, "<init>", "()V"⟩
abbrev w_Sf_init : List Cond := wsO y_Sf_init c_Sf_init 1 none
abbrev c_Sf_add : ByteArray := prog_7_method_2_code
def y_Sf_add : MethodName := ⟨RX5, "add", "(II)Z"⟩
abbrev w_Sf_add : List Cond := wsO y_Sf_add c_Sf_add 3 (some (.boolean))
abbrev c_Bc_run : ByteArray := prog_1_method_9_code
def y_Bc_run : MethodName := ⟨RX8, "run", "(J)I"⟩
abbrev w_Bc_run : List Cond := wsO y_Bc_run c_Bc_run 4 (some (.int))
abbrev c_Bc_cutDiameter : ByteArray := prog_1_method_26_code
def y_Bc_cutDiameter : MethodName := ⟨RX8, "cutDiameter", "(II)Z"⟩
abbrev w_Bc_cutDiameter : List Cond := wsO y_Bc_cutDiameter c_Bc_cutDiameter 6 (some (.boolean))
abbrev c_Bc_gatherPieces : ByteArray := prog_1_method_27_code
def y_Bc_gatherPieces : MethodName := ⟨RX8, "gatherPieces", "(II)Z"⟩
abbrev w_Bc_gatherPieces : List Cond := wsO y_Bc_gatherPieces c_Bc_gatherPieces 7 (some (.boolean))
abbrev c_Pl_addPiece : ByteArray := prog_5_method_3_code
def y_Pl_addPiece : MethodName := ⟨RX3, "addPiece", "(III)V"⟩
abbrev w_Pl_addPiece : List Cond := wsO y_Pl_addPiece c_Pl_addPiece 5 none
abbrev c_Ff_cut : ByteArray := prog_2_method_2_code
def y_Ff_cut : MethodName := ⟨RX0, "cut", "(LBarCutting$Plan;IILBarCutting$Shelf;)Z"⟩
abbrev w_Ff_cut : List Cond := wsO y_Ff_cut c_Ff_cut 10 (some (.boolean))
abbrev c_Ff_firstWithRoom : ByteArray := prog_2_method_3_code
def y_Ff_firstWithRoom : MethodName := ⟨RX0, "firstWithRoom", "(LBarCutting$Plan;II)I"⟩
abbrev w_Ff_firstWithRoom : List Cond := wsO y_Ff_firstWithRoom c_Ff_firstWithRoom 4 (some (.int))
abbrev c_Ff_leastKindFor : ByteArray := prog_2_method_4_code
def y_Ff_leastKindFor : MethodName := ⟨RX0, "leastKindFor", "(LBarCutting$Shelf;I)I"⟩
abbrev w_Ff_leastKindFor : List Cond := wsO y_Ff_leastKindFor c_Ff_leastKindFor 6 (some (.int))
abbrev c_Pl_openBar : ByteArray := prog_5_method_4_code
def y_Pl_openBar : MethodName := ⟨RX3, "openBar", "(II)I"⟩
abbrev w_Pl_openBar : List Cond := wsO y_Pl_openBar c_Pl_openBar 3 (some (.int))
abbrev c_Pl_putPiece : ByteArray := prog_5_method_5_code
def y_Pl_putPiece : MethodName := ⟨RX3, "putPiece", "(II)V"⟩
abbrev w_Pl_putPiece : List Cond := wsO y_Pl_putPiece c_Pl_putPiece 3 none
abbrev c_Lw_cut : ByteArray := prog_3_method_2_code
def y_Lw_cut : MethodName := ⟨RX1, "cut", "(LBarCutting$Plan;IILBarCutting$Shelf;)Z"⟩
abbrev w_Lw_cut : List Cond := wsO y_Lw_cut c_Lw_cut 6 (some (.boolean))
abbrev c_Lw_sumSets : ByteArray := prog_3_method_3_code
def y_Lw_sumSets : MethodName := ⟨RX1, "sumSets", "(LBarCutting$Plan;II)V"⟩
abbrev w_Lw_sumSets : List Cond := wsO y_Lw_sumSets c_Lw_sumSets 8 none
abbrev c_Lw_findFloors : ByteArray := prog_3_method_4_code
def y_Lw_findFloors : MethodName := ⟨RX1, "findFloors", "(I)V"⟩
abbrev w_Lw_findFloors : List Cond := wsO y_Lw_findFloors c_Lw_findFloors 6 none
abbrev c_Lw_highestBit : ByteArray := prog_3_method_11_code
def y_Lw_highestBit : MethodName := ⟨RX1, "highestBit", "(I)I"⟩
abbrev w_Lw_highestBit : List Cond := wsO y_Lw_highestBit c_Lw_highestBit 2 (some (.int))
abbrev c_Lw_costOfCheapestBar : ByteArray := prog_3_method_5_code
def y_Lw_costOfCheapestBar : MethodName := ⟨RX1, "costOfCheapestBar", "(I)I"⟩
abbrev w_Lw_costOfCheapestBar : List Cond := wsO y_Lw_costOfCheapestBar c_Lw_costOfCheapestBar 4 (some (.int))
abbrev c_Lw_costOfBar : ByteArray := prog_3_method_6_code
def y_Lw_costOfBar : MethodName := ⟨RX1, "costOfBar", "(I)I"⟩
abbrev w_Lw_costOfBar : List Cond := wsO y_Lw_costOfBar c_Lw_costOfBar 2 (some (.int))
abbrev c_Lw_search : ByteArray := prog_3_method_7_code
def y_Lw_search : MethodName := ⟨RX1, "search", "(III)V"⟩
abbrev w_Lw_search : List Cond := wsO y_Lw_search c_Lw_search 5 none
abbrev c_Lw_keep : ByteArray := prog_3_method_9_code
def y_Lw_keep : MethodName := ⟨RX1, "keep", "(II)V"⟩
abbrev w_Lw_keep : List Cond := wsO y_Lw_keep c_Lw_keep 4 none
abbrev c_Lw_searchRows : ByteArray := prog_3_method_8_code
def y_Lw_searchRows : MethodName := ⟨RX1, "searchRows", "(III)V"⟩
abbrev w_Lw_searchRows : List Cond := wsO y_Lw_searchRows c_Lw_searchRows 7 none
abbrev c_Lw_writeBest : ByteArray := prog_3_method_10_code
def y_Lw_writeBest : MethodName := ⟨RX1, "writeBest", "(LBarCutting$Plan;II)Z"⟩
abbrev w_Lw_writeBest : List Cond := wsO y_Lw_writeBest c_Lw_writeBest 7 (some (.boolean))
abbrev c_Bc_loss : ByteArray := prog_1_method_10_code
def y_Bc_loss : MethodName := ⟨RX8, "loss", "(I)J"⟩
abbrev w_Bc_loss : List Cond := wsO y_Bc_loss c_Bc_loss 2 (some (.long))
abbrev c_Pl_sumOfBars : ByteArray := prog_5_method_7_code
def y_Pl_sumOfBars : MethodName := ⟨RX3, "sumOfBars", "()I"⟩
abbrev w_Pl_sumOfBars : List Cond := wsO y_Pl_sumOfBars c_Pl_sumOfBars 3 (some (.int))
abbrev c_Pl_sumOfPieces : ByteArray := prog_5_method_8_code
def y_Pl_sumOfPieces : MethodName := ⟨RX3, "sumOfPieces", "()I"⟩
abbrev w_Pl_sumOfPieces : List Cond := wsO y_Pl_sumOfPieces c_Pl_sumOfPieces 3 (some (.int))
abbrev c_Bc_bound : ByteArray := prog_1_method_11_code
def y_Bc_bound : MethodName := ⟨RX8, "bound", "(I)J"⟩
abbrev w_Bc_bound : List Cond := wsO y_Bc_bound c_Bc_bound 2 (some (.long))
abbrev c_Bc_proved : ByteArray := prog_1_method_12_code
def y_Bc_proved : MethodName := ⟨RX8, "proved", "()Z"⟩
abbrev w_Bc_proved : List Cond := wsO y_Bc_proved c_Bc_proved 1 (some (.boolean))
abbrev c_Bc_pattern : ByteArray := prog_1_method_13_code
def y_Bc_pattern : MethodName := ⟨RX8, "pattern", "(II)I"⟩
abbrev w_Bc_pattern : List Cond := wsO y_Bc_pattern c_Bc_pattern 3 (some (.int))
abbrev c_Pl_lineOfPiece : ByteArray := prog_5_method_6_code
def y_Pl_lineOfPiece : MethodName := ⟨RX3, "lineOfPiece", "(II)I"⟩
abbrev w_Pl_lineOfPiece : List Cond := wsO y_Pl_lineOfPiece c_Pl_lineOfPiece 5 (some (.int))
abbrev c_Bc_place : ByteArray := prog_1_method_14_code
def y_Bc_place : MethodName := ⟨RX8, "place", "(IJJJ)Z"⟩
abbrev w_Bc_place : List Cond := wsO y_Bc_place c_Bc_place 9 (some (.boolean))
abbrev c_Bc_isPlace : ByteArray := prog_1_method_23_code
def y_Bc_isPlace : MethodName := ⟨RX8, "isPlace", "(J)Z"⟩
abbrev w_Bc_isPlace : List Cond := wsO y_Bc_isPlace c_Bc_isPlace 2 (some (.boolean))
abbrev c_Bc_command : ByteArray := prog_1_method_15_code
def y_Bc_command : MethodName := ⟨RX8, "command", "(II)I"⟩
abbrev w_Bc_command : List Cond := wsO y_Bc_command c_Bc_command 5 (some (.int))
abbrev c_Ln_allLegsTold : ByteArray := prog_4_method_3_code
def y_Ln_allLegsTold : MethodName := ⟨RX2, "allLegsTold", "()Z"⟩
abbrev w_Ln_allLegsTold : List Cond := wsO y_Ln_allLegsTold c_Ln_allLegsTold 2 (some (.boolean))
abbrev c_Tr_follow : ByteArray := prog_9_method_2_code
def y_Tr_follow : MethodName := ⟨RX7, "follow", "(LBarCutting$Line;)V"⟩
abbrev w_Tr_follow : List Cond := wsO y_Tr_follow c_Tr_follow 8 none
abbrev c_Sh_bendBefore : ByteArray := prog_6_method_2_code
def y_Sh_bendBefore : MethodName := ⟨RX4, "bendBefore", "(I)I"⟩
abbrev w_Sh_bendBefore : List Cond := wsO y_Sh_bendBefore c_Sh_bendBefore 3 (some (.int))
abbrev c_Tr_go : ByteArray := prog_9_method_3_code
def y_Tr_go : MethodName := ⟨RX7, "go", "(IIZ)V"⟩
abbrev w_Tr_go : List Cond := wsO y_Tr_go c_Tr_go 4 none
abbrev c_Bc_clash : ByteArray := prog_1_method_16_code
def y_Bc_clash : MethodName := ⟨RX8, "clash", "(II)I"⟩
abbrev w_Bc_clash : List Cond := wsO y_Bc_clash c_Bc_clash 11 (some (.int))
abbrev c_Tr_leastSquareTo : ByteArray := prog_9_method_4_code
def y_Tr_leastSquareTo : MethodName := ⟨RX7, "leastSquareTo", "(LBarCutting$Track;)J"⟩
abbrev w_Tr_leastSquareTo : List Cond := wsO y_Tr_leastSquareTo c_Tr_leastSquareTo 10 (some (.long))
abbrev c_Tr_gap : ByteArray := prog_9_method_5_code
def y_Tr_gap : MethodName := ⟨RX7, "gap", "(IIII)I"⟩
abbrev w_Tr_gap : List Cond := wsO y_Tr_gap c_Tr_gap 6 (some (.int))
abbrev c_Bc_lap : ByteArray := prog_1_method_17_code
def y_Bc_lap : MethodName := ⟨RX8, "lap", "(IJ)I"⟩
abbrev w_Bc_lap : List Cond := wsO y_Bc_lap c_Bc_lap 9 (some (.int))
abbrev c_Sf_greatest : ByteArray := prog_7_method_3_code
def y_Sf_greatest : MethodName := ⟨RX5, "greatest", "()I"⟩
abbrev w_Sf_greatest : List Cond := wsO y_Sf_greatest c_Sf_greatest 3 (some (.int))
abbrev c_Bc_weight : ByteArray := prog_1_method_18_code
def y_Bc_weight : MethodName := ⟨RX8, "weight", "(II)J"⟩
abbrev w_Bc_weight : List Cond := wsO y_Bc_weight c_Bc_weight 7 (some (.long))
abbrev c_Bc_greatestCommonWithDivisor : ByteArray := prog_1_method_28_code
def y_Bc_greatestCommonWithDivisor : MethodName := ⟨RX8, "greatestCommonWithDivisor", "(J)I"⟩
abbrev w_Bc_greatestCommonWithDivisor : List Cond := wsO y_Bc_greatestCommonWithDivisor c_Bc_greatestCommonWithDivisor 3 (some (.int))
abbrev c_Bc_tag : ByteArray := prog_1_method_19_code
def y_Bc_tag : MethodName := ⟨RX8, "tag", "(II)I"⟩
abbrev w_Bc_tag : List Cond := wsO y_Bc_tag c_Bc_tag 4 (some (.int))
abbrev c_Ln_signOfTag : ByteArray := prog_4_method_5_code
def y_Ln_signOfTag : MethodName := ⟨RX2, "signOfTag", "(I)I"⟩
abbrev w_Ln_signOfTag : List Cond := wsO y_Ln_signOfTag c_Ln_signOfTag 5 (some (.int))
abbrev c_Bc_differs : ByteArray := prog_1_method_20_code
def y_Bc_differs : MethodName := ⟨RX8, "differs", "(III)I"⟩
abbrev w_Bc_differs : List Cond := wsO y_Bc_differs c_Bc_differs 8 (some (.int))
abbrev c_Ln_thing : ByteArray := prog_4_method_4_code
def y_Ln_thing : MethodName := ⟨RX2, "thing", "(I)I"⟩
abbrev w_Ln_thing : List Cond := wsO y_Ln_thing c_Ln_thing 3 (some (.int))
abbrev c_Bc_order : ByteArray := prog_1_method_21_code
def y_Bc_order : MethodName := ⟨RX8, "order", "(I)I"⟩
abbrev w_Bc_order : List Cond := wsO y_Bc_order c_Bc_order 3 (some (.int))
abbrev c_Bc_linesBentBefore : ByteArray := prog_1_method_29_code
def y_Bc_linesBentBefore : MethodName := ⟨RX8, "linesBentBefore", "(I)I"⟩
abbrev w_Bc_linesBentBefore : List Cond := wsO y_Bc_linesBentBefore c_Bc_linesBentBefore 4 (some (.int))
abbrev c_Bc_isBentBefore : ByteArray := prog_1_method_30_code
def y_Bc_isBentBefore : MethodName := ⟨RX8, "isBentBefore", "(II)Z"⟩
abbrev w_Bc_isBentBefore : List Cond := wsO y_Bc_isBentBefore c_Bc_isBentBefore 5 (some (.boolean))
abbrev c_Md_init : ByteArray := prog_11_method_1_code
def y_Md_init : MethodName := ⟨RX9, "<init>", "()V"⟩
abbrev w_Md_init : List Cond := wsO y_Md_init c_Md_init 1 none
abbrev c_Md_unit : ByteArray := prog_11_method_5_code
def y_Md_unit : MethodName := ⟨RX9, "unit", "(I)Z"⟩
abbrev w_Md_unit : List Cond := wsO y_Md_unit c_Md_unit 2 (some (.boolean))
abbrev c_Md_isIn : ByteArray := prog_11_method_3_code
def y_Md_isIn : MethodName := ⟨RX9, "isIn", "(JJJ)Z"⟩
abbrev w_Md_isIn : List Cond := wsO y_Md_isIn c_Md_isIn 6 (some (.boolean))
abbrev c_Md_shape : ByteArray := prog_11_method_7_code
def y_Md_shape : MethodName := ⟨RX9, "shape", "()I"⟩
abbrev w_Md_shape : List Cond := wsO y_Md_shape c_Md_shape 5 (some (.int))
abbrev c_Md_bendOf : ByteArray := prog_11_method_6_code
def y_Md_bendOf : MethodName := ⟨RX9, "bendOf", "(I)I"⟩
abbrev w_Md_bendOf : List Cond := wsO y_Md_bendOf c_Md_bendOf 1 (some (.int))
abbrev c_Md_rule : ByteArray := prog_11_method_8_code
def y_Md_rule : MethodName := ⟨RX9, "rule", "(IJ)Z"⟩
abbrev w_Md_rule : List Cond := wsO y_Md_rule c_Md_rule 4 (some (.boolean))
abbrev c_Md_bar : ByteArray := prog_11_method_9_code
def y_Md_bar : MethodName := ⟨RX9, "bar", "(III)I"⟩
abbrev w_Md_bar : List Cond := wsO y_Md_bar c_Md_bar 4 (some (.int))
abbrev c_Md_leg : ByteArray := prog_11_method_10_code
def y_Md_leg : MethodName := ⟨RX9, "leg", "(IIJ)Z"⟩
abbrev w_Md_leg : List Cond := wsO y_Md_leg c_Md_leg 5 (some (.boolean))
abbrev c_Md_isLine : ByteArray := prog_11_method_4_code
def y_Md_isLine : MethodName := ⟨RX9, "isLine", "(I)Z"⟩
abbrev w_Md_isLine : List Cond := wsO y_Md_isLine c_Md_isLine 2 (some (.boolean))
abbrev c_Md_stock : ByteArray := prog_11_method_11_code
def y_Md_stock : MethodName := ⟨RX9, "stock", "(IJI)Z"⟩
abbrev w_Md_stock : List Cond := wsO y_Md_stock c_Md_stock 5 (some (.boolean))
abbrev c_Md_length : ByteArray := prog_11_method_14_code
def y_Md_length : MethodName := ⟨RX9, "length", "(II)J"⟩
abbrev w_Md_length : List Cond := wsO y_Md_length c_Md_length 3 (some (.long))
abbrev c_Md_lengthOf : ByteArray := prog_11_method_13_code
def y_Md_lengthOf : MethodName := ⟨RX9, "lengthOf", "(I)J"⟩
abbrev w_Md_lengthOf : List Cond := wsO y_Md_lengthOf c_Md_lengthOf 6 (some (.long))
abbrev c_Md_sumOf : ByteArray := prog_11_method_12_code
def y_Md_sumOf : MethodName := ⟨RX9, "sumOf", "(I)J"⟩
abbrev w_Md_sumOf : List Cond := wsO y_Md_sumOf c_Md_sumOf 5 (some (.long))
abbrev c_Md_run : ByteArray := prog_11_method_23_code
def y_Md_run : MethodName := ⟨RX9, "run", "(J)I"⟩
abbrev w_Md_run : List Cond := wsO y_Md_run c_Md_run 5 (some (.int))
abbrev c_Md_findPieces : ByteArray := prog_11_method_15_code
def y_Md_findPieces : MethodName := ⟨RX9, "findPieces", "(I)V"⟩
abbrev w_Md_findPieces : List Cond := wsO y_Md_findPieces c_Md_findPieces 5 none
abbrev c_Md_cutBest : ByteArray := prog_11_method_22_code
def y_Md_cutBest : MethodName := ⟨RX9, "cutBest", "(I)Z"⟩
abbrev w_Md_cutBest : List Cond := wsO y_Md_cutBest c_Md_cutBest 16 (some (.boolean))
abbrev c_Md_firstOf : ByteArray := prog_11_method_21_code
def y_Md_firstOf : MethodName := ⟨RX9, "firstOf", "(I)I"⟩
abbrev w_Md_firstOf : List Cond := wsO y_Md_firstOf c_Md_firstOf 3 (some (.int))
abbrev c_Md_lengthOfSet : ByteArray := prog_11_method_20_code
def y_Md_lengthOfSet : MethodName := ⟨RX9, "lengthOfSet", "(I)J"⟩
abbrev w_Md_lengthOfSet : List Cond := wsO y_Md_lengthOfSet c_Md_lengthOfSet 5 (some (.long))
abbrev c_Md_openBar : ByteArray := prog_11_method_16_code
def y_Md_openBar : MethodName := ⟨RX9, "openBar", "(II)V"⟩
abbrev w_Md_openBar : List Cond := wsO y_Md_openBar c_Md_openBar 3 none
abbrev c_Md_put : ByteArray := prog_11_method_17_code
def y_Md_put : MethodName := ⟨RX9, "put", "(II)V"⟩
abbrev w_Md_put : List Cond := wsO y_Md_put c_Md_put 3 none
abbrev c_Md_cutInTurn : ByteArray := prog_11_method_19_code
def y_Md_cutInTurn : MethodName := ⟨RX9, "cutInTurn", "(I)Z"⟩
abbrev w_Md_cutInTurn : List Cond := wsO y_Md_cutInTurn c_Md_cutInTurn 6 (some (.boolean))
abbrev c_Md_kindFor : ByteArray := prog_11_method_18_code
def y_Md_kindFor : MethodName := ⟨RX9, "kindFor", "(IJ)I"⟩
abbrev w_Md_kindFor : List Cond := wsO y_Md_kindFor c_Md_kindFor 8 (some (.int))
abbrev c_Md_loss : ByteArray := prog_11_method_25_code
def y_Md_loss : MethodName := ⟨RX9, "loss", "(I)J"⟩
abbrev w_Md_loss : List Cond := wsO y_Md_loss c_Md_loss 5 (some (.long))
abbrev c_Md_piecesTogether : ByteArray := prog_11_method_24_code
def y_Md_piecesTogether : MethodName := ⟨RX9, "piecesTogether", "()J"⟩
abbrev w_Md_piecesTogether : List Cond := wsO y_Md_piecesTogether c_Md_piecesTogether 4 (some (.long))
abbrev c_Md_bound : ByteArray := prog_11_method_26_code
def y_Md_bound : MethodName := ⟨RX9, "bound", "(I)J"⟩
abbrev w_Md_bound : List Cond := wsO y_Md_bound c_Md_bound 2 (some (.long))
abbrev c_Md_proved : ByteArray := prog_11_method_27_code
def y_Md_proved : MethodName := ⟨RX9, "proved", "()Z"⟩
abbrev w_Md_proved : List Cond := wsO y_Md_proved c_Md_proved 1 (some (.boolean))
abbrev c_Md_pattern : ByteArray := prog_11_method_28_code
def y_Md_pattern : MethodName := ⟨RX9, "pattern", "(II)I"⟩
abbrev w_Md_pattern : List Cond := wsO y_Md_pattern c_Md_pattern 3 (some (.int))
abbrev c_Md_place : ByteArray := prog_11_method_29_code
def y_Md_place : MethodName := ⟨RX9, "place", "(IJJJ)Z"⟩
abbrev w_Md_place : List Cond := wsO y_Md_place c_Md_place 8 (some (.boolean))
abbrev c_Md_command : ByteArray := prog_11_method_33_code
def y_Md_command : MethodName := ⟨RX9, "command", "(II)I"⟩
abbrev w_Md_command : List Cond := wsO y_Md_command c_Md_command 3 (some (.int))
abbrev c_Md_isTold : ByteArray := prog_11_method_30_code
def y_Md_isTold : MethodName := ⟨RX9, "isTold", "(I)Z"⟩
abbrev w_Md_isTold : List Cond := wsO y_Md_isTold c_Md_isTold 4 (some (.boolean))
abbrev c_Md_draw : ByteArray := prog_11_method_32_code
def y_Md_draw : MethodName := ⟨RX9, "draw", "(I)V"⟩
abbrev w_Md_draw : List Cond := wsO y_Md_draw c_Md_draw 5 none
abbrev c_Md_go : ByteArray := prog_11_method_31_code
def y_Md_go : MethodName := ⟨RX9, "go", "(IJZ)V"⟩
abbrev w_Md_go : List Cond := wsO y_Md_go c_Md_go 5 none
abbrev c_Md_clash : ByteArray := prog_11_method_36_code
def y_Md_clash : MethodName := ⟨RX9, "clash", "(II)I"⟩
abbrev w_Md_clash : List Cond := wsO y_Md_clash c_Md_clash 16 (some (.int))
abbrev c_Md_stretches : ByteArray := prog_11_method_34_code
def y_Md_stretches : MethodName := ⟨RX9, "stretches", "(II)I"⟩
abbrev w_Md_stretches : List Cond := wsO y_Md_stretches c_Md_stretches 13 (some (.int))
abbrev c_Md_gap : ByteArray := prog_11_method_35_code
def y_Md_gap : MethodName := ⟨RX9, "gap", "(JJJJ)J"⟩
abbrev w_Md_gap : List Cond := wsO y_Md_gap c_Md_gap 8 (some (.long))
abbrev c_Md_lap : ByteArray := prog_11_method_37_code
def y_Md_lap : MethodName := ⟨RX9, "lap", "(IJ)I"⟩
abbrev w_Md_lap : List Cond := wsO y_Md_lap c_Md_lap 10 (some (.int))
abbrev c_Md_weight : ByteArray := prog_11_method_38_code
def y_Md_weight : MethodName := ⟨RX9, "weight", "(II)J"⟩
abbrev w_Md_weight : List Cond := wsO y_Md_weight c_Md_weight 11 (some (.long))
abbrev c_Md_tag : ByteArray := prog_11_method_40_code
def y_Md_tag : MethodName := ⟨RX9, "tag", "(II)I"⟩
abbrev w_Md_tag : List Cond := wsO y_Md_tag c_Md_tag 5 (some (.int))
abbrev c_Md_sign : ByteArray := prog_11_method_39_code
def y_Md_sign : MethodName := ⟨RX9, "sign", "(I)V"⟩
abbrev w_Md_sign : List Cond := wsO y_Md_sign c_Md_sign 2 none
abbrev c_Md_differs : ByteArray := prog_11_method_42_code
def y_Md_differs : MethodName := ⟨RX9, "differs", "(III)I"⟩
abbrev w_Md_differs : List Cond := wsO y_Md_differs c_Md_differs 6 (some (.int))
abbrev c_Md_differ : ByteArray := prog_11_method_41_code
def y_Md_differ : MethodName := ⟨RX9, "differ", "(III)Z"⟩
abbrev w_Md_differ : List Cond := wsO y_Md_differ c_Md_differ 4 (some (.boolean))
abbrev c_Md_order : ByteArray := prog_11_method_44_code
def y_Md_order : MethodName := ⟨RX9, "order", "(I)I"⟩
abbrev w_Md_order : List Cond := wsO y_Md_order c_Md_order 5 (some (.int))
abbrev c_Md_isBentBefore : ByteArray := prog_11_method_43_code
def y_Md_isBentBefore : MethodName := ⟨RX9, "isBentBefore", "(II)Z"⟩
abbrev w_Md_isBentBefore : List Cond := wsO y_Md_isBentBefore c_Md_isBentBefore 3 (some (.boolean))
abbrev c_L_law : ByteArray := code
end
section
/-! words, by program -/
theorem in_X0 : ∀ w ∈ u_ws RX0 TX0 1, w ∈ gw := gw_sub _ [147] (by decide +kernel) (by decide +kernel)
theorem in_X1 : ∀ w ∈ u_ws RX1 TX1 11, w ∈ gw := gw_sub _ [117, 119, 121, 123, 125, 127, 129, 131, 133, 135, 137] (by decide +kernel) (by decide +kernel)
theorem in_X2 : ∀ w ∈ u_ws RX2 TX2 9, w ∈ gw := gw_sub _ [309, 311, 313, 315, 317, 319, 321, 323, 325] (by decide +kernel) (by decide +kernel)
theorem in_X3 : ∀ w ∈ u_ws RX3 TX3 12, w ∈ gw := gw_sub _ [74, 76, 78, 80, 82, 84, 86, 88, 90, 92, 94, 96] (by decide +kernel) (by decide +kernel)
theorem in_X4 : ∀ w ∈ u_ws RX4 TX4 3, w ∈ gw := gw_sub _ [262, 264, 266] (by decide +kernel) (by decide +kernel)
theorem in_X5 : ∀ w ∈ u_ws RX5 TX5 3, w ∈ gw := gw_sub _ [372, 374, 376] (by decide +kernel) (by decide +kernel)
theorem in_X6 : ∀ w ∈ u_ws RX6 TX6 2, w ∈ gw := gw_sub _ [30, 32] (by decide +kernel) (by decide +kernel)
theorem in_X7 : ∀ w ∈ u_ws RX7 TX7 8, w ∈ gw := gw_sub _ [167, 169, 171, 173, 175, 177, 179, 181] (by decide +kernel) (by decide +kernel)
theorem in_X8 : ∀ w ∈ u_ws RX8 TX8 12, w ∈ gw := gw_sub _ [197, 199, 201, 203, 205, 207, 209, 211, 213, 215, 217, 219] (by decide +kernel) (by decide +kernel)
theorem in_X9 : ∀ w ∈ u_ws RX9 TX9 46, w ∈ gw := gw_sub _ [640, 642, 644, 646, 648, 650, 652, 654, 656, 658, 660, 662, 664, 666, 668, 670, 672, 674, 676, 678, 680, 682, 684, 686, 688, 690, 692, 694, 696, 698, 700, 702, 704, 706, 708, 710, 712, 714, 716, 718, 720, 722, 724, 726, 728, 730] (by decide +kernel) (by decide +kernel)
theorem kZ_L : Cond.initialized RL ∈ gw := gw_at 0 (by decide +kernel) (by decide +kernel)
theorem kZ_8 : Cond.initialized RX8 ∈ gw := gw_at 1 (by decide +kernel) (by decide +kernel)
theorem kZ_6 : Cond.initialized RX6 ∈ gw := gw_at 2 (by decide +kernel) (by decide +kernel)
theorem kZ_3 : Cond.initialized RX3 ∈ gw := gw_at 3 (by decide +kernel) (by decide +kernel)
theorem kZ_1 : Cond.initialized RX1 ∈ gw := gw_at 4 (by decide +kernel) (by decide +kernel)
theorem kZ_0 : Cond.initialized RX0 ∈ gw := gw_at 5 (by decide +kernel) (by decide +kernel)
theorem kZ_7 : Cond.initialized RX7 ∈ gw := gw_at 6 (by decide +kernel) (by decide +kernel)
theorem kZ_9 : Cond.initialized RX9 ∈ gw := gw_at 7 (by decide +kernel) (by decide +kernel)
theorem kZ_4 : Cond.initialized RX4 ∈ gw := gw_at 8 (by decide +kernel) (by decide +kernel)
theorem kZ_2 : Cond.initialized RX2 ∈ gw := gw_at 9 (by decide +kernel) (by decide +kernel)
theorem kZ_Math : Cond.initialized "java/lang/Math" ∈ gw := gw_at 10 (by decide +kernel) (by decide +kernel)
theorem kZ_5 : Cond.initialized RX5 ∈ gw := gw_at 11 (by decide +kernel) (by decide +kernel)
theorem kZ_System : Cond.initialized "java/lang/System" ∈ gw := gw_at 12 (by decide +kernel) (by decide +kernel)
theorem kL_L_7 : Cond.classLink RL 7 RX8 ∈ gw := gw_at 13 (by decide +kernel) (by decide +kernel)
theorem kN_8 : Cond.instantiable RX8 12 ∈ gw := gw_at 14 (by decide +kernel) (by decide +kernel)
theorem kM_L_9 : Cond.methodLink RL 9 y_Bc_init ∈ gw := gw_at 15 (by decide +kernel) (by decide +kernel)
theorem kI_Bc_init : Cond.instanceMethod y_Bc_init ∈ gw := gw_at 16 (by decide +kernel) (by decide +kernel)
theorem kC_Bc_init : Cond.code y_Bc_init c_Bc_init 1 none ∈ gw := gw_at 17 (by decide +kernel) (by decide +kernel)
theorem kM_8_3 : Cond.methodLink RX8 3 Lib.objectInit ∈ gw := gw_at 18 (by decide +kernel) (by decide +kernel)
theorem kI_obj : Cond.instanceMethod Lib.objectInit ∈ gw := gw_at 19 (by decide +kernel) (by decide +kernel)
theorem kC_obj : Cond.code Lib.objectInit ⟨#[0xb1]⟩ 1 none ∈ gw := gw_at 20 (by decide +kernel) (by decide +kernel)
theorem kL_8_9 : Cond.classLink RX8 9 RX6 ∈ gw := gw_at 21 (by decide +kernel) (by decide +kernel)
theorem kN_6 : Cond.instantiable RX6 2 ∈ gw := gw_at 22 (by decide +kernel) (by decide +kernel)
theorem kI_Sg_init : Cond.instanceMethod y_Sg_init ∈ gw := gw_at 24 (by decide +kernel) (by decide +kernel)
theorem kC_Sg_init : Cond.code y_Sg_init c_Sg_init 1 none ∈ gw := gw_at 25 (by decide +kernel) (by decide +kernel)
theorem kM_6_3 : Cond.methodLink RX6 3 Lib.objectInit ∈ gw := gw_at 26 (by decide +kernel) (by decide +kernel)
theorem kF_6_9 : Cond.fieldLink RX6 9 "BarCutting$Signs" "row" "[C" ∈ gw := gw_at 27 (by decide +kernel) (by decide +kernel)
theorem kF_6_15 : Cond.fieldLink RX6 15 "BarCutting$Signs" "count" "I" ∈ gw := gw_at 28 (by decide +kernel) (by decide +kernel)
theorem kF_8_84 : Cond.fieldLink RX8 84 "BarCutting$Signs" "count" "I" ∈ gw := gw_at 29 (by decide +kernel) (by decide +kernel)
theorem kA_char : Cond.arrayClass .char ∈ gw := gw_at 35 (by decide +kernel) (by decide +kernel)
theorem kL_8_16 : Cond.classLink RX8 16 RX4 ∈ gw := gw_at 36 (by decide +kernel) (by decide +kernel)
theorem kL_8_22 : Cond.classLink RX8 22 RX2 ∈ gw := gw_at 38 (by decide +kernel) (by decide +kernel)
theorem kL_8_32 : Cond.classLink RX8 32 RX5 ∈ gw := gw_at 40 (by decide +kernel) (by decide +kernel)
theorem kL_8_38 : Cond.classLink RX8 38 RX3 ∈ gw := gw_at 42 (by decide +kernel) (by decide +kernel)
theorem kN_3 : Cond.instantiable RX3 12 ∈ gw := gw_at 43 (by decide +kernel) (by decide +kernel)
theorem kI_Pl_init : Cond.instanceMethod y_Pl_init ∈ gw := gw_at 45 (by decide +kernel) (by decide +kernel)
theorem kC_Pl_init : Cond.code y_Pl_init c_Pl_init 1 none ∈ gw := gw_at 46 (by decide +kernel) (by decide +kernel)
theorem kM_3_3 : Cond.methodLink RX3 3 Lib.objectInit ∈ gw := gw_at 47 (by decide +kernel) (by decide +kernel)
theorem kF_3_9 : Cond.fieldLink RX3 9 "BarCutting$Plan" "pieceLine" "[I" ∈ gw := gw_at 48 (by decide +kernel) (by decide +kernel)
theorem kF_3_15 : Cond.fieldLink RX3 15 "BarCutting$Plan" "pieceSize" "[I" ∈ gw := gw_at 49 (by decide +kernel) (by decide +kernel)
theorem kF_0_34 : Cond.fieldLink RX0 34 "BarCutting$Plan" "pieceSize" "[I" ∈ gw := gw_at 50 (by decide +kernel) (by decide +kernel)
theorem kF_1_81 : Cond.fieldLink RX1 81 "BarCutting$Plan" "pieceSize" "[I" ∈ gw := gw_at 51 (by decide +kernel) (by decide +kernel)
theorem kF_3_18 : Cond.fieldLink RX3 18 "BarCutting$Plan" "pieceBar" "[I" ∈ gw := gw_at 52 (by decide +kernel) (by decide +kernel)
theorem kF_3_21 : Cond.fieldLink RX3 21 "BarCutting$Plan" "barDiameter" "[I" ∈ gw := gw_at 53 (by decide +kernel) (by decide +kernel)
theorem kF_8_164 : Cond.fieldLink RX8 164 "BarCutting$Plan" "barDiameter" "[I" ∈ gw := gw_at 54 (by decide +kernel) (by decide +kernel)
theorem kF_3_24 : Cond.fieldLink RX3 24 "BarCutting$Plan" "barSize" "[I" ∈ gw := gw_at 55 (by decide +kernel) (by decide +kernel)
theorem kF_8_167 : Cond.fieldLink RX8 167 "BarCutting$Plan" "barSize" "[I" ∈ gw := gw_at 56 (by decide +kernel) (by decide +kernel)
theorem kF_3_27 : Cond.fieldLink RX3 27 "BarCutting$Plan" "barRoom" "[I" ∈ gw := gw_at 57 (by decide +kernel) (by decide +kernel)
theorem kF_0_56 : Cond.fieldLink RX0 56 "BarCutting$Plan" "barRoom" "[I" ∈ gw := gw_at 58 (by decide +kernel) (by decide +kernel)
theorem kF_3_30 : Cond.fieldLink RX3 30 "BarCutting$Plan" "barPieces" "[I" ∈ gw := gw_at 59 (by decide +kernel) (by decide +kernel)
theorem kF_8_170 : Cond.fieldLink RX8 170 "BarCutting$Plan" "barPieces" "[I" ∈ gw := gw_at 60 (by decide +kernel) (by decide +kernel)
theorem kF_1_36 : Cond.fieldLink RX1 36 "BarCutting$Plan" "pieces" "I" ∈ gw := gw_at 61 (by decide +kernel) (by decide +kernel)
theorem kF_3_33 : Cond.fieldLink RX3 33 "BarCutting$Plan" "pieces" "I" ∈ gw := gw_at 62 (by decide +kernel) (by decide +kernel)
theorem kF_0_31 : Cond.fieldLink RX0 31 "BarCutting$Plan" "pieces" "I" ∈ gw := gw_at 63 (by decide +kernel) (by decide +kernel)
theorem kF_8_247 : Cond.fieldLink RX8 247 "BarCutting$Plan" "pieces" "I" ∈ gw := gw_at 64 (by decide +kernel) (by decide +kernel)
theorem kF_0_15 : Cond.fieldLink RX0 15 "BarCutting$Plan" "bars" "I" ∈ gw := gw_at 65 (by decide +kernel) (by decide +kernel)
theorem kF_3_37 : Cond.fieldLink RX3 37 "BarCutting$Plan" "bars" "I" ∈ gw := gw_at 66 (by decide +kernel) (by decide +kernel)
theorem kF_8_151 : Cond.fieldLink RX8 151 "BarCutting$Plan" "bars" "I" ∈ gw := gw_at 67 (by decide +kernel) (by decide +kernel)
theorem kF_3_40 : Cond.fieldLink RX3 40 "BarCutting$Plan" "diameters" "I" ∈ gw := gw_at 68 (by decide +kernel) (by decide +kernel)
theorem kF_8_161 : Cond.fieldLink RX8 161 "BarCutting$Plan" "diameters" "I" ∈ gw := gw_at 69 (by decide +kernel) (by decide +kernel)
theorem kF_3_43 : Cond.fieldLink RX3 43 "BarCutting$Plan" "leastWasteDiameters" "I" ∈ gw := gw_at 70 (by decide +kernel) (by decide +kernel)
theorem kF_8_158 : Cond.fieldLink RX8 158 "BarCutting$Plan" "leastWasteDiameters" "I" ∈ gw := gw_at 71 (by decide +kernel) (by decide +kernel)
theorem kF_3_46 : Cond.fieldLink RX3 46 "BarCutting$Plan" "done" "Z" ∈ gw := gw_at 72 (by decide +kernel) (by decide +kernel)
theorem kF_8_147 : Cond.fieldLink RX8 147 "BarCutting$Plan" "done" "Z" ∈ gw := gw_at 73 (by decide +kernel) (by decide +kernel)
theorem kA_int : Cond.arrayClass .int ∈ gw := gw_at 99 (by decide +kernel) (by decide +kernel)
theorem kL_8_45 : Cond.classLink RX8 45 RX1 ∈ gw := gw_at 100 (by decide +kernel) (by decide +kernel)
theorem kN_1 : Cond.instantiable RX1 11 ∈ gw := gw_at 101 (by decide +kernel) (by decide +kernel)
theorem kI_Lw_init : Cond.instanceMethod y_Lw_init ∈ gw := gw_at 103 (by decide +kernel) (by decide +kernel)
theorem kC_Lw_init : Cond.code y_Lw_init c_Lw_init 1 none ∈ gw := gw_at 104 (by decide +kernel) (by decide +kernel)
theorem kM_1_3 : Cond.methodLink RX1 3 Lib.objectInit ∈ gw := gw_at 105 (by decide +kernel) (by decide +kernel)
theorem kF_1_11 : Cond.fieldLink RX1 11 "BarCutting$LeastWaste" "sums" "[I" ∈ gw := gw_at 106 (by decide +kernel) (by decide +kernel)
theorem kF_1_15 : Cond.fieldLink RX1 15 "BarCutting$LeastWaste" "floors" "[I" ∈ gw := gw_at 107 (by decide +kernel) (by decide +kernel)
theorem kF_1_18 : Cond.fieldLink RX1 18 "BarCutting$LeastWaste" "sizes" "[I" ∈ gw := gw_at 108 (by decide +kernel) (by decide +kernel)
theorem kF_1_21 : Cond.fieldLink RX1 21 "BarCutting$LeastWaste" "left" "[I" ∈ gw := gw_at 109 (by decide +kernel) (by decide +kernel)
theorem kF_1_24 : Cond.fieldLink RX1 24 "BarCutting$LeastWaste" "kindOfBar" "[I" ∈ gw := gw_at 110 (by decide +kernel) (by decide +kernel)
theorem kF_1_27 : Cond.fieldLink RX1 27 "BarCutting$LeastWaste" "rowOfBar" "[I" ∈ gw := gw_at 111 (by decide +kernel) (by decide +kernel)
theorem kF_1_30 : Cond.fieldLink RX1 30 "BarCutting$LeastWaste" "bestKindOfBar" "[I" ∈ gw := gw_at 112 (by decide +kernel) (by decide +kernel)
theorem kF_1_33 : Cond.fieldLink RX1 33 "BarCutting$LeastWaste" "bestRowOfBar" "[I" ∈ gw := gw_at 113 (by decide +kernel) (by decide +kernel)
theorem kF_1_47 : Cond.fieldLink RX1 47 "BarCutting$LeastWaste" "kinds" "I" ∈ gw := gw_at 114 (by decide +kernel) (by decide +kernel)
theorem kF_1_67 : Cond.fieldLink RX1 67 "BarCutting$LeastWaste" "best" "I" ∈ gw := gw_at 115 (by decide +kernel) (by decide +kernel)
theorem kF_1_70 : Cond.fieldLink RX1 70 "BarCutting$LeastWaste" "bestBars" "I" ∈ gw := gw_at 116 (by decide +kernel) (by decide +kernel)
theorem kL_8_52 : Cond.classLink RX8 52 RX0 ∈ gw := gw_at 140 (by decide +kernel) (by decide +kernel)
theorem kN_0 : Cond.instantiable RX0 1 ∈ gw := gw_at 141 (by decide +kernel) (by decide +kernel)
theorem kI_Ff_init : Cond.instanceMethod y_Ff_init ∈ gw := gw_at 143 (by decide +kernel) (by decide +kernel)
theorem kC_Ff_init : Cond.code y_Ff_init c_Ff_init 1 none ∈ gw := gw_at 144 (by decide +kernel) (by decide +kernel)
theorem kM_0_3 : Cond.methodLink RX0 3 Lib.objectInit ∈ gw := gw_at 145 (by decide +kernel) (by decide +kernel)
theorem kF_0_9 : Cond.fieldLink RX0 9 "BarCutting$FirstFit" "left" "[I" ∈ gw := gw_at 146 (by decide +kernel) (by decide +kernel)
theorem kL_8_59 : Cond.classLink RX8 59 RX7 ∈ gw := gw_at 150 (by decide +kernel) (by decide +kernel)
theorem kN_7 : Cond.instantiable RX7 8 ∈ gw := gw_at 151 (by decide +kernel) (by decide +kernel)
theorem kI_Tr_init : Cond.instanceMethod y_Tr_init ∈ gw := gw_at 153 (by decide +kernel) (by decide +kernel)
theorem kC_Tr_init : Cond.code y_Tr_init c_Tr_init 1 none ∈ gw := gw_at 154 (by decide +kernel) (by decide +kernel)
theorem kM_7_3 : Cond.methodLink RX7 3 Lib.objectInit ∈ gw := gw_at 155 (by decide +kernel) (by decide +kernel)
theorem kF_7_11 : Cond.fieldLink RX7 11 "BarCutting$Track" "fromX" "[I" ∈ gw := gw_at 156 (by decide +kernel) (by decide +kernel)
theorem kF_7_15 : Cond.fieldLink RX7 15 "BarCutting$Track" "fromY" "[I" ∈ gw := gw_at 157 (by decide +kernel) (by decide +kernel)
theorem kF_7_18 : Cond.fieldLink RX7 18 "BarCutting$Track" "stepX" "[I" ∈ gw := gw_at 158 (by decide +kernel) (by decide +kernel)
theorem kF_8_204 : Cond.fieldLink RX8 204 "BarCutting$Track" "stepX" "[I" ∈ gw := gw_at 159 (by decide +kernel) (by decide +kernel)
theorem kF_7_21 : Cond.fieldLink RX7 21 "BarCutting$Track" "stepY" "[I" ∈ gw := gw_at 160 (by decide +kernel) (by decide +kernel)
theorem kF_8_207 : Cond.fieldLink RX8 207 "BarCutting$Track" "stepY" "[I" ∈ gw := gw_at 161 (by decide +kernel) (by decide +kernel)
theorem kF_7_24 : Cond.fieldLink RX7 24 "BarCutting$Track" "isLeg" "[Z" ∈ gw := gw_at 162 (by decide +kernel) (by decide +kernel)
theorem kF_7_28 : Cond.fieldLink RX7 28 "BarCutting$Track" "steps" "I" ∈ gw := gw_at 163 (by decide +kernel) (by decide +kernel)
theorem kF_8_201 : Cond.fieldLink RX8 201 "BarCutting$Track" "steps" "I" ∈ gw := gw_at 164 (by decide +kernel) (by decide +kernel)
theorem kF_7_37 : Cond.fieldLink RX7 37 "BarCutting$Track" "x" "I" ∈ gw := gw_at 165 (by decide +kernel) (by decide +kernel)
theorem kF_7_41 : Cond.fieldLink RX7 41 "BarCutting$Track" "y" "I" ∈ gw := gw_at 166 (by decide +kernel) (by decide +kernel)
theorem kA_boolean : Cond.arrayClass .boolean ∈ gw := gw_at 184 (by decide +kernel) (by decide +kernel)
theorem kF_8_12 : Cond.fieldLink RX8 12 "BarCutting" "signs" "LBarCutting$Signs;" ∈ gw := gw_at 185 (by decide +kernel) (by decide +kernel)
theorem kF_8_18 : Cond.fieldLink RX8 18 "BarCutting" "shapes" "[LBarCutting$Shape;" ∈ gw := gw_at 186 (by decide +kernel) (by decide +kernel)
theorem kF_8_24 : Cond.fieldLink RX8 24 "BarCutting" "lines" "[LBarCutting$Line;" ∈ gw := gw_at 187 (by decide +kernel) (by decide +kernel)
theorem kF_8_28 : Cond.fieldLink RX8 28 "BarCutting" "rules" "[I" ∈ gw := gw_at 188 (by decide +kernel) (by decide +kernel)
theorem kF_8_34 : Cond.fieldLink RX8 34 "BarCutting" "shelves" "[LBarCutting$Shelf;" ∈ gw := gw_at 189 (by decide +kernel) (by decide +kernel)
theorem kF_8_41 : Cond.fieldLink RX8 41 "BarCutting" "plan" "LBarCutting$Plan;" ∈ gw := gw_at 190 (by decide +kernel) (by decide +kernel)
theorem kF_8_48 : Cond.fieldLink RX8 48 "BarCutting" "leastWaste" "LBarCutting$LeastWaste;" ∈ gw := gw_at 191 (by decide +kernel) (by decide +kernel)
theorem kF_8_55 : Cond.fieldLink RX8 55 "BarCutting" "firstFit" "LBarCutting$FirstFit;" ∈ gw := gw_at 192 (by decide +kernel) (by decide +kernel)
theorem kF_8_62 : Cond.fieldLink RX8 62 "BarCutting" "track" "LBarCutting$Track;" ∈ gw := gw_at 193 (by decide +kernel) (by decide +kernel)
theorem kF_8_66 : Cond.fieldLink RX8 66 "BarCutting" "otherTrack" "LBarCutting$Track;" ∈ gw := gw_at 194 (by decide +kernel) (by decide +kernel)
theorem kF_8_69 : Cond.fieldLink RX8 69 "BarCutting" "shapeCount" "I" ∈ gw := gw_at 195 (by decide +kernel) (by decide +kernel)
theorem kF_8_73 : Cond.fieldLink RX8 73 "BarCutting" "lineCount" "I" ∈ gw := gw_at 196 (by decide +kernel) (by decide +kernel)
theorem kM_L_13 : Cond.methodLink RL 13 y_Bc_unit ∈ gw := gw_at 222 (by decide +kernel) (by decide +kernel)
theorem kI_Bc_unit : Cond.instanceMethod y_Bc_unit ∈ gw := gw_at 223 (by decide +kernel) (by decide +kernel)
theorem kV_Bc_unit : Cond.selects RX8 y_Bc_unit y_Bc_unit ∈ gw := gw_at 224 (by decide +kernel) (by decide +kernel)
theorem kC_Bc_unit : Cond.code y_Bc_unit c_Bc_unit 2 (some (.boolean)) ∈ gw := gw_at 225 (by decide +kernel) (by decide +kernel)
theorem kM_8_76 : Cond.methodLink RX8 76 y_Sg_collect ∈ gw := gw_at 226 (by decide +kernel) (by decide +kernel)
theorem kI_Sg_collect : Cond.instanceMethod y_Sg_collect ∈ gw := gw_at 227 (by decide +kernel) (by decide +kernel)
theorem kV_Sg_collect : Cond.selects RX6 y_Sg_collect y_Sg_collect ∈ gw := gw_at 228 (by decide +kernel) (by decide +kernel)
theorem kC_Sg_collect : Cond.code y_Sg_collect c_Sg_collect 2 (some (.boolean)) ∈ gw := gw_at 229 (by decide +kernel) (by decide +kernel)
theorem kM_L_18 : Cond.methodLink RL 18 y_Bc_shape ∈ gw := gw_at 230 (by decide +kernel) (by decide +kernel)
theorem kI_Bc_shape : Cond.instanceMethod y_Bc_shape ∈ gw := gw_at 231 (by decide +kernel) (by decide +kernel)
theorem kV_Bc_shape : Cond.selects RX8 y_Bc_shape y_Bc_shape ∈ gw := gw_at 232 (by decide +kernel) (by decide +kernel)
theorem kC_Bc_shape : Cond.code y_Bc_shape c_Bc_shape 4 (some (.int)) ∈ gw := gw_at 233 (by decide +kernel) (by decide +kernel)
theorem kM_8_80 : Cond.methodLink RX8 80 y_Sg_firstWrong ∈ gw := gw_at 234 (by decide +kernel) (by decide +kernel)
theorem kI_Sg_firstWrong : Cond.instanceMethod y_Sg_firstWrong ∈ gw := gw_at 235 (by decide +kernel) (by decide +kernel)
theorem kV_Sg_firstWrong : Cond.selects RX6 y_Sg_firstWrong y_Sg_firstWrong ∈ gw := gw_at 236 (by decide +kernel) (by decide +kernel)
theorem kC_Sg_firstWrong : Cond.code y_Sg_firstWrong c_Sg_firstWrong 3 (some (.int)) ∈ gw := gw_at 237 (by decide +kernel) (by decide +kernel)
theorem kM_6_19 : Cond.methodLink RX6 19 y_Sg_isLeg ∈ gw := gw_at 238 (by decide +kernel) (by decide +kernel)
theorem kS_Sg_isLeg : Cond.static y_Sg_isLeg ∈ gw := gw_at 239 (by decide +kernel) (by decide +kernel)
theorem kC_Sg_isLeg : Cond.code y_Sg_isLeg c_Sg_isLeg 2 (some (.boolean)) ∈ gw := gw_at 240 (by decide +kernel) (by decide +kernel)
theorem kM_6_23 : Cond.methodLink RX6 23 y_Sg_quartersOf ∈ gw := gw_at 241 (by decide +kernel) (by decide +kernel)
theorem kS_Sg_quartersOf : Cond.static y_Sg_quartersOf ∈ gw := gw_at 242 (by decide +kernel) (by decide +kernel)
theorem kC_Sg_quartersOf : Cond.code y_Sg_quartersOf c_Sg_quartersOf 1 (some (.int)) ∈ gw := gw_at 243 (by decide +kernel) (by decide +kernel)
theorem kM_8_87 : Cond.methodLink RX8 87 y_Sg_toShape ∈ gw := gw_at 244 (by decide +kernel) (by decide +kernel)
theorem kI_Sg_toShape : Cond.instanceMethod y_Sg_toShape ∈ gw := gw_at 245 (by decide +kernel) (by decide +kernel)
theorem kV_Sg_toShape : Cond.selects RX6 y_Sg_toShape y_Sg_toShape ∈ gw := gw_at 246 (by decide +kernel) (by decide +kernel)
theorem kC_Sg_toShape : Cond.code y_Sg_toShape c_Sg_toShape 4 (some (.object "BarCutting$Shape")) ∈ gw := gw_at 247 (by decide +kernel) (by decide +kernel)
theorem kL_6_27 : Cond.classLink RX6 27 RX4 ∈ gw := gw_at 248 (by decide +kernel) (by decide +kernel)
theorem kN_4 : Cond.instantiable RX4 3 ∈ gw := gw_at 249 (by decide +kernel) (by decide +kernel)
theorem kM_6_29 : Cond.methodLink RX6 29 y_Sh_init ∈ gw := gw_at 250 (by decide +kernel) (by decide +kernel)
theorem kI_Sh_init : Cond.instanceMethod y_Sh_init ∈ gw := gw_at 251 (by decide +kernel) (by decide +kernel)
theorem kC_Sh_init : Cond.code y_Sh_init c_Sh_init 3 none ∈ gw := gw_at 252 (by decide +kernel) (by decide +kernel)
theorem kM_4_1 : Cond.methodLink RX4 1 Lib.objectInit ∈ gw := gw_at 253 (by decide +kernel) (by decide +kernel)
theorem kF_4_7 : Cond.fieldLink RX4 7 "BarCutting$Shape" "text" "[C" ∈ gw := gw_at 254 (by decide +kernel) (by decide +kernel)
theorem kF_2_33 : Cond.fieldLink RX2 33 "BarCutting$Shape" "text" "[C" ∈ gw := gw_at 255 (by decide +kernel) (by decide +kernel)
theorem kF_4_13 : Cond.fieldLink RX4 13 "BarCutting$Shape" "legs" "I" ∈ gw := gw_at 256 (by decide +kernel) (by decide +kernel)
theorem kF_7_46 : Cond.fieldLink RX7 46 "BarCutting$Shape" "legs" "I" ∈ gw := gw_at 257 (by decide +kernel) (by decide +kernel)
theorem kF_2_29 : Cond.fieldLink RX2 29 "BarCutting$Shape" "legs" "I" ∈ gw := gw_at 258 (by decide +kernel) (by decide +kernel)
theorem kF_8_110 : Cond.fieldLink RX8 110 "BarCutting$Shape" "legs" "I" ∈ gw := gw_at 259 (by decide +kernel) (by decide +kernel)
theorem kF_4_17 : Cond.fieldLink RX4 17 "BarCutting$Shape" "quarters" "I" ∈ gw := gw_at 260 (by decide +kernel) (by decide +kernel)
theorem kF_8_239 : Cond.fieldLink RX8 239 "BarCutting$Shape" "quarters" "I" ∈ gw := gw_at 261 (by decide +kernel) (by decide +kernel)
theorem kM_L_25 : Cond.methodLink RL 25 y_Bc_rule ∈ gw := gw_at 269 (by decide +kernel) (by decide +kernel)
theorem kI_Bc_rule : Cond.instanceMethod y_Bc_rule ∈ gw := gw_at 270 (by decide +kernel) (by decide +kernel)
theorem kV_Bc_rule : Cond.selects RX8 y_Bc_rule y_Bc_rule ∈ gw := gw_at 271 (by decide +kernel) (by decide +kernel)
theorem kC_Bc_rule : Cond.code y_Bc_rule c_Bc_rule 4 (some (.boolean)) ∈ gw := gw_at 272 (by decide +kernel) (by decide +kernel)
theorem kM_8_91 : Cond.methodLink RX8 91 y_Bc_isDiameter ∈ gw := gw_at 273 (by decide +kernel) (by decide +kernel)
theorem kS_Bc_isDiameter : Cond.static y_Bc_isDiameter ∈ gw := gw_at 274 (by decide +kernel) (by decide +kernel)
theorem kC_Bc_isDiameter : Cond.code y_Bc_isDiameter c_Bc_isDiameter 1 (some (.boolean)) ∈ gw := gw_at 275 (by decide +kernel) (by decide +kernel)
theorem kK_8_94 : Cond.constantLong RX8 94 500 ∈ gw := gw_at 276 (by decide +kernel) (by decide +kernel)
theorem kM_8_96 : Cond.methodLink RX8 96 y_Pl_clear ∈ gw := gw_at 277 (by decide +kernel) (by decide +kernel)
theorem kI_Pl_clear : Cond.instanceMethod y_Pl_clear ∈ gw := gw_at 278 (by decide +kernel) (by decide +kernel)
theorem kV_Pl_clear : Cond.selects RX3 y_Pl_clear y_Pl_clear ∈ gw := gw_at 279 (by decide +kernel) (by decide +kernel)
theorem kC_Pl_clear : Cond.code y_Pl_clear c_Pl_clear 1 none ∈ gw := gw_at 280 (by decide +kernel) (by decide +kernel)
theorem kM_L_30 : Cond.methodLink RL 30 y_Bc_bar ∈ gw := gw_at 281 (by decide +kernel) (by decide +kernel)
theorem kI_Bc_bar : Cond.instanceMethod y_Bc_bar ∈ gw := gw_at 282 (by decide +kernel) (by decide +kernel)
theorem kV_Bc_bar : Cond.selects RX8 y_Bc_bar y_Bc_bar ∈ gw := gw_at 283 (by decide +kernel) (by decide +kernel)
theorem kC_Bc_bar : Cond.code y_Bc_bar c_Bc_bar 4 (some (.int)) ∈ gw := gw_at 284 (by decide +kernel) (by decide +kernel)
theorem kN_2 : Cond.instantiable RX2 9 ∈ gw := gw_at 285 (by decide +kernel) (by decide +kernel)
theorem kM_8_99 : Cond.methodLink RX8 99 y_Ln_init ∈ gw := gw_at 286 (by decide +kernel) (by decide +kernel)
theorem kI_Ln_init : Cond.instanceMethod y_Ln_init ∈ gw := gw_at 287 (by decide +kernel) (by decide +kernel)
theorem kC_Ln_init : Cond.code y_Ln_init c_Ln_init 5 none ∈ gw := gw_at 288 (by decide +kernel) (by decide +kernel)
theorem kM_2_3 : Cond.methodLink RX2 3 Lib.objectInit ∈ gw := gw_at 289 (by decide +kernel) (by decide +kernel)
theorem kF_2_15 : Cond.fieldLink RX2 15 "BarCutting$Line" "shapeNumber" "I" ∈ gw := gw_at 290 (by decide +kernel) (by decide +kernel)
theorem kF_8_132 : Cond.fieldLink RX8 132 "BarCutting$Line" "shapeNumber" "I" ∈ gw := gw_at 291 (by decide +kernel) (by decide +kernel)
theorem kF_2_19 : Cond.fieldLink RX2 19 "BarCutting$Line" "shape" "LBarCutting$Shape;" ∈ gw := gw_at 292 (by decide +kernel) (by decide +kernel)
theorem kF_7_42 : Cond.fieldLink RX7 42 "BarCutting$Line" "shape" "LBarCutting$Shape;" ∈ gw := gw_at 293 (by decide +kernel) (by decide +kernel)
theorem kF_8_106 : Cond.fieldLink RX8 106 "BarCutting$Line" "shape" "LBarCutting$Shape;" ∈ gw := gw_at 294 (by decide +kernel) (by decide +kernel)
theorem kF_2_23 : Cond.fieldLink RX2 23 "BarCutting$Line" "diameter" "I" ∈ gw := gw_at 295 (by decide +kernel) (by decide +kernel)
theorem kF_7_55 : Cond.fieldLink RX7 55 "BarCutting$Line" "diameter" "I" ∈ gw := gw_at 296 (by decide +kernel) (by decide +kernel)
theorem kF_8_129 : Cond.fieldLink RX8 129 "BarCutting$Line" "diameter" "I" ∈ gw := gw_at 297 (by decide +kernel) (by decide +kernel)
theorem kF_2_26 : Cond.fieldLink RX2 26 "BarCutting$Line" "bars" "I" ∈ gw := gw_at 298 (by decide +kernel) (by decide +kernel)
theorem kF_8_123 : Cond.fieldLink RX8 123 "BarCutting$Line" "bars" "I" ∈ gw := gw_at 299 (by decide +kernel) (by decide +kernel)
theorem kF_2_9 : Cond.fieldLink RX2 9 "BarCutting$Line" "legs" "[I" ∈ gw := gw_at 300 (by decide +kernel) (by decide +kernel)
theorem kF_7_62 : Cond.fieldLink RX7 62 "BarCutting$Line" "legs" "[I" ∈ gw := gw_at 301 (by decide +kernel) (by decide +kernel)
theorem kF_8_115 : Cond.fieldLink RX8 115 "BarCutting$Line" "legs" "[I" ∈ gw := gw_at 302 (by decide +kernel) (by decide +kernel)
theorem kF_8_190 : Cond.fieldLink RX8 190 "BarCutting$Line" "placed" "Z" ∈ gw := gw_at 303 (by decide +kernel) (by decide +kernel)
theorem kF_7_32 : Cond.fieldLink RX7 32 "BarCutting$Line" "x" "I" ∈ gw := gw_at 304 (by decide +kernel) (by decide +kernel)
theorem kF_8_181 : Cond.fieldLink RX8 181 "BarCutting$Line" "x" "I" ∈ gw := gw_at 305 (by decide +kernel) (by decide +kernel)
theorem kF_7_38 : Cond.fieldLink RX7 38 "BarCutting$Line" "y" "I" ∈ gw := gw_at 306 (by decide +kernel) (by decide +kernel)
theorem kF_8_184 : Cond.fieldLink RX8 184 "BarCutting$Line" "y" "I" ∈ gw := gw_at 307 (by decide +kernel) (by decide +kernel)
theorem kF_8_187 : Cond.fieldLink RX8 187 "BarCutting$Line" "z" "I" ∈ gw := gw_at 308 (by decide +kernel) (by decide +kernel)
theorem kM_L_35 : Cond.methodLink RL 35 y_Bc_leg ∈ gw := gw_at 328 (by decide +kernel) (by decide +kernel)
theorem kI_Bc_leg : Cond.instanceMethod y_Bc_leg ∈ gw := gw_at 329 (by decide +kernel) (by decide +kernel)
theorem kV_Bc_leg : Cond.selects RX8 y_Bc_leg y_Bc_leg ∈ gw := gw_at 330 (by decide +kernel) (by decide +kernel)
theorem kC_Bc_leg : Cond.code y_Bc_leg c_Bc_leg 6 (some (.boolean)) ∈ gw := gw_at 331 (by decide +kernel) (by decide +kernel)
theorem kM_8_102 : Cond.methodLink RX8 102 y_Bc_lineAt ∈ gw := gw_at 332 (by decide +kernel) (by decide +kernel)
theorem kI_Bc_lineAt : Cond.instanceMethod y_Bc_lineAt ∈ gw := gw_at 334 (by decide +kernel) (by decide +kernel)
theorem kC_Bc_lineAt : Cond.code y_Bc_lineAt c_Bc_lineAt 2 (some (.object "BarCutting$Line")) ∈ gw := gw_at 335 (by decide +kernel) (by decide +kernel)
theorem kK_8_113 : Cond.constantLong RX8 113 20000 ∈ gw := gw_at 336 (by decide +kernel) (by decide +kernel)
theorem kM_L_40 : Cond.methodLink RL 40 y_Bc_length ∈ gw := gw_at 337 (by decide +kernel) (by decide +kernel)
theorem kI_Bc_length : Cond.instanceMethod y_Bc_length ∈ gw := gw_at 338 (by decide +kernel) (by decide +kernel)
theorem kV_Bc_length : Cond.selects RX8 y_Bc_length y_Bc_length ∈ gw := gw_at 339 (by decide +kernel) (by decide +kernel)
theorem kC_Bc_length : Cond.code y_Bc_length c_Bc_length 4 (some (.long)) ∈ gw := gw_at 340 (by decide +kernel) (by decide +kernel)
theorem kK_8_117 : Cond.constantLong RX8 117 (-1) ∈ gw := gw_at 341 (by decide +kernel) (by decide +kernel)
theorem kM_8_119 : Cond.methodLink RX8 119 y_Bc_cutLength ∈ gw := gw_at 342 (by decide +kernel) (by decide +kernel)
theorem kI_Bc_cutLength : Cond.instanceMethod y_Bc_cutLength ∈ gw := gw_at 344 (by decide +kernel) (by decide +kernel)
theorem kC_Bc_cutLength : Cond.code y_Bc_cutLength c_Bc_cutLength 3 (some (.int)) ∈ gw := gw_at 345 (by decide +kernel) (by decide +kernel)
theorem kM_8_126 : Cond.methodLink RX8 126 y_Ln_sumOfLegs ∈ gw := gw_at 346 (by decide +kernel) (by decide +kernel)
theorem kI_Ln_sumOfLegs : Cond.instanceMethod y_Ln_sumOfLegs ∈ gw := gw_at 347 (by decide +kernel) (by decide +kernel)
theorem kV_Ln_sumOfLegs : Cond.selects RX2 y_Ln_sumOfLegs y_Ln_sumOfLegs ∈ gw := gw_at 348 (by decide +kernel) (by decide +kernel)
theorem kC_Ln_sumOfLegs : Cond.code y_Ln_sumOfLegs c_Ln_sumOfLegs 3 (some (.int)) ∈ gw := gw_at 349 (by decide +kernel) (by decide +kernel)
theorem kM_8_242 : Cond.methodLink RX8 242 ⟨"java/lang/Math", "max", "(II)I"⟩ ∈ gw := gw_at 350 (by decide +kernel) (by decide +kernel)
theorem kS_max : Cond.static Lib.Math.max.name ∈ gw := gw_at 351 (by decide +kernel) (by decide +kernel)
theorem kC_max : Cond.code Lib.Math.max.name Lib.Math.max.code 2 (some .int) ∈ gw := gw_at 352 (by decide +kernel) (by decide +kernel)
theorem kM_L_45 : Cond.methodLink RL 45 y_Bc_stock ∈ gw := gw_at 353 (by decide +kernel) (by decide +kernel)
theorem kI_Bc_stock : Cond.instanceMethod y_Bc_stock ∈ gw := gw_at 354 (by decide +kernel) (by decide +kernel)
theorem kV_Bc_stock : Cond.selects RX8 y_Bc_stock y_Bc_stock ∈ gw := gw_at 355 (by decide +kernel) (by decide +kernel)
theorem kC_Bc_stock : Cond.code y_Bc_stock c_Bc_stock 6 (some (.boolean)) ∈ gw := gw_at 356 (by decide +kernel) (by decide +kernel)
theorem kK_8_135 : Cond.constantLong RX8 135 30000 ∈ gw := gw_at 357 (by decide +kernel) (by decide +kernel)
theorem kN_5 : Cond.instantiable RX5 3 ∈ gw := gw_at 358 (by decide +kernel) (by decide +kernel)
theorem kI_Sf_init : Cond.instanceMethod y_Sf_init ∈ gw := gw_at 360 (by decide +kernel) (by decide +kernel)
theorem kC_Sf_init : Cond.code y_Sf_init c_Sf_init 1 none ∈ gw := gw_at 361 (by decide +kernel) (by decide +kernel)
theorem kM_5_3 : Cond.methodLink RX5 3 Lib.objectInit ∈ gw := gw_at 362 (by decide +kernel) (by decide +kernel)
theorem kF_5_9 : Cond.fieldLink RX5 9 "BarCutting$Shelf" "sizes" "[I" ∈ gw := gw_at 363 (by decide +kernel) (by decide +kernel)
theorem kF_1_48 : Cond.fieldLink RX1 48 "BarCutting$Shelf" "sizes" "[I" ∈ gw := gw_at 364 (by decide +kernel) (by decide +kernel)
theorem kF_0_45 : Cond.fieldLink RX0 45 "BarCutting$Shelf" "sizes" "[I" ∈ gw := gw_at 365 (by decide +kernel) (by decide +kernel)
theorem kF_5_15 : Cond.fieldLink RX5 15 "BarCutting$Shelf" "bars" "[I" ∈ gw := gw_at 366 (by decide +kernel) (by decide +kernel)
theorem kF_0_21 : Cond.fieldLink RX0 21 "BarCutting$Shelf" "bars" "[I" ∈ gw := gw_at 367 (by decide +kernel) (by decide +kernel)
theorem kF_1_55 : Cond.fieldLink RX1 55 "BarCutting$Shelf" "bars" "[I" ∈ gw := gw_at 368 (by decide +kernel) (by decide +kernel)
theorem kF_5_18 : Cond.fieldLink RX5 18 "BarCutting$Shelf" "kinds" "I" ∈ gw := gw_at 369 (by decide +kernel) (by decide +kernel)
theorem kF_1_42 : Cond.fieldLink RX1 42 "BarCutting$Shelf" "kinds" "I" ∈ gw := gw_at 370 (by decide +kernel) (by decide +kernel)
theorem kF_0_59 : Cond.fieldLink RX0 59 "BarCutting$Shelf" "kinds" "I" ∈ gw := gw_at 371 (by decide +kernel) (by decide +kernel)
theorem kM_8_138 : Cond.methodLink RX8 138 y_Sf_add ∈ gw := gw_at 379 (by decide +kernel) (by decide +kernel)
theorem kI_Sf_add : Cond.instanceMethod y_Sf_add ∈ gw := gw_at 380 (by decide +kernel) (by decide +kernel)
theorem kV_Sf_add : Cond.selects RX5 y_Sf_add y_Sf_add ∈ gw := gw_at 381 (by decide +kernel) (by decide +kernel)
theorem kC_Sf_add : Cond.code y_Sf_add c_Sf_add 3 (some (.boolean)) ∈ gw := gw_at 382 (by decide +kernel) (by decide +kernel)
theorem kM_L_50 : Cond.methodLink RL 50 y_Bc_run ∈ gw := gw_at 383 (by decide +kernel) (by decide +kernel)
theorem kI_Bc_run : Cond.instanceMethod y_Bc_run ∈ gw := gw_at 384 (by decide +kernel) (by decide +kernel)
theorem kV_Bc_run : Cond.selects RX8 y_Bc_run y_Bc_run ∈ gw := gw_at 385 (by decide +kernel) (by decide +kernel)
theorem kC_Bc_run : Cond.code y_Bc_run c_Bc_run 4 (some (.int)) ∈ gw := gw_at 386 (by decide +kernel) (by decide +kernel)
theorem kK_8_142 : Cond.constantLong RX8 142 8 ∈ gw := gw_at 387 (by decide +kernel) (by decide +kernel)
theorem kM_8_144 : Cond.methodLink RX8 144 y_Bc_cutDiameter ∈ gw := gw_at 388 (by decide +kernel) (by decide +kernel)
theorem kI_Bc_cutDiameter : Cond.instanceMethod y_Bc_cutDiameter ∈ gw := gw_at 390 (by decide +kernel) (by decide +kernel)
theorem kC_Bc_cutDiameter : Cond.code y_Bc_cutDiameter c_Bc_cutDiameter 6 (some (.boolean)) ∈ gw := gw_at 391 (by decide +kernel) (by decide +kernel)
theorem kM_8_250 : Cond.methodLink RX8 250 y_Bc_gatherPieces ∈ gw := gw_at 392 (by decide +kernel) (by decide +kernel)
theorem kI_Bc_gatherPieces : Cond.instanceMethod y_Bc_gatherPieces ∈ gw := gw_at 394 (by decide +kernel) (by decide +kernel)
theorem kC_Bc_gatherPieces : Cond.code y_Bc_gatherPieces c_Bc_gatherPieces 7 (some (.boolean)) ∈ gw := gw_at 395 (by decide +kernel) (by decide +kernel)
theorem kM_8_258 : Cond.methodLink RX8 258 y_Pl_addPiece ∈ gw := gw_at 396 (by decide +kernel) (by decide +kernel)
theorem kI_Pl_addPiece : Cond.instanceMethod y_Pl_addPiece ∈ gw := gw_at 397 (by decide +kernel) (by decide +kernel)
theorem kV_Pl_addPiece : Cond.selects RX3 y_Pl_addPiece y_Pl_addPiece ∈ gw := gw_at 398 (by decide +kernel) (by decide +kernel)
theorem kC_Pl_addPiece : Cond.code y_Pl_addPiece c_Pl_addPiece 5 none ∈ gw := gw_at 399 (by decide +kernel) (by decide +kernel)
theorem kM_8_253 : Cond.methodLink RX8 253 y_Ff_cut ∈ gw := gw_at 400 (by decide +kernel) (by decide +kernel)
theorem kI_Ff_cut : Cond.instanceMethod y_Ff_cut ∈ gw := gw_at 401 (by decide +kernel) (by decide +kernel)
theorem kV_Ff_cut : Cond.selects RX0 y_Ff_cut y_Ff_cut ∈ gw := gw_at 402 (by decide +kernel) (by decide +kernel)
theorem kC_Ff_cut : Cond.code y_Ff_cut c_Ff_cut 10 (some (.boolean)) ∈ gw := gw_at 403 (by decide +kernel) (by decide +kernel)
theorem kM_0_25 : Cond.methodLink RX0 25 ⟨"java/lang/System", "arraycopy", "(Ljava/lang/Object;ILjava/lang/Object;II)V"⟩ ∈ gw := gw_at 404 (by decide +kernel) (by decide +kernel)
theorem kS_copy : Cond.static arraycopyName ∈ gw := gw_at 405 (by decide +kernel) (by decide +kernel)
theorem kN_copy : Cond.native arraycopyName ∈ gw := gw_at 406 (by decide +kernel) (by decide +kernel)
theorem kM_0_37 : Cond.methodLink RX0 37 y_Ff_firstWithRoom ∈ gw := gw_at 407 (by decide +kernel) (by decide +kernel)
theorem kS_Ff_firstWithRoom : Cond.static y_Ff_firstWithRoom ∈ gw := gw_at 408 (by decide +kernel) (by decide +kernel)
theorem kC_Ff_firstWithRoom : Cond.code y_Ff_firstWithRoom c_Ff_firstWithRoom 4 (some (.int)) ∈ gw := gw_at 409 (by decide +kernel) (by decide +kernel)
theorem kM_0_41 : Cond.methodLink RX0 41 y_Ff_leastKindFor ∈ gw := gw_at 410 (by decide +kernel) (by decide +kernel)
theorem kI_Ff_leastKindFor : Cond.instanceMethod y_Ff_leastKindFor ∈ gw := gw_at 412 (by decide +kernel) (by decide +kernel)
theorem kC_Ff_leastKindFor : Cond.code y_Ff_leastKindFor c_Ff_leastKindFor 6 (some (.int)) ∈ gw := gw_at 413 (by decide +kernel) (by decide +kernel)
theorem kM_0_48 : Cond.methodLink RX0 48 y_Pl_openBar ∈ gw := gw_at 414 (by decide +kernel) (by decide +kernel)
theorem kI_Pl_openBar : Cond.instanceMethod y_Pl_openBar ∈ gw := gw_at 415 (by decide +kernel) (by decide +kernel)
theorem kV_Pl_openBar : Cond.selects RX3 y_Pl_openBar y_Pl_openBar ∈ gw := gw_at 416 (by decide +kernel) (by decide +kernel)
theorem kC_Pl_openBar : Cond.code y_Pl_openBar c_Pl_openBar 3 (some (.int)) ∈ gw := gw_at 417 (by decide +kernel) (by decide +kernel)
theorem kM_0_52 : Cond.methodLink RX0 52 y_Pl_putPiece ∈ gw := gw_at 418 (by decide +kernel) (by decide +kernel)
theorem kI_Pl_putPiece : Cond.instanceMethod y_Pl_putPiece ∈ gw := gw_at 419 (by decide +kernel) (by decide +kernel)
theorem kV_Pl_putPiece : Cond.selects RX3 y_Pl_putPiece y_Pl_putPiece ∈ gw := gw_at 420 (by decide +kernel) (by decide +kernel)
theorem kC_Pl_putPiece : Cond.code y_Pl_putPiece c_Pl_putPiece 3 none ∈ gw := gw_at 421 (by decide +kernel) (by decide +kernel)
theorem kM_8_257 : Cond.methodLink RX8 257 y_Lw_cut ∈ gw := gw_at 422 (by decide +kernel) (by decide +kernel)
theorem kI_Lw_cut : Cond.instanceMethod y_Lw_cut ∈ gw := gw_at 423 (by decide +kernel) (by decide +kernel)
theorem kV_Lw_cut : Cond.selects RX1 y_Lw_cut y_Lw_cut ∈ gw := gw_at 424 (by decide +kernel) (by decide +kernel)
theorem kC_Lw_cut : Cond.code y_Lw_cut c_Lw_cut 6 (some (.boolean)) ∈ gw := gw_at 425 (by decide +kernel) (by decide +kernel)
theorem kM_1_49 : Cond.methodLink RX1 49 ⟨"java/lang/System", "arraycopy", "(Ljava/lang/Object;ILjava/lang/Object;II)V"⟩ ∈ gw := gw_at 426 (by decide +kernel) (by decide +kernel)
theorem kM_1_58 : Cond.methodLink RX1 58 y_Lw_sumSets ∈ gw := gw_at 427 (by decide +kernel) (by decide +kernel)
theorem kI_Lw_sumSets : Cond.instanceMethod y_Lw_sumSets ∈ gw := gw_at 429 (by decide +kernel) (by decide +kernel)
theorem kC_Lw_sumSets : Cond.code y_Lw_sumSets c_Lw_sumSets 8 none ∈ gw := gw_at 430 (by decide +kernel) (by decide +kernel)
theorem kM_1_62 : Cond.methodLink RX1 62 y_Lw_findFloors ∈ gw := gw_at 431 (by decide +kernel) (by decide +kernel)
theorem kI_Lw_findFloors : Cond.instanceMethod y_Lw_findFloors ∈ gw := gw_at 433 (by decide +kernel) (by decide +kernel)
theorem kC_Lw_findFloors : Cond.code y_Lw_findFloors c_Lw_findFloors 6 none ∈ gw := gw_at 434 (by decide +kernel) (by decide +kernel)
theorem kM_1_84 : Cond.methodLink RX1 84 y_Lw_highestBit ∈ gw := gw_at 435 (by decide +kernel) (by decide +kernel)
theorem kS_Lw_highestBit : Cond.static y_Lw_highestBit ∈ gw := gw_at 436 (by decide +kernel) (by decide +kernel)
theorem kC_Lw_highestBit : Cond.code y_Lw_highestBit c_Lw_highestBit 2 (some (.int)) ∈ gw := gw_at 437 (by decide +kernel) (by decide +kernel)
theorem kK_1_66 : Cond.constant RX1 66 268435456 ∈ gw := gw_at 438 (by decide +kernel) (by decide +kernel)
theorem kM_1_88 : Cond.methodLink RX1 88 y_Lw_costOfCheapestBar ∈ gw := gw_at 439 (by decide +kernel) (by decide +kernel)
theorem kI_Lw_costOfCheapestBar : Cond.instanceMethod y_Lw_costOfCheapestBar ∈ gw := gw_at 441 (by decide +kernel) (by decide +kernel)
theorem kC_Lw_costOfCheapestBar : Cond.code y_Lw_costOfCheapestBar c_Lw_costOfCheapestBar 4 (some (.int)) ∈ gw := gw_at 442 (by decide +kernel) (by decide +kernel)
theorem kM_1_97 : Cond.methodLink RX1 97 y_Lw_costOfBar ∈ gw := gw_at 443 (by decide +kernel) (by decide +kernel)
theorem kI_Lw_costOfBar : Cond.instanceMethod y_Lw_costOfBar ∈ gw := gw_at 445 (by decide +kernel) (by decide +kernel)
theorem kC_Lw_costOfBar : Cond.code y_Lw_costOfBar c_Lw_costOfBar 2 (some (.int)) ∈ gw := gw_at 446 (by decide +kernel) (by decide +kernel)
theorem kM_1_91 : Cond.methodLink RX1 91 ⟨"java/lang/Math", "min", "(II)I"⟩ ∈ gw := gw_at 447 (by decide +kernel) (by decide +kernel)
theorem kS_min : Cond.static Lib.Math.min.name ∈ gw := gw_at 448 (by decide +kernel) (by decide +kernel)
theorem kC_min : Cond.code Lib.Math.min.name Lib.Math.min.code 2 (some .int) ∈ gw := gw_at 449 (by decide +kernel) (by decide +kernel)
theorem kM_1_73 : Cond.methodLink RX1 73 y_Lw_search ∈ gw := gw_at 450 (by decide +kernel) (by decide +kernel)
theorem kI_Lw_search : Cond.instanceMethod y_Lw_search ∈ gw := gw_at 452 (by decide +kernel) (by decide +kernel)
theorem kC_Lw_search : Cond.code y_Lw_search c_Lw_search 5 none ∈ gw := gw_at 453 (by decide +kernel) (by decide +kernel)
theorem kM_1_100 : Cond.methodLink RX1 100 y_Lw_keep ∈ gw := gw_at 454 (by decide +kernel) (by decide +kernel)
theorem kI_Lw_keep : Cond.instanceMethod y_Lw_keep ∈ gw := gw_at 456 (by decide +kernel) (by decide +kernel)
theorem kC_Lw_keep : Cond.code y_Lw_keep c_Lw_keep 4 none ∈ gw := gw_at 457 (by decide +kernel) (by decide +kernel)
theorem kM_1_104 : Cond.methodLink RX1 104 y_Lw_searchRows ∈ gw := gw_at 458 (by decide +kernel) (by decide +kernel)
theorem kI_Lw_searchRows : Cond.instanceMethod y_Lw_searchRows ∈ gw := gw_at 460 (by decide +kernel) (by decide +kernel)
theorem kC_Lw_searchRows : Cond.code y_Lw_searchRows c_Lw_searchRows 7 none ∈ gw := gw_at 461 (by decide +kernel) (by decide +kernel)
theorem kM_1_77 : Cond.methodLink RX1 77 y_Lw_writeBest ∈ gw := gw_at 462 (by decide +kernel) (by decide +kernel)
theorem kI_Lw_writeBest : Cond.instanceMethod y_Lw_writeBest ∈ gw := gw_at 464 (by decide +kernel) (by decide +kernel)
theorem kC_Lw_writeBest : Cond.code y_Lw_writeBest c_Lw_writeBest 7 (some (.boolean)) ∈ gw := gw_at 465 (by decide +kernel) (by decide +kernel)
theorem kM_1_107 : Cond.methodLink RX1 107 y_Pl_openBar ∈ gw := gw_at 466 (by decide +kernel) (by decide +kernel)
theorem kM_1_110 : Cond.methodLink RX1 110 y_Pl_putPiece ∈ gw := gw_at 467 (by decide +kernel) (by decide +kernel)
theorem kM_L_55 : Cond.methodLink RL 55 y_Bc_loss ∈ gw := gw_at 468 (by decide +kernel) (by decide +kernel)
theorem kI_Bc_loss : Cond.instanceMethod y_Bc_loss ∈ gw := gw_at 469 (by decide +kernel) (by decide +kernel)
theorem kV_Bc_loss : Cond.selects RX8 y_Bc_loss y_Bc_loss ∈ gw := gw_at 470 (by decide +kernel) (by decide +kernel)
theorem kC_Bc_loss : Cond.code y_Bc_loss c_Bc_loss 2 (some (.long)) ∈ gw := gw_at 471 (by decide +kernel) (by decide +kernel)
theorem kM_8_152 : Cond.methodLink RX8 152 y_Pl_sumOfBars ∈ gw := gw_at 472 (by decide +kernel) (by decide +kernel)
theorem kI_Pl_sumOfBars : Cond.instanceMethod y_Pl_sumOfBars ∈ gw := gw_at 473 (by decide +kernel) (by decide +kernel)
theorem kV_Pl_sumOfBars : Cond.selects RX3 y_Pl_sumOfBars y_Pl_sumOfBars ∈ gw := gw_at 474 (by decide +kernel) (by decide +kernel)
theorem kC_Pl_sumOfBars : Cond.code y_Pl_sumOfBars c_Pl_sumOfBars 3 (some (.int)) ∈ gw := gw_at 475 (by decide +kernel) (by decide +kernel)
theorem kM_8_155 : Cond.methodLink RX8 155 y_Pl_sumOfPieces ∈ gw := gw_at 476 (by decide +kernel) (by decide +kernel)
theorem kI_Pl_sumOfPieces : Cond.instanceMethod y_Pl_sumOfPieces ∈ gw := gw_at 477 (by decide +kernel) (by decide +kernel)
theorem kV_Pl_sumOfPieces : Cond.selects RX3 y_Pl_sumOfPieces y_Pl_sumOfPieces ∈ gw := gw_at 478 (by decide +kernel) (by decide +kernel)
theorem kC_Pl_sumOfPieces : Cond.code y_Pl_sumOfPieces c_Pl_sumOfPieces 3 (some (.int)) ∈ gw := gw_at 479 (by decide +kernel) (by decide +kernel)
theorem kM_L_60 : Cond.methodLink RL 60 y_Bc_bound ∈ gw := gw_at 480 (by decide +kernel) (by decide +kernel)
theorem kI_Bc_bound : Cond.instanceMethod y_Bc_bound ∈ gw := gw_at 481 (by decide +kernel) (by decide +kernel)
theorem kV_Bc_bound : Cond.selects RX8 y_Bc_bound y_Bc_bound ∈ gw := gw_at 482 (by decide +kernel) (by decide +kernel)
theorem kC_Bc_bound : Cond.code y_Bc_bound c_Bc_bound 2 (some (.long)) ∈ gw := gw_at 483 (by decide +kernel) (by decide +kernel)
theorem kM_L_64 : Cond.methodLink RL 64 y_Bc_proved ∈ gw := gw_at 484 (by decide +kernel) (by decide +kernel)
theorem kI_Bc_proved : Cond.instanceMethod y_Bc_proved ∈ gw := gw_at 485 (by decide +kernel) (by decide +kernel)
theorem kV_Bc_proved : Cond.selects RX8 y_Bc_proved y_Bc_proved ∈ gw := gw_at 486 (by decide +kernel) (by decide +kernel)
theorem kC_Bc_proved : Cond.code y_Bc_proved c_Bc_proved 1 (some (.boolean)) ∈ gw := gw_at 487 (by decide +kernel) (by decide +kernel)
theorem kM_L_69 : Cond.methodLink RL 69 y_Bc_pattern ∈ gw := gw_at 488 (by decide +kernel) (by decide +kernel)
theorem kI_Bc_pattern : Cond.instanceMethod y_Bc_pattern ∈ gw := gw_at 489 (by decide +kernel) (by decide +kernel)
theorem kV_Bc_pattern : Cond.selects RX8 y_Bc_pattern y_Bc_pattern ∈ gw := gw_at 490 (by decide +kernel) (by decide +kernel)
theorem kC_Bc_pattern : Cond.code y_Bc_pattern c_Bc_pattern 3 (some (.int)) ∈ gw := gw_at 491 (by decide +kernel) (by decide +kernel)
theorem kM_8_173 : Cond.methodLink RX8 173 y_Pl_lineOfPiece ∈ gw := gw_at 492 (by decide +kernel) (by decide +kernel)
theorem kI_Pl_lineOfPiece : Cond.instanceMethod y_Pl_lineOfPiece ∈ gw := gw_at 493 (by decide +kernel) (by decide +kernel)
theorem kV_Pl_lineOfPiece : Cond.selects RX3 y_Pl_lineOfPiece y_Pl_lineOfPiece ∈ gw := gw_at 494 (by decide +kernel) (by decide +kernel)
theorem kC_Pl_lineOfPiece : Cond.code y_Pl_lineOfPiece c_Pl_lineOfPiece 5 (some (.int)) ∈ gw := gw_at 495 (by decide +kernel) (by decide +kernel)
theorem kM_L_74 : Cond.methodLink RL 74 y_Bc_place ∈ gw := gw_at 496 (by decide +kernel) (by decide +kernel)
theorem kI_Bc_place : Cond.instanceMethod y_Bc_place ∈ gw := gw_at 497 (by decide +kernel) (by decide +kernel)
theorem kV_Bc_place : Cond.selects RX8 y_Bc_place y_Bc_place ∈ gw := gw_at 498 (by decide +kernel) (by decide +kernel)
theorem kC_Bc_place : Cond.code y_Bc_place c_Bc_place 9 (some (.boolean)) ∈ gw := gw_at 499 (by decide +kernel) (by decide +kernel)
theorem kM_8_177 : Cond.methodLink RX8 177 y_Bc_isPlace ∈ gw := gw_at 500 (by decide +kernel) (by decide +kernel)
theorem kS_Bc_isPlace : Cond.static y_Bc_isPlace ∈ gw := gw_at 501 (by decide +kernel) (by decide +kernel)
theorem kC_Bc_isPlace : Cond.code y_Bc_isPlace c_Bc_isPlace 2 (some (.boolean)) ∈ gw := gw_at 502 (by decide +kernel) (by decide +kernel)
theorem kK_8_235 : Cond.constantLong RX8 235 (-100000) ∈ gw := gw_at 503 (by decide +kernel) (by decide +kernel)
theorem kK_8_237 : Cond.constantLong RX8 237 100000 ∈ gw := gw_at 504 (by decide +kernel) (by decide +kernel)
theorem kM_L_79 : Cond.methodLink RL 79 y_Bc_command ∈ gw := gw_at 505 (by decide +kernel) (by decide +kernel)
theorem kI_Bc_command : Cond.instanceMethod y_Bc_command ∈ gw := gw_at 506 (by decide +kernel) (by decide +kernel)
theorem kV_Bc_command : Cond.selects RX8 y_Bc_command y_Bc_command ∈ gw := gw_at 507 (by decide +kernel) (by decide +kernel)
theorem kC_Bc_command : Cond.code y_Bc_command c_Bc_command 5 (some (.int)) ∈ gw := gw_at 508 (by decide +kernel) (by decide +kernel)
theorem kM_8_193 : Cond.methodLink RX8 193 y_Ln_allLegsTold ∈ gw := gw_at 509 (by decide +kernel) (by decide +kernel)
theorem kI_Ln_allLegsTold : Cond.instanceMethod y_Ln_allLegsTold ∈ gw := gw_at 510 (by decide +kernel) (by decide +kernel)
theorem kV_Ln_allLegsTold : Cond.selects RX2 y_Ln_allLegsTold y_Ln_allLegsTold ∈ gw := gw_at 511 (by decide +kernel) (by decide +kernel)
theorem kC_Ln_allLegsTold : Cond.code y_Ln_allLegsTold c_Ln_allLegsTold 2 (some (.boolean)) ∈ gw := gw_at 512 (by decide +kernel) (by decide +kernel)
theorem kM_8_197 : Cond.methodLink RX8 197 y_Tr_follow ∈ gw := gw_at 513 (by decide +kernel) (by decide +kernel)
theorem kI_Tr_follow : Cond.instanceMethod y_Tr_follow ∈ gw := gw_at 514 (by decide +kernel) (by decide +kernel)
theorem kV_Tr_follow : Cond.selects RX7 y_Tr_follow y_Tr_follow ∈ gw := gw_at 515 (by decide +kernel) (by decide +kernel)
theorem kC_Tr_follow : Cond.code y_Tr_follow c_Tr_follow 8 none ∈ gw := gw_at 516 (by decide +kernel) (by decide +kernel)
theorem kM_7_51 : Cond.methodLink RX7 51 y_Sh_bendBefore ∈ gw := gw_at 517 (by decide +kernel) (by decide +kernel)
theorem kI_Sh_bendBefore : Cond.instanceMethod y_Sh_bendBefore ∈ gw := gw_at 518 (by decide +kernel) (by decide +kernel)
theorem kV_Sh_bendBefore : Cond.selects RX4 y_Sh_bendBefore y_Sh_bendBefore ∈ gw := gw_at 519 (by decide +kernel) (by decide +kernel)
theorem kC_Sh_bendBefore : Cond.code y_Sh_bendBefore c_Sh_bendBefore 3 (some (.int)) ∈ gw := gw_at 520 (by decide +kernel) (by decide +kernel)
theorem kM_7_58 : Cond.methodLink RX7 58 y_Tr_go ∈ gw := gw_at 521 (by decide +kernel) (by decide +kernel)
theorem kI_Tr_go : Cond.instanceMethod y_Tr_go ∈ gw := gw_at 523 (by decide +kernel) (by decide +kernel)
theorem kC_Tr_go : Cond.code y_Tr_go c_Tr_go 4 none ∈ gw := gw_at 524 (by decide +kernel) (by decide +kernel)
theorem kM_L_83 : Cond.methodLink RL 83 y_Bc_clash ∈ gw := gw_at 525 (by decide +kernel) (by decide +kernel)
theorem kI_Bc_clash : Cond.instanceMethod y_Bc_clash ∈ gw := gw_at 526 (by decide +kernel) (by decide +kernel)
theorem kV_Bc_clash : Cond.selects RX8 y_Bc_clash y_Bc_clash ∈ gw := gw_at 527 (by decide +kernel) (by decide +kernel)
theorem kC_Bc_clash : Cond.code y_Bc_clash c_Bc_clash 11 (some (.int)) ∈ gw := gw_at 528 (by decide +kernel) (by decide +kernel)
theorem kK_8_210 : Cond.constantLong RX8 210 4 ∈ gw := gw_at 529 (by decide +kernel) (by decide +kernel)
theorem kM_8_212 : Cond.methodLink RX8 212 y_Tr_leastSquareTo ∈ gw := gw_at 530 (by decide +kernel) (by decide +kernel)
theorem kI_Tr_leastSquareTo : Cond.instanceMethod y_Tr_leastSquareTo ∈ gw := gw_at 531 (by decide +kernel) (by decide +kernel)
theorem kV_Tr_leastSquareTo : Cond.selects RX7 y_Tr_leastSquareTo y_Tr_leastSquareTo ∈ gw := gw_at 532 (by decide +kernel) (by decide +kernel)
theorem kC_Tr_leastSquareTo : Cond.code y_Tr_leastSquareTo c_Tr_leastSquareTo 10 (some (.long)) ∈ gw := gw_at 533 (by decide +kernel) (by decide +kernel)
theorem kK_7_64 : Cond.constantLong RX7 64 1152921504606846976 ∈ gw := gw_at 534 (by decide +kernel) (by decide +kernel)
theorem kM_7_66 : Cond.methodLink RX7 66 y_Tr_gap ∈ gw := gw_at 535 (by decide +kernel) (by decide +kernel)
theorem kS_Tr_gap : Cond.static y_Tr_gap ∈ gw := gw_at 536 (by decide +kernel) (by decide +kernel)
theorem kC_Tr_gap : Cond.code y_Tr_gap c_Tr_gap 6 (some (.int)) ∈ gw := gw_at 537 (by decide +kernel) (by decide +kernel)
theorem kM_7_76 : Cond.methodLink RX7 76 ⟨"java/lang/Math", "min", "(II)I"⟩ ∈ gw := gw_at 538 (by decide +kernel) (by decide +kernel)
theorem kM_7_79 : Cond.methodLink RX7 79 ⟨"java/lang/Math", "max", "(II)I"⟩ ∈ gw := gw_at 539 (by decide +kernel) (by decide +kernel)
theorem kM_7_70 : Cond.methodLink RX7 70 ⟨"java/lang/Math", "min", "(JJ)J"⟩ ∈ gw := gw_at 540 (by decide +kernel) (by decide +kernel)
theorem kS_minl : Cond.static Lib.MathLoose.min_long.x ∈ gw := gw_at 541 (by decide +kernel) (by decide +kernel)
theorem kC_minl : Cond.code Lib.MathLoose.min_long.x Lib.MathLoose.min_long.code 4 (some .long) ∈ gw := gw_at 542 (by decide +kernel) (by decide +kernel)
theorem kM_L_87 : Cond.methodLink RL 87 y_Bc_lap ∈ gw := gw_at 543 (by decide +kernel) (by decide +kernel)
theorem kI_Bc_lap : Cond.instanceMethod y_Bc_lap ∈ gw := gw_at 544 (by decide +kernel) (by decide +kernel)
theorem kV_Bc_lap : Cond.selects RX8 y_Bc_lap y_Bc_lap ∈ gw := gw_at 545 (by decide +kernel) (by decide +kernel)
theorem kC_Bc_lap : Cond.code y_Bc_lap c_Bc_lap 9 (some (.int)) ∈ gw := gw_at 546 (by decide +kernel) (by decide +kernel)
theorem kK_8_216 : Cond.constantLong RX8 216 5000 ∈ gw := gw_at 547 (by decide +kernel) (by decide +kernel)
theorem kM_8_218 : Cond.methodLink RX8 218 y_Sf_greatest ∈ gw := gw_at 548 (by decide +kernel) (by decide +kernel)
theorem kI_Sf_greatest : Cond.instanceMethod y_Sf_greatest ∈ gw := gw_at 549 (by decide +kernel) (by decide +kernel)
theorem kV_Sf_greatest : Cond.selects RX5 y_Sf_greatest y_Sf_greatest ∈ gw := gw_at 550 (by decide +kernel) (by decide +kernel)
theorem kC_Sf_greatest : Cond.code y_Sf_greatest c_Sf_greatest 3 (some (.int)) ∈ gw := gw_at 551 (by decide +kernel) (by decide +kernel)
theorem kM_5_22 : Cond.methodLink RX5 22 ⟨"java/lang/Math", "max", "(II)I"⟩ ∈ gw := gw_at 552 (by decide +kernel) (by decide +kernel)
theorem kM_L_92 : Cond.methodLink RL 92 y_Bc_weight ∈ gw := gw_at 553 (by decide +kernel) (by decide +kernel)
theorem kI_Bc_weight : Cond.instanceMethod y_Bc_weight ∈ gw := gw_at 554 (by decide +kernel) (by decide +kernel)
theorem kV_Bc_weight : Cond.selects RX8 y_Bc_weight y_Bc_weight ∈ gw := gw_at 555 (by decide +kernel) (by decide +kernel)
theorem kC_Bc_weight : Cond.code y_Bc_weight c_Bc_weight 7 (some (.long)) ∈ gw := gw_at 556 (by decide +kernel) (by decide +kernel)
theorem kM_8_221 : Cond.methodLink RX8 221 y_Bc_greatestCommonWithDivisor ∈ gw := gw_at 557 (by decide +kernel) (by decide +kernel)
theorem kS_Bc_greatestCommonWithDivisor : Cond.static y_Bc_greatestCommonWithDivisor ∈ gw := gw_at 558 (by decide +kernel) (by decide +kernel)
theorem kC_Bc_greatestCommonWithDivisor : Cond.code y_Bc_greatestCommonWithDivisor c_Bc_greatestCommonWithDivisor 3 (some (.int)) ∈ gw := gw_at 559 (by decide +kernel) (by decide +kernel)
theorem kM_L_96 : Cond.methodLink RL 96 y_Bc_tag ∈ gw := gw_at 560 (by decide +kernel) (by decide +kernel)
theorem kI_Bc_tag : Cond.instanceMethod y_Bc_tag ∈ gw := gw_at 561 (by decide +kernel) (by decide +kernel)
theorem kV_Bc_tag : Cond.selects RX8 y_Bc_tag y_Bc_tag ∈ gw := gw_at 562 (by decide +kernel) (by decide +kernel)
theorem kC_Bc_tag : Cond.code y_Bc_tag c_Bc_tag 4 (some (.int)) ∈ gw := gw_at 563 (by decide +kernel) (by decide +kernel)
theorem kM_8_225 : Cond.methodLink RX8 225 y_Ln_signOfTag ∈ gw := gw_at 564 (by decide +kernel) (by decide +kernel)
theorem kI_Ln_signOfTag : Cond.instanceMethod y_Ln_signOfTag ∈ gw := gw_at 565 (by decide +kernel) (by decide +kernel)
theorem kV_Ln_signOfTag : Cond.selects RX2 y_Ln_signOfTag y_Ln_signOfTag ∈ gw := gw_at 566 (by decide +kernel) (by decide +kernel)
theorem kC_Ln_signOfTag : Cond.code y_Ln_signOfTag c_Ln_signOfTag 5 (some (.int)) ∈ gw := gw_at 567 (by decide +kernel) (by decide +kernel)
theorem kM_L_100 : Cond.methodLink RL 100 y_Bc_differs ∈ gw := gw_at 568 (by decide +kernel) (by decide +kernel)
theorem kI_Bc_differs : Cond.instanceMethod y_Bc_differs ∈ gw := gw_at 569 (by decide +kernel) (by decide +kernel)
theorem kV_Bc_differs : Cond.selects RX8 y_Bc_differs y_Bc_differs ∈ gw := gw_at 570 (by decide +kernel) (by decide +kernel)
theorem kC_Bc_differs : Cond.code y_Bc_differs c_Bc_differs 8 (some (.int)) ∈ gw := gw_at 571 (by decide +kernel) (by decide +kernel)
theorem kM_8_229 : Cond.methodLink RX8 229 y_Ln_thing ∈ gw := gw_at 572 (by decide +kernel) (by decide +kernel)
theorem kI_Ln_thing : Cond.instanceMethod y_Ln_thing ∈ gw := gw_at 573 (by decide +kernel) (by decide +kernel)
theorem kV_Ln_thing : Cond.selects RX2 y_Ln_thing y_Ln_thing ∈ gw := gw_at 574 (by decide +kernel) (by decide +kernel)
theorem kC_Ln_thing : Cond.code y_Ln_thing c_Ln_thing 3 (some (.int)) ∈ gw := gw_at 575 (by decide +kernel) (by decide +kernel)
theorem kM_L_104 : Cond.methodLink RL 104 y_Bc_order ∈ gw := gw_at 576 (by decide +kernel) (by decide +kernel)
theorem kI_Bc_order : Cond.instanceMethod y_Bc_order ∈ gw := gw_at 577 (by decide +kernel) (by decide +kernel)
theorem kV_Bc_order : Cond.selects RX8 y_Bc_order y_Bc_order ∈ gw := gw_at 578 (by decide +kernel) (by decide +kernel)
theorem kC_Bc_order : Cond.code y_Bc_order c_Bc_order 3 (some (.int)) ∈ gw := gw_at 579 (by decide +kernel) (by decide +kernel)
theorem kM_8_232 : Cond.methodLink RX8 232 y_Bc_linesBentBefore ∈ gw := gw_at 580 (by decide +kernel) (by decide +kernel)
theorem kI_Bc_linesBentBefore : Cond.instanceMethod y_Bc_linesBentBefore ∈ gw := gw_at 582 (by decide +kernel) (by decide +kernel)
theorem kC_Bc_linesBentBefore : Cond.code y_Bc_linesBentBefore c_Bc_linesBentBefore 4 (some (.int)) ∈ gw := gw_at 583 (by decide +kernel) (by decide +kernel)
theorem kM_8_262 : Cond.methodLink RX8 262 y_Bc_isBentBefore ∈ gw := gw_at 584 (by decide +kernel) (by decide +kernel)
theorem kI_Bc_isBentBefore : Cond.instanceMethod y_Bc_isBentBefore ∈ gw := gw_at 586 (by decide +kernel) (by decide +kernel)
theorem kC_Bc_isBentBefore : Cond.code y_Bc_isBentBefore c_Bc_isBentBefore 5 (some (.boolean)) ∈ gw := gw_at 587 (by decide +kernel) (by decide +kernel)
theorem kL_L_10 : Cond.classLink RL 10 RX9 ∈ gw := gw_at 588 (by decide +kernel) (by decide +kernel)
theorem kN_9 : Cond.instantiable RX9 46 ∈ gw := gw_at 589 (by decide +kernel) (by decide +kernel)
theorem kM_L_12 : Cond.methodLink RL 12 y_Md_init ∈ gw := gw_at 590 (by decide +kernel) (by decide +kernel)
theorem kI_Md_init : Cond.instanceMethod y_Md_init ∈ gw := gw_at 591 (by decide +kernel) (by decide +kernel)
theorem kC_Md_init : Cond.code y_Md_init c_Md_init 1 none ∈ gw := gw_at 592 (by decide +kernel) (by decide +kernel)
theorem kM_9_1 : Cond.methodLink RX9 1 Lib.objectInit ∈ gw := gw_at 593 (by decide +kernel) (by decide +kernel)
theorem kF_9_7 : Cond.fieldLink RX9 7 "BarCuttingModel" "text" "[I" ∈ gw := gw_at 594 (by decide +kernel) (by decide +kernel)
theorem kF_9_132 : Cond.fieldLink RX9 132 "BarCuttingModel" "size" "I" ∈ gw := gw_at 595 (by decide +kernel) (by decide +kernel)
theorem kF_9_139 : Cond.fieldLink RX9 139 "BarCuttingModel" "shapes" "I" ∈ gw := gw_at 596 (by decide +kernel) (by decide +kernel)
theorem kF_9_13 : Cond.fieldLink RX9 13 "BarCuttingModel" "legCount" "[I" ∈ gw := gw_at 597 (by decide +kernel) (by decide +kernel)
theorem kF_9_16 : Cond.fieldLink RX9 16 "BarCuttingModel" "bends" "[I" ∈ gw := gw_at 598 (by decide +kernel) (by decide +kernel)
theorem kF_9_19 : Cond.fieldLink RX9 19 "BarCuttingModel" "rules" "[J" ∈ gw := gw_at 599 (by decide +kernel) (by decide +kernel)
theorem kF_9_120 : Cond.fieldLink RX9 120 "BarCuttingModel" "lines" "I" ∈ gw := gw_at 600 (by decide +kernel) (by decide +kernel)
theorem kF_9_23 : Cond.fieldLink RX9 23 "BarCuttingModel" "shapeOf" "[I" ∈ gw := gw_at 601 (by decide +kernel) (by decide +kernel)
theorem kF_9_26 : Cond.fieldLink RX9 26 "BarCuttingModel" "diameterOf" "[I" ∈ gw := gw_at 602 (by decide +kernel) (by decide +kernel)
theorem kF_9_29 : Cond.fieldLink RX9 29 "BarCuttingModel" "manyOf" "[I" ∈ gw := gw_at 603 (by decide +kernel) (by decide +kernel)
theorem kF_9_32 : Cond.fieldLink RX9 32 "BarCuttingModel" "legs" "[J" ∈ gw := gw_at 604 (by decide +kernel) (by decide +kernel)
theorem kF_9_35 : Cond.fieldLink RX9 35 "BarCuttingModel" "placed" "[Z" ∈ gw := gw_at 605 (by decide +kernel) (by decide +kernel)
theorem kF_9_39 : Cond.fieldLink RX9 39 "BarCuttingModel" "placeX" "[J" ∈ gw := gw_at 606 (by decide +kernel) (by decide +kernel)
theorem kF_9_42 : Cond.fieldLink RX9 42 "BarCuttingModel" "placeY" "[J" ∈ gw := gw_at 607 (by decide +kernel) (by decide +kernel)
theorem kF_9_45 : Cond.fieldLink RX9 45 "BarCuttingModel" "placeZ" "[J" ∈ gw := gw_at 608 (by decide +kernel) (by decide +kernel)
theorem kF_9_48 : Cond.fieldLink RX9 48 "BarCuttingModel" "kinds" "[I" ∈ gw := gw_at 609 (by decide +kernel) (by decide +kernel)
theorem kF_9_51 : Cond.fieldLink RX9 51 "BarCuttingModel" "kindLength" "[J" ∈ gw := gw_at 610 (by decide +kernel) (by decide +kernel)
theorem kF_9_54 : Cond.fieldLink RX9 54 "BarCuttingModel" "kindMany" "[I" ∈ gw := gw_at 611 (by decide +kernel) (by decide +kernel)
theorem kF_9_57 : Cond.fieldLink RX9 57 "BarCuttingModel" "left" "[I" ∈ gw := gw_at 612 (by decide +kernel) (by decide +kernel)
theorem kF_9_175 : Cond.fieldLink RX9 175 "BarCuttingModel" "pieces" "I" ∈ gw := gw_at 613 (by decide +kernel) (by decide +kernel)
theorem kF_9_60 : Cond.fieldLink RX9 60 "BarCuttingModel" "pieceLine" "[I" ∈ gw := gw_at 614 (by decide +kernel) (by decide +kernel)
theorem kF_9_63 : Cond.fieldLink RX9 63 "BarCuttingModel" "pieceLength" "[J" ∈ gw := gw_at 615 (by decide +kernel) (by decide +kernel)
theorem kF_9_66 : Cond.fieldLink RX9 66 "BarCuttingModel" "remains" "[I" ∈ gw := gw_at 616 (by decide +kernel) (by decide +kernel)
theorem kF_9_69 : Cond.fieldLink RX9 69 "BarCuttingModel" "wayKind" "[I" ∈ gw := gw_at 617 (by decide +kernel) (by decide +kernel)
theorem kF_9_72 : Cond.fieldLink RX9 72 "BarCuttingModel" "waySet" "[I" ∈ gw := gw_at 618 (by decide +kernel) (by decide +kernel)
theorem kF_9_75 : Cond.fieldLink RX9 75 "BarCuttingModel" "bestKind" "[I" ∈ gw := gw_at 619 (by decide +kernel) (by decide +kernel)
theorem kF_9_78 : Cond.fieldLink RX9 78 "BarCuttingModel" "bestSet" "[I" ∈ gw := gw_at 620 (by decide +kernel) (by decide +kernel)
theorem kF_9_148 : Cond.fieldLink RX9 148 "BarCuttingModel" "cut" "Z" ∈ gw := gw_at 621 (by decide +kernel) (by decide +kernel)
theorem kF_9_178 : Cond.fieldLink RX9 178 "BarCuttingModel" "bars" "I" ∈ gw := gw_at 622 (by decide +kernel) (by decide +kernel)
theorem kF_9_81 : Cond.fieldLink RX9 81 "BarCuttingModel" "barDiameter" "[I" ∈ gw := gw_at 623 (by decide +kernel) (by decide +kernel)
theorem kF_9_84 : Cond.fieldLink RX9 84 "BarCuttingModel" "barLength" "[J" ∈ gw := gw_at 624 (by decide +kernel) (by decide +kernel)
theorem kF_9_87 : Cond.fieldLink RX9 87 "BarCuttingModel" "barMany" "[I" ∈ gw := gw_at 625 (by decide +kernel) (by decide +kernel)
theorem kF_9_90 : Cond.fieldLink RX9 90 "BarCuttingModel" "barLines" "[I" ∈ gw := gw_at 626 (by decide +kernel) (by decide +kernel)
theorem kF_9_93 : Cond.fieldLink RX9 93 "BarCuttingModel" "barRoom" "[J" ∈ gw := gw_at 627 (by decide +kernel) (by decide +kernel)
theorem kF_9_200 : Cond.fieldLink RX9 200 "BarCuttingModel" "diameters" "I" ∈ gw := gw_at 628 (by decide +kernel) (by decide +kernel)
theorem kF_9_203 : Cond.fieldLink RX9 203 "BarCuttingModel" "exact" "I" ∈ gw := gw_at 629 (by decide +kernel) (by decide +kernel)
theorem kF_9_224 : Cond.fieldLink RX9 224 "BarCuttingModel" "pairs" "I" ∈ gw := gw_at 630 (by decide +kernel) (by decide +kernel)
theorem kF_9_96 : Cond.fieldLink RX9 96 "BarCuttingModel" "goesX" "[J" ∈ gw := gw_at 631 (by decide +kernel) (by decide +kernel)
theorem kF_9_99 : Cond.fieldLink RX9 99 "BarCuttingModel" "goesY" "[J" ∈ gw := gw_at 632 (by decide +kernel) (by decide +kernel)
theorem kF_9_102 : Cond.fieldLink RX9 102 "BarCuttingModel" "isLeg" "[Z" ∈ gw := gw_at 633 (by decide +kernel) (by decide +kernel)
theorem kF_9_105 : Cond.fieldLink RX9 105 "BarCuttingModel" "lowX" "[J" ∈ gw := gw_at 634 (by decide +kernel) (by decide +kernel)
theorem kF_9_108 : Cond.fieldLink RX9 108 "BarCuttingModel" "highX" "[J" ∈ gw := gw_at 635 (by decide +kernel) (by decide +kernel)
theorem kF_9_111 : Cond.fieldLink RX9 111 "BarCuttingModel" "lowY" "[J" ∈ gw := gw_at 636 (by decide +kernel) (by decide +kernel)
theorem kF_9_114 : Cond.fieldLink RX9 114 "BarCuttingModel" "highY" "[J" ∈ gw := gw_at 637 (by decide +kernel) (by decide +kernel)
theorem kF_9_117 : Cond.fieldLink RX9 117 "BarCuttingModel" "tagSigns" "[I" ∈ gw := gw_at 638 (by decide +kernel) (by decide +kernel)
theorem kF_9_251 : Cond.fieldLink RX9 251 "BarCuttingModel" "tagSize" "I" ∈ gw := gw_at 639 (by decide +kernel) (by decide +kernel)
theorem kA_long : Cond.arrayClass .long ∈ gw := gw_at 733 (by decide +kernel) (by decide +kernel)
theorem kM_L_17 : Cond.methodLink RL 17 y_Md_unit ∈ gw := gw_at 734 (by decide +kernel) (by decide +kernel)
theorem kI_Md_unit : Cond.instanceMethod y_Md_unit ∈ gw := gw_at 735 (by decide +kernel) (by decide +kernel)
theorem kV_Md_unit : Cond.selects RX9 y_Md_unit y_Md_unit ∈ gw := gw_at 736 (by decide +kernel) (by decide +kernel)
theorem kC_Md_unit : Cond.code y_Md_unit c_Md_unit 2 (some (.boolean)) ∈ gw := gw_at 737 (by decide +kernel) (by decide +kernel)
theorem kK_9_124 : Cond.constantLong RX9 124 32 ∈ gw := gw_at 738 (by decide +kernel) (by decide +kernel)
theorem kK_9_126 : Cond.constantLong RX9 126 126 ∈ gw := gw_at 739 (by decide +kernel) (by decide +kernel)
theorem kM_9_128 : Cond.methodLink RX9 128 y_Md_isIn ∈ gw := gw_at 740 (by decide +kernel) (by decide +kernel)
theorem kS_Md_isIn : Cond.static y_Md_isIn ∈ gw := gw_at 741 (by decide +kernel) (by decide +kernel)
theorem kC_Md_isIn : Cond.code y_Md_isIn c_Md_isIn 6 (some (.boolean)) ∈ gw := gw_at 742 (by decide +kernel) (by decide +kernel)
theorem kM_L_22 : Cond.methodLink RL 22 y_Md_shape ∈ gw := gw_at 743 (by decide +kernel) (by decide +kernel)
theorem kI_Md_shape : Cond.instanceMethod y_Md_shape ∈ gw := gw_at 744 (by decide +kernel) (by decide +kernel)
theorem kV_Md_shape : Cond.selects RX9 y_Md_shape y_Md_shape ∈ gw := gw_at 745 (by decide +kernel) (by decide +kernel)
theorem kC_Md_shape : Cond.code y_Md_shape c_Md_shape 5 (some (.int)) ∈ gw := gw_at 746 (by decide +kernel) (by decide +kernel)
theorem kM_9_135 : Cond.methodLink RX9 135 y_Md_bendOf ∈ gw := gw_at 747 (by decide +kernel) (by decide +kernel)
theorem kS_Md_bendOf : Cond.static y_Md_bendOf ∈ gw := gw_at 748 (by decide +kernel) (by decide +kernel)
theorem kC_Md_bendOf : Cond.code y_Md_bendOf c_Md_bendOf 1 (some (.int)) ∈ gw := gw_at 749 (by decide +kernel) (by decide +kernel)
theorem kM_L_29 : Cond.methodLink RL 29 y_Md_rule ∈ gw := gw_at 750 (by decide +kernel) (by decide +kernel)
theorem kI_Md_rule : Cond.instanceMethod y_Md_rule ∈ gw := gw_at 751 (by decide +kernel) (by decide +kernel)
theorem kV_Md_rule : Cond.selects RX9 y_Md_rule y_Md_rule ∈ gw := gw_at 752 (by decide +kernel) (by decide +kernel)
theorem kC_Md_rule : Cond.code y_Md_rule c_Md_rule 4 (some (.boolean)) ∈ gw := gw_at 753 (by decide +kernel) (by decide +kernel)
theorem kK_9_142 : Cond.constantLong RX9 142 4 ∈ gw := gw_at 754 (by decide +kernel) (by decide +kernel)
theorem kK_9_144 : Cond.constantLong RX9 144 40 ∈ gw := gw_at 755 (by decide +kernel) (by decide +kernel)
theorem kK_9_146 : Cond.constantLong RX9 146 500 ∈ gw := gw_at 756 (by decide +kernel) (by decide +kernel)
theorem kM_L_34 : Cond.methodLink RL 34 y_Md_bar ∈ gw := gw_at 757 (by decide +kernel) (by decide +kernel)
theorem kI_Md_bar : Cond.instanceMethod y_Md_bar ∈ gw := gw_at 758 (by decide +kernel) (by decide +kernel)
theorem kV_Md_bar : Cond.selects RX9 y_Md_bar y_Md_bar ∈ gw := gw_at 759 (by decide +kernel) (by decide +kernel)
theorem kC_Md_bar : Cond.code y_Md_bar c_Md_bar 4 (some (.int)) ∈ gw := gw_at 760 (by decide +kernel) (by decide +kernel)
theorem kK_9_152 : Cond.constantLong RX9 152 5 ∈ gw := gw_at 761 (by decide +kernel) (by decide +kernel)
theorem kM_L_39 : Cond.methodLink RL 39 y_Md_leg ∈ gw := gw_at 762 (by decide +kernel) (by decide +kernel)
theorem kI_Md_leg : Cond.instanceMethod y_Md_leg ∈ gw := gw_at 763 (by decide +kernel) (by decide +kernel)
theorem kV_Md_leg : Cond.selects RX9 y_Md_leg y_Md_leg ∈ gw := gw_at 764 (by decide +kernel) (by decide +kernel)
theorem kC_Md_leg : Cond.code y_Md_leg c_Md_leg 5 (some (.boolean)) ∈ gw := gw_at 765 (by decide +kernel) (by decide +kernel)
theorem kM_9_154 : Cond.methodLink RX9 154 y_Md_isLine ∈ gw := gw_at 766 (by decide +kernel) (by decide +kernel)
theorem kI_Md_isLine : Cond.instanceMethod y_Md_isLine ∈ gw := gw_at 768 (by decide +kernel) (by decide +kernel)
theorem kC_Md_isLine : Cond.code y_Md_isLine c_Md_isLine 2 (some (.boolean)) ∈ gw := gw_at 769 (by decide +kernel) (by decide +kernel)
theorem kK_9_158 : Cond.constantLong RX9 158 20000 ∈ gw := gw_at 770 (by decide +kernel) (by decide +kernel)
theorem kM_L_49 : Cond.methodLink RL 49 y_Md_stock ∈ gw := gw_at 771 (by decide +kernel) (by decide +kernel)
theorem kI_Md_stock : Cond.instanceMethod y_Md_stock ∈ gw := gw_at 772 (by decide +kernel) (by decide +kernel)
theorem kV_Md_stock : Cond.selects RX9 y_Md_stock y_Md_stock ∈ gw := gw_at 773 (by decide +kernel) (by decide +kernel)
theorem kC_Md_stock : Cond.code y_Md_stock c_Md_stock 5 (some (.boolean)) ∈ gw := gw_at 774 (by decide +kernel) (by decide +kernel)
theorem kK_9_160 : Cond.constantLong RX9 160 30000 ∈ gw := gw_at 775 (by decide +kernel) (by decide +kernel)
theorem kK_9_162 : Cond.constantLong RX9 162 20 ∈ gw := gw_at 776 (by decide +kernel) (by decide +kernel)
theorem kM_L_44 : Cond.methodLink RL 44 y_Md_length ∈ gw := gw_at 777 (by decide +kernel) (by decide +kernel)
theorem kI_Md_length : Cond.instanceMethod y_Md_length ∈ gw := gw_at 778 (by decide +kernel) (by decide +kernel)
theorem kV_Md_length : Cond.selects RX9 y_Md_length y_Md_length ∈ gw := gw_at 779 (by decide +kernel) (by decide +kernel)
theorem kC_Md_length : Cond.code y_Md_length c_Md_length 3 (some (.long)) ∈ gw := gw_at 780 (by decide +kernel) (by decide +kernel)
theorem kK_9_170 : Cond.constantLong RX9 170 (-1) ∈ gw := gw_at 781 (by decide +kernel) (by decide +kernel)
theorem kM_9_172 : Cond.methodLink RX9 172 y_Md_lengthOf ∈ gw := gw_at 782 (by decide +kernel) (by decide +kernel)
theorem kI_Md_lengthOf : Cond.instanceMethod y_Md_lengthOf ∈ gw := gw_at 784 (by decide +kernel) (by decide +kernel)
theorem kC_Md_lengthOf : Cond.code y_Md_lengthOf c_Md_lengthOf 6 (some (.long)) ∈ gw := gw_at 785 (by decide +kernel) (by decide +kernel)
theorem kM_9_164 : Cond.methodLink RX9 164 y_Md_sumOf ∈ gw := gw_at 786 (by decide +kernel) (by decide +kernel)
theorem kI_Md_sumOf : Cond.instanceMethod y_Md_sumOf ∈ gw := gw_at 788 (by decide +kernel) (by decide +kernel)
theorem kC_Md_sumOf : Cond.code y_Md_sumOf c_Md_sumOf 5 (some (.long)) ∈ gw := gw_at 789 (by decide +kernel) (by decide +kernel)
theorem kK_9_168 : Cond.constantLong RX9 168 2 ∈ gw := gw_at 790 (by decide +kernel) (by decide +kernel)
theorem kM_L_54 : Cond.methodLink RL 54 y_Md_run ∈ gw := gw_at 791 (by decide +kernel) (by decide +kernel)
theorem kI_Md_run : Cond.instanceMethod y_Md_run ∈ gw := gw_at 792 (by decide +kernel) (by decide +kernel)
theorem kV_Md_run : Cond.selects RX9 y_Md_run y_Md_run ∈ gw := gw_at 793 (by decide +kernel) (by decide +kernel)
theorem kC_Md_run : Cond.code y_Md_run c_Md_run 5 (some (.int)) ∈ gw := gw_at 794 (by decide +kernel) (by decide +kernel)
theorem kK_9_198 : Cond.constantLong RX9 198 8 ∈ gw := gw_at 795 (by decide +kernel) (by decide +kernel)
theorem kM_9_206 : Cond.methodLink RX9 206 y_Md_findPieces ∈ gw := gw_at 796 (by decide +kernel) (by decide +kernel)
theorem kI_Md_findPieces : Cond.instanceMethod y_Md_findPieces ∈ gw := gw_at 798 (by decide +kernel) (by decide +kernel)
theorem kC_Md_findPieces : Cond.code y_Md_findPieces c_Md_findPieces 5 none ∈ gw := gw_at 799 (by decide +kernel) (by decide +kernel)
theorem kM_9_210 : Cond.methodLink RX9 210 y_Md_cutBest ∈ gw := gw_at 800 (by decide +kernel) (by decide +kernel)
theorem kI_Md_cutBest : Cond.instanceMethod y_Md_cutBest ∈ gw := gw_at 802 (by decide +kernel) (by decide +kernel)
theorem kC_Md_cutBest : Cond.code y_Md_cutBest c_Md_cutBest 16 (some (.boolean)) ∈ gw := gw_at 803 (by decide +kernel) (by decide +kernel)
theorem kM_9_192 : Cond.methodLink RX9 192 y_Md_firstOf ∈ gw := gw_at 804 (by decide +kernel) (by decide +kernel)
theorem kI_Md_firstOf : Cond.instanceMethod y_Md_firstOf ∈ gw := gw_at 806 (by decide +kernel) (by decide +kernel)
theorem kC_Md_firstOf : Cond.code y_Md_firstOf c_Md_firstOf 3 (some (.int)) ∈ gw := gw_at 807 (by decide +kernel) (by decide +kernel)
theorem kM_9_195 : Cond.methodLink RX9 195 y_Md_lengthOfSet ∈ gw := gw_at 808 (by decide +kernel) (by decide +kernel)
theorem kI_Md_lengthOfSet : Cond.instanceMethod y_Md_lengthOfSet ∈ gw := gw_at 810 (by decide +kernel) (by decide +kernel)
theorem kC_Md_lengthOfSet : Cond.code y_Md_lengthOfSet c_Md_lengthOfSet 5 (some (.long)) ∈ gw := gw_at 811 (by decide +kernel) (by decide +kernel)
theorem kM_9_185 : Cond.methodLink RX9 185 y_Md_openBar ∈ gw := gw_at 812 (by decide +kernel) (by decide +kernel)
theorem kI_Md_openBar : Cond.instanceMethod y_Md_openBar ∈ gw := gw_at 814 (by decide +kernel) (by decide +kernel)
theorem kC_Md_openBar : Cond.code y_Md_openBar c_Md_openBar 3 none ∈ gw := gw_at 815 (by decide +kernel) (by decide +kernel)
theorem kM_9_189 : Cond.methodLink RX9 189 y_Md_put ∈ gw := gw_at 816 (by decide +kernel) (by decide +kernel)
theorem kI_Md_put : Cond.instanceMethod y_Md_put ∈ gw := gw_at 818 (by decide +kernel) (by decide +kernel)
theorem kC_Md_put : Cond.code y_Md_put c_Md_put 3 none ∈ gw := gw_at 819 (by decide +kernel) (by decide +kernel)
theorem kM_9_213 : Cond.methodLink RX9 213 y_Md_cutInTurn ∈ gw := gw_at 820 (by decide +kernel) (by decide +kernel)
theorem kI_Md_cutInTurn : Cond.instanceMethod y_Md_cutInTurn ∈ gw := gw_at 822 (by decide +kernel) (by decide +kernel)
theorem kC_Md_cutInTurn : Cond.code y_Md_cutInTurn c_Md_cutInTurn 6 (some (.boolean)) ∈ gw := gw_at 823 (by decide +kernel) (by decide +kernel)
theorem kM_9_181 : Cond.methodLink RX9 181 y_Md_kindFor ∈ gw := gw_at 824 (by decide +kernel) (by decide +kernel)
theorem kI_Md_kindFor : Cond.instanceMethod y_Md_kindFor ∈ gw := gw_at 826 (by decide +kernel) (by decide +kernel)
theorem kC_Md_kindFor : Cond.code y_Md_kindFor c_Md_kindFor 8 (some (.int)) ∈ gw := gw_at 827 (by decide +kernel) (by decide +kernel)
theorem kM_L_59 : Cond.methodLink RL 59 y_Md_loss ∈ gw := gw_at 828 (by decide +kernel) (by decide +kernel)
theorem kI_Md_loss : Cond.instanceMethod y_Md_loss ∈ gw := gw_at 829 (by decide +kernel) (by decide +kernel)
theorem kV_Md_loss : Cond.selects RX9 y_Md_loss y_Md_loss ∈ gw := gw_at 830 (by decide +kernel) (by decide +kernel)
theorem kC_Md_loss : Cond.code y_Md_loss c_Md_loss 5 (some (.long)) ∈ gw := gw_at 831 (by decide +kernel) (by decide +kernel)
theorem kM_9_216 : Cond.methodLink RX9 216 y_Md_piecesTogether ∈ gw := gw_at 832 (by decide +kernel) (by decide +kernel)
theorem kI_Md_piecesTogether : Cond.instanceMethod y_Md_piecesTogether ∈ gw := gw_at 834 (by decide +kernel) (by decide +kernel)
theorem kC_Md_piecesTogether : Cond.code y_Md_piecesTogether c_Md_piecesTogether 4 (some (.long)) ∈ gw := gw_at 835 (by decide +kernel) (by decide +kernel)
theorem kM_L_63 : Cond.methodLink RL 63 y_Md_bound ∈ gw := gw_at 836 (by decide +kernel) (by decide +kernel)
theorem kI_Md_bound : Cond.instanceMethod y_Md_bound ∈ gw := gw_at 837 (by decide +kernel) (by decide +kernel)
theorem kV_Md_bound : Cond.selects RX9 y_Md_bound y_Md_bound ∈ gw := gw_at 838 (by decide +kernel) (by decide +kernel)
theorem kC_Md_bound : Cond.code y_Md_bound c_Md_bound 2 (some (.long)) ∈ gw := gw_at 839 (by decide +kernel) (by decide +kernel)
theorem kM_L_68 : Cond.methodLink RL 68 y_Md_proved ∈ gw := gw_at 840 (by decide +kernel) (by decide +kernel)
theorem kI_Md_proved : Cond.instanceMethod y_Md_proved ∈ gw := gw_at 841 (by decide +kernel) (by decide +kernel)
theorem kV_Md_proved : Cond.selects RX9 y_Md_proved y_Md_proved ∈ gw := gw_at 842 (by decide +kernel) (by decide +kernel)
theorem kC_Md_proved : Cond.code y_Md_proved c_Md_proved 1 (some (.boolean)) ∈ gw := gw_at 843 (by decide +kernel) (by decide +kernel)
theorem kM_L_73 : Cond.methodLink RL 73 y_Md_pattern ∈ gw := gw_at 844 (by decide +kernel) (by decide +kernel)
theorem kI_Md_pattern : Cond.instanceMethod y_Md_pattern ∈ gw := gw_at 845 (by decide +kernel) (by decide +kernel)
theorem kV_Md_pattern : Cond.selects RX9 y_Md_pattern y_Md_pattern ∈ gw := gw_at 846 (by decide +kernel) (by decide +kernel)
theorem kC_Md_pattern : Cond.code y_Md_pattern c_Md_pattern 3 (some (.int)) ∈ gw := gw_at 847 (by decide +kernel) (by decide +kernel)
theorem kM_L_78 : Cond.methodLink RL 78 y_Md_place ∈ gw := gw_at 848 (by decide +kernel) (by decide +kernel)
theorem kI_Md_place : Cond.instanceMethod y_Md_place ∈ gw := gw_at 849 (by decide +kernel) (by decide +kernel)
theorem kV_Md_place : Cond.selects RX9 y_Md_place y_Md_place ∈ gw := gw_at 850 (by decide +kernel) (by decide +kernel)
theorem kC_Md_place : Cond.code y_Md_place c_Md_place 8 (some (.boolean)) ∈ gw := gw_at 851 (by decide +kernel) (by decide +kernel)
theorem kK_9_220 : Cond.constantLong RX9 220 (-100000) ∈ gw := gw_at 852 (by decide +kernel) (by decide +kernel)
theorem kK_9_222 : Cond.constantLong RX9 222 100000 ∈ gw := gw_at 853 (by decide +kernel) (by decide +kernel)
theorem kM_L_82 : Cond.methodLink RL 82 y_Md_command ∈ gw := gw_at 854 (by decide +kernel) (by decide +kernel)
theorem kI_Md_command : Cond.instanceMethod y_Md_command ∈ gw := gw_at 855 (by decide +kernel) (by decide +kernel)
theorem kV_Md_command : Cond.selects RX9 y_Md_command y_Md_command ∈ gw := gw_at 856 (by decide +kernel) (by decide +kernel)
theorem kC_Md_command : Cond.code y_Md_command c_Md_command 3 (some (.int)) ∈ gw := gw_at 857 (by decide +kernel) (by decide +kernel)
theorem kM_9_233 : Cond.methodLink RX9 233 y_Md_isTold ∈ gw := gw_at 858 (by decide +kernel) (by decide +kernel)
theorem kI_Md_isTold : Cond.instanceMethod y_Md_isTold ∈ gw := gw_at 860 (by decide +kernel) (by decide +kernel)
theorem kC_Md_isTold : Cond.code y_Md_isTold c_Md_isTold 4 (some (.boolean)) ∈ gw := gw_at 861 (by decide +kernel) (by decide +kernel)
theorem kM_9_236 : Cond.methodLink RX9 236 y_Md_draw ∈ gw := gw_at 862 (by decide +kernel) (by decide +kernel)
theorem kI_Md_draw : Cond.instanceMethod y_Md_draw ∈ gw := gw_at 864 (by decide +kernel) (by decide +kernel)
theorem kC_Md_draw : Cond.code y_Md_draw c_Md_draw 5 none ∈ gw := gw_at 865 (by decide +kernel) (by decide +kernel)
theorem kK_9_227 : Cond.constantLong RX9 227 3 ∈ gw := gw_at 866 (by decide +kernel) (by decide +kernel)
theorem kM_9_229 : Cond.methodLink RX9 229 y_Md_go ∈ gw := gw_at 867 (by decide +kernel) (by decide +kernel)
theorem kI_Md_go : Cond.instanceMethod y_Md_go ∈ gw := gw_at 869 (by decide +kernel) (by decide +kernel)
theorem kC_Md_go : Cond.code y_Md_go c_Md_go 5 none ∈ gw := gw_at 870 (by decide +kernel) (by decide +kernel)
theorem kM_L_86 : Cond.methodLink RL 86 y_Md_clash ∈ gw := gw_at 871 (by decide +kernel) (by decide +kernel)
theorem kI_Md_clash : Cond.instanceMethod y_Md_clash ∈ gw := gw_at 872 (by decide +kernel) (by decide +kernel)
theorem kV_Md_clash : Cond.selects RX9 y_Md_clash y_Md_clash ∈ gw := gw_at 873 (by decide +kernel) (by decide +kernel)
theorem kC_Md_clash : Cond.code y_Md_clash c_Md_clash 16 (some (.int)) ∈ gw := gw_at 874 (by decide +kernel) (by decide +kernel)
theorem kM_9_239 : Cond.methodLink RX9 239 y_Md_stretches ∈ gw := gw_at 875 (by decide +kernel) (by decide +kernel)
theorem kI_Md_stretches : Cond.instanceMethod y_Md_stretches ∈ gw := gw_at 877 (by decide +kernel) (by decide +kernel)
theorem kC_Md_stretches : Cond.code y_Md_stretches c_Md_stretches 13 (some (.int)) ∈ gw := gw_at 878 (by decide +kernel) (by decide +kernel)
theorem kM_9_243 : Cond.methodLink RX9 243 y_Md_gap ∈ gw := gw_at 879 (by decide +kernel) (by decide +kernel)
theorem kS_Md_gap : Cond.static y_Md_gap ∈ gw := gw_at 880 (by decide +kernel) (by decide +kernel)
theorem kC_Md_gap : Cond.code y_Md_gap c_Md_gap 8 (some (.long)) ∈ gw := gw_at 881 (by decide +kernel) (by decide +kernel)
theorem kM_L_91 : Cond.methodLink RL 91 y_Md_lap ∈ gw := gw_at 882 (by decide +kernel) (by decide +kernel)
theorem kI_Md_lap : Cond.instanceMethod y_Md_lap ∈ gw := gw_at 883 (by decide +kernel) (by decide +kernel)
theorem kV_Md_lap : Cond.selects RX9 y_Md_lap y_Md_lap ∈ gw := gw_at 884 (by decide +kernel) (by decide +kernel)
theorem kC_Md_lap : Cond.code y_Md_lap c_Md_lap 10 (some (.int)) ∈ gw := gw_at 885 (by decide +kernel) (by decide +kernel)
theorem kK_9_247 : Cond.constantLong RX9 247 5000 ∈ gw := gw_at 886 (by decide +kernel) (by decide +kernel)
theorem kM_L_95 : Cond.methodLink RL 95 y_Md_weight ∈ gw := gw_at 887 (by decide +kernel) (by decide +kernel)
theorem kI_Md_weight : Cond.instanceMethod y_Md_weight ∈ gw := gw_at 888 (by decide +kernel) (by decide +kernel)
theorem kV_Md_weight : Cond.selects RX9 y_Md_weight y_Md_weight ∈ gw := gw_at 889 (by decide +kernel) (by decide +kernel)
theorem kC_Md_weight : Cond.code y_Md_weight c_Md_weight 11 (some (.long)) ∈ gw := gw_at 890 (by decide +kernel) (by decide +kernel)
theorem kK_9_249 : Cond.constantLong RX9 249 162 ∈ gw := gw_at 891 (by decide +kernel) (by decide +kernel)
theorem kM_L_99 : Cond.methodLink RL 99 y_Md_tag ∈ gw := gw_at 892 (by decide +kernel) (by decide +kernel)
theorem kI_Md_tag : Cond.instanceMethod y_Md_tag ∈ gw := gw_at 893 (by decide +kernel) (by decide +kernel)
theorem kV_Md_tag : Cond.selects RX9 y_Md_tag y_Md_tag ∈ gw := gw_at 894 (by decide +kernel) (by decide +kernel)
theorem kC_Md_tag : Cond.code y_Md_tag c_Md_tag 5 (some (.int)) ∈ gw := gw_at 895 (by decide +kernel) (by decide +kernel)
theorem kM_9_254 : Cond.methodLink RX9 254 y_Md_sign ∈ gw := gw_at 896 (by decide +kernel) (by decide +kernel)
theorem kI_Md_sign : Cond.instanceMethod y_Md_sign ∈ gw := gw_at 898 (by decide +kernel) (by decide +kernel)
theorem kC_Md_sign : Cond.code y_Md_sign c_Md_sign 2 none ∈ gw := gw_at 899 (by decide +kernel) (by decide +kernel)
theorem kM_L_103 : Cond.methodLink RL 103 y_Md_differs ∈ gw := gw_at 900 (by decide +kernel) (by decide +kernel)
theorem kI_Md_differs : Cond.instanceMethod y_Md_differs ∈ gw := gw_at 901 (by decide +kernel) (by decide +kernel)
theorem kV_Md_differs : Cond.selects RX9 y_Md_differs y_Md_differs ∈ gw := gw_at 902 (by decide +kernel) (by decide +kernel)
theorem kC_Md_differs : Cond.code y_Md_differs c_Md_differs 6 (some (.int)) ∈ gw := gw_at 903 (by decide +kernel) (by decide +kernel)
theorem kM_9_257 : Cond.methodLink RX9 257 y_Md_differ ∈ gw := gw_at 904 (by decide +kernel) (by decide +kernel)
theorem kI_Md_differ : Cond.instanceMethod y_Md_differ ∈ gw := gw_at 906 (by decide +kernel) (by decide +kernel)
theorem kC_Md_differ : Cond.code y_Md_differ c_Md_differ 4 (some (.boolean)) ∈ gw := gw_at 907 (by decide +kernel) (by decide +kernel)
theorem kM_L_108 : Cond.methodLink RL 108 y_Md_order ∈ gw := gw_at 908 (by decide +kernel) (by decide +kernel)
theorem kI_Md_order : Cond.instanceMethod y_Md_order ∈ gw := gw_at 909 (by decide +kernel) (by decide +kernel)
theorem kV_Md_order : Cond.selects RX9 y_Md_order y_Md_order ∈ gw := gw_at 910 (by decide +kernel) (by decide +kernel)
theorem kC_Md_order : Cond.code y_Md_order c_Md_order 5 (some (.int)) ∈ gw := gw_at 911 (by decide +kernel) (by decide +kernel)
theorem kM_9_261 : Cond.methodLink RX9 261 y_Md_isBentBefore ∈ gw := gw_at 912 (by decide +kernel) (by decide +kernel)
theorem kI_Md_isBentBefore : Cond.instanceMethod y_Md_isBentBefore ∈ gw := gw_at 914 (by decide +kernel) (by decide +kernel)
theorem kC_Md_isBentBefore : Cond.code y_Md_isBentBefore c_Md_isBentBefore 3 (some (.boolean)) ∈ gw := gw_at 915 (by decide +kernel) (by decide +kernel)
theorem kK_L_23 : Cond.constantLong RL 23 4294967295 ∈ gw := gw_at 916 (by decide +kernel) (by decide +kernel)
theorem kV_Bc_lineAt : Cond.selects RX8 y_Bc_lineAt y_Bc_lineAt ∈ gw := gw_pr 0 (by decide +kernel) (by decide +kernel)
theorem kV_Bc_cutLength : Cond.selects RX8 y_Bc_cutLength y_Bc_cutLength ∈ gw := gw_pr 1 (by decide +kernel) (by decide +kernel)
theorem kV_Bc_cutDiameter : Cond.selects RX8 y_Bc_cutDiameter y_Bc_cutDiameter ∈ gw := gw_pr 2 (by decide +kernel) (by decide +kernel)
theorem kV_Bc_gatherPieces : Cond.selects RX8 y_Bc_gatherPieces y_Bc_gatherPieces ∈ gw := gw_pr 3 (by decide +kernel) (by decide +kernel)
theorem kV_Ff_leastKindFor : Cond.selects RX0 y_Ff_leastKindFor y_Ff_leastKindFor ∈ gw := gw_pr 4 (by decide +kernel) (by decide +kernel)
theorem kV_Lw_sumSets : Cond.selects RX1 y_Lw_sumSets y_Lw_sumSets ∈ gw := gw_pr 5 (by decide +kernel) (by decide +kernel)
theorem kV_Lw_findFloors : Cond.selects RX1 y_Lw_findFloors y_Lw_findFloors ∈ gw := gw_pr 6 (by decide +kernel) (by decide +kernel)
theorem kV_Lw_costOfCheapestBar : Cond.selects RX1 y_Lw_costOfCheapestBar y_Lw_costOfCheapestBar ∈ gw := gw_pr 7 (by decide +kernel) (by decide +kernel)
theorem kV_Lw_costOfBar : Cond.selects RX1 y_Lw_costOfBar y_Lw_costOfBar ∈ gw := gw_pr 8 (by decide +kernel) (by decide +kernel)
theorem kV_Lw_search : Cond.selects RX1 y_Lw_search y_Lw_search ∈ gw := gw_pr 9 (by decide +kernel) (by decide +kernel)
theorem kV_Lw_keep : Cond.selects RX1 y_Lw_keep y_Lw_keep ∈ gw := gw_pr 10 (by decide +kernel) (by decide +kernel)
theorem kV_Lw_searchRows : Cond.selects RX1 y_Lw_searchRows y_Lw_searchRows ∈ gw := gw_pr 11 (by decide +kernel) (by decide +kernel)
theorem kV_Lw_writeBest : Cond.selects RX1 y_Lw_writeBest y_Lw_writeBest ∈ gw := gw_pr 12 (by decide +kernel) (by decide +kernel)
theorem kV_Tr_go : Cond.selects RX7 y_Tr_go y_Tr_go ∈ gw := gw_pr 13 (by decide +kernel) (by decide +kernel)
theorem kV_Bc_linesBentBefore : Cond.selects RX8 y_Bc_linesBentBefore y_Bc_linesBentBefore ∈ gw := gw_pr 14 (by decide +kernel) (by decide +kernel)
theorem kV_Bc_isBentBefore : Cond.selects RX8 y_Bc_isBentBefore y_Bc_isBentBefore ∈ gw := gw_pr 15 (by decide +kernel) (by decide +kernel)
theorem kV_Md_isLine : Cond.selects RX9 y_Md_isLine y_Md_isLine ∈ gw := gw_pr 16 (by decide +kernel) (by decide +kernel)
theorem kV_Md_lengthOf : Cond.selects RX9 y_Md_lengthOf y_Md_lengthOf ∈ gw := gw_pr 17 (by decide +kernel) (by decide +kernel)
theorem kV_Md_sumOf : Cond.selects RX9 y_Md_sumOf y_Md_sumOf ∈ gw := gw_pr 18 (by decide +kernel) (by decide +kernel)
theorem kV_Md_findPieces : Cond.selects RX9 y_Md_findPieces y_Md_findPieces ∈ gw := gw_pr 19 (by decide +kernel) (by decide +kernel)
theorem kV_Md_cutBest : Cond.selects RX9 y_Md_cutBest y_Md_cutBest ∈ gw := gw_pr 20 (by decide +kernel) (by decide +kernel)
theorem kV_Md_firstOf : Cond.selects RX9 y_Md_firstOf y_Md_firstOf ∈ gw := gw_pr 21 (by decide +kernel) (by decide +kernel)
theorem kV_Md_lengthOfSet : Cond.selects RX9 y_Md_lengthOfSet y_Md_lengthOfSet ∈ gw := gw_pr 22 (by decide +kernel) (by decide +kernel)
theorem kV_Md_openBar : Cond.selects RX9 y_Md_openBar y_Md_openBar ∈ gw := gw_pr 23 (by decide +kernel) (by decide +kernel)
theorem kV_Md_put : Cond.selects RX9 y_Md_put y_Md_put ∈ gw := gw_pr 24 (by decide +kernel) (by decide +kernel)
theorem kV_Md_cutInTurn : Cond.selects RX9 y_Md_cutInTurn y_Md_cutInTurn ∈ gw := gw_pr 25 (by decide +kernel) (by decide +kernel)
theorem kV_Md_kindFor : Cond.selects RX9 y_Md_kindFor y_Md_kindFor ∈ gw := gw_pr 26 (by decide +kernel) (by decide +kernel)
theorem kV_Md_piecesTogether : Cond.selects RX9 y_Md_piecesTogether y_Md_piecesTogether ∈ gw := gw_pr 27 (by decide +kernel) (by decide +kernel)
theorem kV_Md_isTold : Cond.selects RX9 y_Md_isTold y_Md_isTold ∈ gw := gw_pr 28 (by decide +kernel) (by decide +kernel)
theorem kV_Md_draw : Cond.selects RX9 y_Md_draw y_Md_draw ∈ gw := gw_pr 29 (by decide +kernel) (by decide +kernel)
theorem kV_Md_go : Cond.selects RX9 y_Md_go y_Md_go ∈ gw := gw_pr 30 (by decide +kernel) (by decide +kernel)
theorem kV_Md_stretches : Cond.selects RX9 y_Md_stretches y_Md_stretches ∈ gw := gw_pr 31 (by decide +kernel) (by decide +kernel)
theorem kV_Md_sign : Cond.selects RX9 y_Md_sign y_Md_sign ∈ gw := gw_pr 32 (by decide +kernel) (by decide +kernel)
theorem kV_Md_differ : Cond.selects RX9 y_Md_differ y_Md_differ ∈ gw := gw_pr 33 (by decide +kernel) (by decide +kernel)
theorem kV_Md_isBentBefore : Cond.selects RX9 y_Md_isBentBefore y_Md_isBentBefore ∈ gw := gw_pr 34 (by decide +kernel) (by decide +kernel)
theorem kH_8_11 : Cond.methodLinkNest RX8 11 y_Sg_init RX8 ∈ tables_1 := List.mem_of_getElem? (i := 23) (by decide +kernel)
theorem kH_over_4 : Cond.arrayOver (.object RX4) ∈ tables_1 := List.mem_of_getElem? (i := 37) (by decide +kernel)
theorem kH_over_2 : Cond.arrayOver (.object RX2) ∈ tables_1 := List.mem_of_getElem? (i := 39) (by decide +kernel)
theorem kH_over_5 : Cond.arrayOver (.object RX5) ∈ tables_1 := List.mem_of_getElem? (i := 41) (by decide +kernel)
theorem kH_8_40 : Cond.methodLinkNest RX8 40 y_Pl_init RX8 ∈ tables_1 := List.mem_of_getElem? (i := 44) (by decide +kernel)
theorem kH_8_47 : Cond.methodLinkNest RX8 47 y_Lw_init RX8 ∈ tables_1 := List.mem_of_getElem? (i := 102) (by decide +kernel)
theorem kH_8_54 : Cond.methodLinkNest RX8 54 y_Ff_init RX8 ∈ tables_1 := List.mem_of_getElem? (i := 142) (by decide +kernel)
theorem kH_8_61 : Cond.methodLinkNest RX8 61 y_Tr_init RX8 ∈ tables_1 := List.mem_of_getElem? (i := 152) (by decide +kernel)
theorem kH_8_137 : Cond.methodLinkNest RX8 137 y_Sf_init RX8 ∈ tables_1 := List.mem_of_getElem? (i := 359) (by decide +kernel)
end
section
theorem d_Ff_init_0 : decode c_Ff_init 0 = .ok (.aload_n 0, 1) := by decide +kernel
theorem d_Ff_init_1 : decode c_Ff_init 1 = .ok (.invokespecial 3, 3) := by decide +kernel
theorem d_Ff_init_4 : decode c_Ff_init 4 = .ok (.aload_n 0, 1) := by decide +kernel
theorem d_Ff_init_5 : decode c_Ff_init 5 = .ok (.iconst 3, 1) := by decide +kernel
theorem d_Ff_init_6 : decode c_Ff_init 6 = .ok (.newarray .int, 2) := by decide +kernel
theorem d_Ff_init_8 : decode c_Ff_init 8 = .ok (.putfield 9, 3) := by decide +kernel
theorem d_Ff_init_11 : decode c_Ff_init 11 = .ok (.return_, 1) := by decide +kernel
theorem d_Ff_cut_0 : decode c_Ff_cut 0 = .ok (.aload_n 1, 1) := by decide +kernel
theorem d_Ff_cut_1 : decode c_Ff_cut 1 = .ok (.getfield 15, 3) := by decide +kernel
theorem d_Ff_cut_4 : decode c_Ff_cut 4 = .ok (.istore 5, 2) := by decide +kernel
theorem d_Ff_cut_6 : decode c_Ff_cut 6 = .ok (.aload 4, 2) := by decide +kernel
theorem d_Ff_cut_8 : decode c_Ff_cut 8 = .ok (.getfield 21, 3) := by decide +kernel
theorem d_Ff_cut_11 : decode c_Ff_cut 11 = .ok (.iconst 0, 1) := by decide +kernel
theorem d_Ff_cut_12 : decode c_Ff_cut 12 = .ok (.aload_n 0, 1) := by decide +kernel
theorem d_Ff_cut_13 : decode c_Ff_cut 13 = .ok (.getfield 9, 3) := by decide +kernel
theorem d_Ff_cut_16 : decode c_Ff_cut 16 = .ok (.iconst 0, 1) := by decide +kernel
theorem d_Ff_cut_17 : decode c_Ff_cut 17 = .ok (.iconst 3, 1) := by decide +kernel
theorem d_Ff_cut_18 : decode c_Ff_cut 18 = .ok (.invokestatic 25, 3) := by decide +kernel
theorem d_Ff_cut_21 : decode c_Ff_cut 21 = .ok (.iload_n 2, 1) := by decide +kernel
theorem d_Ff_cut_22 : decode c_Ff_cut 22 = .ok (.istore 6, 2) := by decide +kernel
theorem d_Ff_cut_24 : decode c_Ff_cut 24 = .ok (.iload 6, 2) := by decide +kernel
theorem d_Ff_cut_26 : decode c_Ff_cut 26 = .ok (.aload_n 1, 1) := by decide +kernel
theorem d_Ff_cut_27 : decode c_Ff_cut 27 = .ok (.getfield 31, 3) := by decide +kernel
theorem d_Ff_cut_30 : decode c_Ff_cut 30 = .ok (.if_icmp .ge 97, 3) := by decide +kernel
theorem d_Ff_cut_33 : decode c_Ff_cut 33 = .ok (.aload_n 1, 1) := by decide +kernel
theorem d_Ff_cut_34 : decode c_Ff_cut 34 = .ok (.getfield 34, 3) := by decide +kernel
theorem d_Ff_cut_37 : decode c_Ff_cut 37 = .ok (.iload 6, 2) := by decide +kernel
theorem d_Ff_cut_39 : decode c_Ff_cut 39 = .ok (.iaload, 1) := by decide +kernel
theorem d_Ff_cut_40 : decode c_Ff_cut 40 = .ok (.istore 7, 2) := by decide +kernel
theorem d_Ff_cut_42 : decode c_Ff_cut 42 = .ok (.aload_n 1, 1) := by decide +kernel
theorem d_Ff_cut_43 : decode c_Ff_cut 43 = .ok (.iload 5, 2) := by decide +kernel
theorem d_Ff_cut_45 : decode c_Ff_cut 45 = .ok (.iload 7, 2) := by decide +kernel
theorem d_Ff_cut_47 : decode c_Ff_cut 47 = .ok (.invokestatic 37, 3) := by decide +kernel
theorem d_Ff_cut_50 : decode c_Ff_cut 50 = .ok (.istore 8, 2) := by decide +kernel
theorem d_Ff_cut_52 : decode c_Ff_cut 52 = .ok (.iload 8, 2) := by decide +kernel
theorem d_Ff_cut_54 : decode c_Ff_cut 54 = .ok (.bipush (-2), 2) := by decide +kernel
theorem d_Ff_cut_56 : decode c_Ff_cut 56 = .ok (.if_icmp .ne 48, 3) := by decide +kernel
theorem d_Ff_cut_59 : decode c_Ff_cut 59 = .ok (.aload_n 0, 1) := by decide +kernel
theorem d_Ff_cut_60 : decode c_Ff_cut 60 = .ok (.aload 4, 2) := by decide +kernel
theorem d_Ff_cut_62 : decode c_Ff_cut 62 = .ok (.iload 7, 2) := by decide +kernel
theorem d_Ff_cut_64 : decode c_Ff_cut 64 = .ok (.invokevirtual 41, 3) := by decide +kernel
theorem d_Ff_cut_67 : decode c_Ff_cut 67 = .ok (.istore 9, 2) := by decide +kernel
theorem d_Ff_cut_69 : decode c_Ff_cut 69 = .ok (.iload 9, 2) := by decide +kernel
theorem d_Ff_cut_71 : decode c_Ff_cut 71 = .ok (.bipush (-2), 2) := by decide +kernel
theorem d_Ff_cut_73 : decode c_Ff_cut 73 = .ok (.if_icmp .ne 5, 3) := by decide +kernel
theorem d_Ff_cut_76 : decode c_Ff_cut 76 = .ok (.iconst 0, 1) := by decide +kernel
theorem d_Ff_cut_77 : decode c_Ff_cut 77 = .ok (.ireturn, 1) := by decide +kernel
theorem d_Ff_cut_78 : decode c_Ff_cut 78 = .ok (.aload_n 0, 1) := by decide +kernel
theorem d_Ff_cut_79 : decode c_Ff_cut 79 = .ok (.getfield 9, 3) := by decide +kernel
theorem d_Ff_cut_82 : decode c_Ff_cut 82 = .ok (.iload 9, 2) := by decide +kernel
theorem d_Ff_cut_84 : decode c_Ff_cut 84 = .ok (.dup2, 1) := by decide +kernel
theorem d_Ff_cut_85 : decode c_Ff_cut 85 = .ok (.iaload, 1) := by decide +kernel
theorem d_Ff_cut_86 : decode c_Ff_cut 86 = .ok (.iconst 1, 1) := by decide +kernel
theorem d_Ff_cut_87 : decode c_Ff_cut 87 = .ok (.isub, 1) := by decide +kernel
theorem d_Ff_cut_88 : decode c_Ff_cut 88 = .ok (.iastore, 1) := by decide +kernel
theorem d_Ff_cut_89 : decode c_Ff_cut 89 = .ok (.aload_n 1, 1) := by decide +kernel
theorem d_Ff_cut_90 : decode c_Ff_cut 90 = .ok (.iload_n 3, 1) := by decide +kernel
theorem d_Ff_cut_91 : decode c_Ff_cut 91 = .ok (.aload 4, 2) := by decide +kernel
theorem d_Ff_cut_93 : decode c_Ff_cut 93 = .ok (.getfield 45, 3) := by decide +kernel
theorem d_Ff_cut_96 : decode c_Ff_cut 96 = .ok (.iload 9, 2) := by decide +kernel
theorem d_Ff_cut_98 : decode c_Ff_cut 98 = .ok (.iaload, 1) := by decide +kernel
theorem d_Ff_cut_99 : decode c_Ff_cut 99 = .ok (.invokevirtual 48, 3) := by decide +kernel
theorem d_Ff_cut_102 : decode c_Ff_cut 102 = .ok (.istore 8, 2) := by decide +kernel
theorem d_Ff_cut_104 : decode c_Ff_cut 104 = .ok (.iload 8, 2) := by decide +kernel
theorem d_Ff_cut_106 : decode c_Ff_cut 106 = .ok (.bipush (-2), 2) := by decide +kernel
theorem d_Ff_cut_108 : decode c_Ff_cut 108 = .ok (.if_icmp .ne 5, 3) := by decide +kernel
theorem d_Ff_cut_111 : decode c_Ff_cut 111 = .ok (.iconst 0, 1) := by decide +kernel
theorem d_Ff_cut_112 : decode c_Ff_cut 112 = .ok (.ireturn, 1) := by decide +kernel
theorem d_Ff_cut_113 : decode c_Ff_cut 113 = .ok (.aload_n 1, 1) := by decide +kernel
theorem d_Ff_cut_114 : decode c_Ff_cut 114 = .ok (.iload 6, 2) := by decide +kernel
theorem d_Ff_cut_116 : decode c_Ff_cut 116 = .ok (.iload 8, 2) := by decide +kernel
theorem d_Ff_cut_118 : decode c_Ff_cut 118 = .ok (.invokevirtual 52, 3) := by decide +kernel
theorem d_Ff_cut_121 : decode c_Ff_cut 121 = .ok (.iinc 6 1, 3) := by decide +kernel
theorem d_Ff_cut_124 : decode c_Ff_cut 124 = .ok (.goto (-100), 3) := by decide +kernel
theorem d_Ff_cut_127 : decode c_Ff_cut 127 = .ok (.iconst 1, 1) := by decide +kernel
theorem d_Ff_cut_128 : decode c_Ff_cut 128 = .ok (.ireturn, 1) := by decide +kernel
theorem d_Ff_firstWithRoom_0 : decode c_Ff_firstWithRoom 0 = .ok (.iload_n 1, 1) := by decide +kernel
theorem d_Ff_firstWithRoom_1 : decode c_Ff_firstWithRoom 1 = .ok (.istore_n 3, 1) := by decide +kernel
theorem d_Ff_firstWithRoom_2 : decode c_Ff_firstWithRoom 2 = .ok (.iload_n 3, 1) := by decide +kernel
theorem d_Ff_firstWithRoom_3 : decode c_Ff_firstWithRoom 3 = .ok (.aload_n 0, 1) := by decide +kernel
theorem d_Ff_firstWithRoom_4 : decode c_Ff_firstWithRoom 4 = .ok (.getfield 15, 3) := by decide +kernel
theorem d_Ff_firstWithRoom_7 : decode c_Ff_firstWithRoom 7 = .ok (.if_icmp .ge 21, 3) := by decide +kernel
theorem d_Ff_firstWithRoom_10 : decode c_Ff_firstWithRoom 10 = .ok (.aload_n 0, 1) := by decide +kernel
theorem d_Ff_firstWithRoom_11 : decode c_Ff_firstWithRoom 11 = .ok (.getfield 56, 3) := by decide +kernel
theorem d_Ff_firstWithRoom_14 : decode c_Ff_firstWithRoom 14 = .ok (.iload_n 3, 1) := by decide +kernel
theorem d_Ff_firstWithRoom_15 : decode c_Ff_firstWithRoom 15 = .ok (.iaload, 1) := by decide +kernel
theorem d_Ff_firstWithRoom_16 : decode c_Ff_firstWithRoom 16 = .ok (.iload_n 2, 1) := by decide +kernel
theorem d_Ff_firstWithRoom_17 : decode c_Ff_firstWithRoom 17 = .ok (.if_icmp .lt 5, 3) := by decide +kernel
theorem d_Ff_firstWithRoom_20 : decode c_Ff_firstWithRoom 20 = .ok (.iload_n 3, 1) := by decide +kernel
theorem d_Ff_firstWithRoom_21 : decode c_Ff_firstWithRoom 21 = .ok (.ireturn, 1) := by decide +kernel
theorem d_Ff_firstWithRoom_22 : decode c_Ff_firstWithRoom 22 = .ok (.iinc 3 1, 3) := by decide +kernel
theorem d_Ff_firstWithRoom_25 : decode c_Ff_firstWithRoom 25 = .ok (.goto (-23), 3) := by decide +kernel
theorem d_Ff_firstWithRoom_28 : decode c_Ff_firstWithRoom 28 = .ok (.bipush (-2), 2) := by decide +kernel
theorem d_Ff_firstWithRoom_30 : decode c_Ff_firstWithRoom 30 = .ok (.ireturn, 1) := by decide +kernel
theorem d_Ff_leastKindFor_0 : decode c_Ff_leastKindFor 0 = .ok (.bipush (-2), 2) := by decide +kernel
theorem d_Ff_leastKindFor_2 : decode c_Ff_leastKindFor 2 = .ok (.istore_n 3, 1) := by decide +kernel
theorem d_Ff_leastKindFor_3 : decode c_Ff_leastKindFor 3 = .ok (.iconst 0, 1) := by decide +kernel
theorem d_Ff_leastKindFor_4 : decode c_Ff_leastKindFor 4 = .ok (.istore 4, 2) := by decide +kernel
theorem d_Ff_leastKindFor_6 : decode c_Ff_leastKindFor 6 = .ok (.iload 4, 2) := by decide +kernel
theorem d_Ff_leastKindFor_8 : decode c_Ff_leastKindFor 8 = .ok (.aload_n 1, 1) := by decide +kernel
theorem d_Ff_leastKindFor_9 : decode c_Ff_leastKindFor 9 = .ok (.getfield 59, 3) := by decide +kernel
theorem d_Ff_leastKindFor_12 : decode c_Ff_leastKindFor 12 = .ok (.if_icmp .ge 67, 3) := by decide +kernel
theorem d_Ff_leastKindFor_15 : decode c_Ff_leastKindFor 15 = .ok (.aload_n 0, 1) := by decide +kernel
theorem d_Ff_leastKindFor_16 : decode c_Ff_leastKindFor 16 = .ok (.getfield 9, 3) := by decide +kernel
theorem d_Ff_leastKindFor_19 : decode c_Ff_leastKindFor 19 = .ok (.iload 4, 2) := by decide +kernel
theorem d_Ff_leastKindFor_21 : decode c_Ff_leastKindFor 21 = .ok (.iaload, 1) := by decide +kernel
theorem d_Ff_leastKindFor_22 : decode c_Ff_leastKindFor 22 = .ok (.ifCond .le 18, 3) := by decide +kernel
theorem d_Ff_leastKindFor_25 : decode c_Ff_leastKindFor 25 = .ok (.aload_n 1, 1) := by decide +kernel
theorem d_Ff_leastKindFor_26 : decode c_Ff_leastKindFor 26 = .ok (.getfield 45, 3) := by decide +kernel
theorem d_Ff_leastKindFor_29 : decode c_Ff_leastKindFor 29 = .ok (.iload 4, 2) := by decide +kernel
theorem d_Ff_leastKindFor_31 : decode c_Ff_leastKindFor 31 = .ok (.iaload, 1) := by decide +kernel
theorem d_Ff_leastKindFor_32 : decode c_Ff_leastKindFor 32 = .ok (.iload_n 2, 1) := by decide +kernel
theorem d_Ff_leastKindFor_33 : decode c_Ff_leastKindFor 33 = .ok (.if_icmp .lt 7, 3) := by decide +kernel
theorem d_Ff_leastKindFor_36 : decode c_Ff_leastKindFor 36 = .ok (.iconst 1, 1) := by decide +kernel
theorem d_Ff_leastKindFor_37 : decode c_Ff_leastKindFor 37 = .ok (.goto 4, 3) := by decide +kernel
theorem d_Ff_leastKindFor_40 : decode c_Ff_leastKindFor 40 = .ok (.iconst 0, 1) := by decide +kernel
theorem d_Ff_leastKindFor_41 : decode c_Ff_leastKindFor 41 = .ok (.istore 5, 2) := by decide +kernel
theorem d_Ff_leastKindFor_43 : decode c_Ff_leastKindFor 43 = .ok (.iload 5, 2) := by decide +kernel
theorem d_Ff_leastKindFor_45 : decode c_Ff_leastKindFor 45 = .ok (.ifCond .eq 28, 3) := by decide +kernel
theorem d_Ff_leastKindFor_48 : decode c_Ff_leastKindFor 48 = .ok (.iload_n 3, 1) := by decide +kernel
theorem d_Ff_leastKindFor_49 : decode c_Ff_leastKindFor 49 = .ok (.bipush (-2), 2) := by decide +kernel
theorem d_Ff_leastKindFor_51 : decode c_Ff_leastKindFor 51 = .ok (.if_icmp .eq 19, 3) := by decide +kernel
theorem d_Ff_leastKindFor_54 : decode c_Ff_leastKindFor 54 = .ok (.aload_n 1, 1) := by decide +kernel
theorem d_Ff_leastKindFor_55 : decode c_Ff_leastKindFor 55 = .ok (.getfield 45, 3) := by decide +kernel
theorem d_Ff_leastKindFor_58 : decode c_Ff_leastKindFor 58 = .ok (.iload 4, 2) := by decide +kernel
theorem d_Ff_leastKindFor_60 : decode c_Ff_leastKindFor 60 = .ok (.iaload, 1) := by decide +kernel
theorem d_Ff_leastKindFor_61 : decode c_Ff_leastKindFor 61 = .ok (.aload_n 1, 1) := by decide +kernel
theorem d_Ff_leastKindFor_62 : decode c_Ff_leastKindFor 62 = .ok (.getfield 45, 3) := by decide +kernel
theorem d_Ff_leastKindFor_65 : decode c_Ff_leastKindFor 65 = .ok (.iload_n 3, 1) := by decide +kernel
theorem d_Ff_leastKindFor_66 : decode c_Ff_leastKindFor 66 = .ok (.iaload, 1) := by decide +kernel
theorem d_Ff_leastKindFor_67 : decode c_Ff_leastKindFor 67 = .ok (.if_icmp .ge 6, 3) := by decide +kernel
theorem d_Ff_leastKindFor_70 : decode c_Ff_leastKindFor 70 = .ok (.iload 4, 2) := by decide +kernel
theorem d_Ff_leastKindFor_72 : decode c_Ff_leastKindFor 72 = .ok (.istore_n 3, 1) := by decide +kernel
theorem d_Ff_leastKindFor_73 : decode c_Ff_leastKindFor 73 = .ok (.iinc 4 1, 3) := by decide +kernel
theorem d_Ff_leastKindFor_76 : decode c_Ff_leastKindFor 76 = .ok (.goto (-70), 3) := by decide +kernel
theorem d_Ff_leastKindFor_79 : decode c_Ff_leastKindFor 79 = .ok (.iload_n 3, 1) := by decide +kernel
theorem d_Ff_leastKindFor_80 : decode c_Ff_leastKindFor 80 = .ok (.ireturn, 1) := by decide +kernel
theorem d_Lw_init_0 : decode c_Lw_init 0 = .ok (.aload_n 0, 1) := by decide +kernel
theorem d_Lw_init_1 : decode c_Lw_init 1 = .ok (.invokespecial 3, 3) := by decide +kernel
theorem d_Lw_init_4 : decode c_Lw_init 4 = .ok (.aload_n 0, 1) := by decide +kernel
theorem d_Lw_init_5 : decode c_Lw_init 5 = .ok (.sipush 256, 3) := by decide +kernel
theorem d_Lw_init_8 : decode c_Lw_init 8 = .ok (.newarray .int, 2) := by decide +kernel
theorem d_Lw_init_10 : decode c_Lw_init 10 = .ok (.putfield 11, 3) := by decide +kernel
theorem d_Lw_init_13 : decode c_Lw_init 13 = .ok (.aload_n 0, 1) := by decide +kernel
theorem d_Lw_init_14 : decode c_Lw_init 14 = .ok (.sipush 256, 3) := by decide +kernel
theorem d_Lw_init_17 : decode c_Lw_init 17 = .ok (.newarray .int, 2) := by decide +kernel
theorem d_Lw_init_19 : decode c_Lw_init 19 = .ok (.putfield 15, 3) := by decide +kernel
theorem d_Lw_init_22 : decode c_Lw_init 22 = .ok (.aload_n 0, 1) := by decide +kernel
theorem d_Lw_init_23 : decode c_Lw_init 23 = .ok (.iconst 3, 1) := by decide +kernel
theorem d_Lw_init_24 : decode c_Lw_init 24 = .ok (.newarray .int, 2) := by decide +kernel
theorem d_Lw_init_26 : decode c_Lw_init 26 = .ok (.putfield 18, 3) := by decide +kernel
theorem d_Lw_init_29 : decode c_Lw_init 29 = .ok (.aload_n 0, 1) := by decide +kernel
theorem d_Lw_init_30 : decode c_Lw_init 30 = .ok (.iconst 3, 1) := by decide +kernel
theorem d_Lw_init_31 : decode c_Lw_init 31 = .ok (.newarray .int, 2) := by decide +kernel
theorem d_Lw_init_33 : decode c_Lw_init 33 = .ok (.putfield 21, 3) := by decide +kernel
theorem d_Lw_init_36 : decode c_Lw_init 36 = .ok (.aload_n 0, 1) := by decide +kernel
theorem d_Lw_init_37 : decode c_Lw_init 37 = .ok (.bipush 8, 2) := by decide +kernel
theorem d_Lw_init_39 : decode c_Lw_init 39 = .ok (.newarray .int, 2) := by decide +kernel
theorem d_Lw_init_41 : decode c_Lw_init 41 = .ok (.putfield 24, 3) := by decide +kernel
theorem d_Lw_init_44 : decode c_Lw_init 44 = .ok (.aload_n 0, 1) := by decide +kernel
theorem d_Lw_init_45 : decode c_Lw_init 45 = .ok (.bipush 8, 2) := by decide +kernel
theorem d_Lw_init_47 : decode c_Lw_init 47 = .ok (.newarray .int, 2) := by decide +kernel
theorem d_Lw_init_49 : decode c_Lw_init 49 = .ok (.putfield 27, 3) := by decide +kernel
theorem d_Lw_init_52 : decode c_Lw_init 52 = .ok (.aload_n 0, 1) := by decide +kernel
theorem d_Lw_init_53 : decode c_Lw_init 53 = .ok (.bipush 8, 2) := by decide +kernel
theorem d_Lw_init_55 : decode c_Lw_init 55 = .ok (.newarray .int, 2) := by decide +kernel
theorem d_Lw_init_57 : decode c_Lw_init 57 = .ok (.putfield 30, 3) := by decide +kernel
theorem d_Lw_init_60 : decode c_Lw_init 60 = .ok (.aload_n 0, 1) := by decide +kernel
theorem d_Lw_init_61 : decode c_Lw_init 61 = .ok (.bipush 8, 2) := by decide +kernel
theorem d_Lw_init_63 : decode c_Lw_init 63 = .ok (.newarray .int, 2) := by decide +kernel
theorem d_Lw_init_65 : decode c_Lw_init 65 = .ok (.putfield 33, 3) := by decide +kernel
theorem d_Lw_init_68 : decode c_Lw_init 68 = .ok (.return_, 1) := by decide +kernel
theorem d_Lw_cut_0 : decode c_Lw_cut 0 = .ok (.aload_n 1, 1) := by decide +kernel
theorem d_Lw_cut_1 : decode c_Lw_cut 1 = .ok (.getfield 36, 3) := by decide +kernel
theorem d_Lw_cut_4 : decode c_Lw_cut 4 = .ok (.iload_n 2, 1) := by decide +kernel
theorem d_Lw_cut_5 : decode c_Lw_cut 5 = .ok (.isub, 1) := by decide +kernel
theorem d_Lw_cut_6 : decode c_Lw_cut 6 = .ok (.istore 5, 2) := by decide +kernel
theorem d_Lw_cut_8 : decode c_Lw_cut 8 = .ok (.iload 5, 2) := by decide +kernel
theorem d_Lw_cut_10 : decode c_Lw_cut 10 = .ok (.iconst 1, 1) := by decide +kernel
theorem d_Lw_cut_11 : decode c_Lw_cut 11 = .ok (.if_icmp .lt 10, 3) := by decide +kernel
theorem d_Lw_cut_14 : decode c_Lw_cut 14 = .ok (.iload 5, 2) := by decide +kernel
theorem d_Lw_cut_16 : decode c_Lw_cut 16 = .ok (.bipush 8, 2) := by decide +kernel
theorem d_Lw_cut_18 : decode c_Lw_cut 18 = .ok (.if_icmp .le 5, 3) := by decide +kernel
theorem d_Lw_cut_21 : decode c_Lw_cut 21 = .ok (.iconst 0, 1) := by decide +kernel
theorem d_Lw_cut_22 : decode c_Lw_cut 22 = .ok (.ireturn, 1) := by decide +kernel
theorem d_Lw_cut_23 : decode c_Lw_cut 23 = .ok (.aload_n 0, 1) := by decide +kernel
theorem d_Lw_cut_24 : decode c_Lw_cut 24 = .ok (.aload 4, 2) := by decide +kernel
theorem d_Lw_cut_26 : decode c_Lw_cut 26 = .ok (.getfield 42, 3) := by decide +kernel
theorem d_Lw_cut_29 : decode c_Lw_cut 29 = .ok (.putfield 47, 3) := by decide +kernel
theorem d_Lw_cut_32 : decode c_Lw_cut 32 = .ok (.aload 4, 2) := by decide +kernel
theorem d_Lw_cut_34 : decode c_Lw_cut 34 = .ok (.getfield 48, 3) := by decide +kernel
theorem d_Lw_cut_37 : decode c_Lw_cut 37 = .ok (.iconst 0, 1) := by decide +kernel
theorem d_Lw_cut_38 : decode c_Lw_cut 38 = .ok (.aload_n 0, 1) := by decide +kernel
theorem d_Lw_cut_39 : decode c_Lw_cut 39 = .ok (.getfield 18, 3) := by decide +kernel
theorem d_Lw_cut_42 : decode c_Lw_cut 42 = .ok (.iconst 0, 1) := by decide +kernel
theorem d_Lw_cut_43 : decode c_Lw_cut 43 = .ok (.iconst 3, 1) := by decide +kernel
theorem d_Lw_cut_44 : decode c_Lw_cut 44 = .ok (.invokestatic 49, 3) := by decide +kernel
theorem d_Lw_cut_47 : decode c_Lw_cut 47 = .ok (.aload 4, 2) := by decide +kernel
theorem d_Lw_cut_49 : decode c_Lw_cut 49 = .ok (.getfield 55, 3) := by decide +kernel
theorem d_Lw_cut_52 : decode c_Lw_cut 52 = .ok (.iconst 0, 1) := by decide +kernel
theorem d_Lw_cut_53 : decode c_Lw_cut 53 = .ok (.aload_n 0, 1) := by decide +kernel
theorem d_Lw_cut_54 : decode c_Lw_cut 54 = .ok (.getfield 21, 3) := by decide +kernel
theorem d_Lw_cut_57 : decode c_Lw_cut 57 = .ok (.iconst 0, 1) := by decide +kernel
theorem d_Lw_cut_58 : decode c_Lw_cut 58 = .ok (.iconst 3, 1) := by decide +kernel
theorem d_Lw_cut_59 : decode c_Lw_cut 59 = .ok (.invokestatic 49, 3) := by decide +kernel
theorem d_Lw_cut_62 : decode c_Lw_cut 62 = .ok (.aload_n 0, 1) := by decide +kernel
theorem d_Lw_cut_63 : decode c_Lw_cut 63 = .ok (.aload_n 1, 1) := by decide +kernel
theorem d_Lw_cut_64 : decode c_Lw_cut 64 = .ok (.iload_n 2, 1) := by decide +kernel
theorem d_Lw_cut_65 : decode c_Lw_cut 65 = .ok (.iload 5, 2) := by decide +kernel
theorem d_Lw_cut_67 : decode c_Lw_cut 67 = .ok (.invokevirtual 58, 3) := by decide +kernel
theorem d_Lw_cut_70 : decode c_Lw_cut 70 = .ok (.aload_n 0, 1) := by decide +kernel
theorem d_Lw_cut_71 : decode c_Lw_cut 71 = .ok (.iload 5, 2) := by decide +kernel
theorem d_Lw_cut_73 : decode c_Lw_cut 73 = .ok (.invokevirtual 62, 3) := by decide +kernel
theorem d_Lw_cut_76 : decode c_Lw_cut 76 = .ok (.aload_n 0, 1) := by decide +kernel
theorem d_Lw_cut_77 : decode c_Lw_cut 77 = .ok (.ldc 66, 2) := by decide +kernel
theorem d_Lw_cut_79 : decode c_Lw_cut 79 = .ok (.putfield 67, 3) := by decide +kernel
theorem d_Lw_cut_82 : decode c_Lw_cut 82 = .ok (.aload_n 0, 1) := by decide +kernel
theorem d_Lw_cut_83 : decode c_Lw_cut 83 = .ok (.iconst 0, 1) := by decide +kernel
theorem d_Lw_cut_84 : decode c_Lw_cut 84 = .ok (.putfield 70, 3) := by decide +kernel
theorem d_Lw_cut_87 : decode c_Lw_cut 87 = .ok (.aload_n 0, 1) := by decide +kernel
theorem d_Lw_cut_88 : decode c_Lw_cut 88 = .ok (.iconst 0, 1) := by decide +kernel
theorem d_Lw_cut_89 : decode c_Lw_cut 89 = .ok (.iconst 1, 1) := by decide +kernel
theorem d_Lw_cut_90 : decode c_Lw_cut 90 = .ok (.iload 5, 2) := by decide +kernel
theorem d_Lw_cut_92 : decode c_Lw_cut 92 = .ok (.ishl, 1) := by decide +kernel
theorem d_Lw_cut_93 : decode c_Lw_cut 93 = .ok (.iconst 1, 1) := by decide +kernel
theorem d_Lw_cut_94 : decode c_Lw_cut 94 = .ok (.isub, 1) := by decide +kernel
theorem d_Lw_cut_95 : decode c_Lw_cut 95 = .ok (.iconst 0, 1) := by decide +kernel
theorem d_Lw_cut_96 : decode c_Lw_cut 96 = .ok (.invokevirtual 73, 3) := by decide +kernel
theorem d_Lw_cut_99 : decode c_Lw_cut 99 = .ok (.aload_n 0, 1) := by decide +kernel
theorem d_Lw_cut_100 : decode c_Lw_cut 100 = .ok (.getfield 67, 3) := by decide +kernel
theorem d_Lw_cut_103 : decode c_Lw_cut 103 = .ok (.ldc 66, 2) := by decide +kernel
theorem d_Lw_cut_105 : decode c_Lw_cut 105 = .ok (.if_icmp .ne 5, 3) := by decide +kernel
theorem d_Lw_cut_108 : decode c_Lw_cut 108 = .ok (.iconst 0, 1) := by decide +kernel
theorem d_Lw_cut_109 : decode c_Lw_cut 109 = .ok (.ireturn, 1) := by decide +kernel
theorem d_Lw_cut_110 : decode c_Lw_cut 110 = .ok (.aload_n 0, 1) := by decide +kernel
theorem d_Lw_cut_111 : decode c_Lw_cut 111 = .ok (.aload_n 1, 1) := by decide +kernel
theorem d_Lw_cut_112 : decode c_Lw_cut 112 = .ok (.iload_n 2, 1) := by decide +kernel
theorem d_Lw_cut_113 : decode c_Lw_cut 113 = .ok (.iload_n 3, 1) := by decide +kernel
theorem d_Lw_cut_114 : decode c_Lw_cut 114 = .ok (.invokevirtual 77, 3) := by decide +kernel
theorem d_Lw_cut_117 : decode c_Lw_cut 117 = .ok (.ireturn, 1) := by decide +kernel
theorem d_Lw_sumSets_0 : decode c_Lw_sumSets 0 = .ok (.aload_n 0, 1) := by decide +kernel
theorem d_Lw_sumSets_1 : decode c_Lw_sumSets 1 = .ok (.getfield 11, 3) := by decide +kernel
theorem d_Lw_sumSets_4 : decode c_Lw_sumSets 4 = .ok (.iconst 0, 1) := by decide +kernel
theorem d_Lw_sumSets_5 : decode c_Lw_sumSets 5 = .ok (.iconst 0, 1) := by decide +kernel
theorem d_Lw_sumSets_6 : decode c_Lw_sumSets 6 = .ok (.iastore, 1) := by decide +kernel
theorem d_Lw_sumSets_7 : decode c_Lw_sumSets 7 = .ok (.iconst 0, 1) := by decide +kernel
theorem d_Lw_sumSets_8 : decode c_Lw_sumSets 8 = .ok (.istore 4, 2) := by decide +kernel
theorem d_Lw_sumSets_10 : decode c_Lw_sumSets 10 = .ok (.iload 4, 2) := by decide +kernel
theorem d_Lw_sumSets_12 : decode c_Lw_sumSets 12 = .ok (.iload_n 3, 1) := by decide +kernel
theorem d_Lw_sumSets_13 : decode c_Lw_sumSets 13 = .ok (.if_icmp .ge 69, 3) := by decide +kernel
theorem d_Lw_sumSets_16 : decode c_Lw_sumSets 16 = .ok (.iconst 1, 1) := by decide +kernel
theorem d_Lw_sumSets_17 : decode c_Lw_sumSets 17 = .ok (.iload 4, 2) := by decide +kernel
theorem d_Lw_sumSets_19 : decode c_Lw_sumSets 19 = .ok (.ishl, 1) := by decide +kernel
theorem d_Lw_sumSets_20 : decode c_Lw_sumSets 20 = .ok (.istore 5, 2) := by decide +kernel
theorem d_Lw_sumSets_22 : decode c_Lw_sumSets 22 = .ok (.aload_n 1, 1) := by decide +kernel
theorem d_Lw_sumSets_23 : decode c_Lw_sumSets 23 = .ok (.getfield 81, 3) := by decide +kernel
theorem d_Lw_sumSets_26 : decode c_Lw_sumSets 26 = .ok (.iload_n 2, 1) := by decide +kernel
theorem d_Lw_sumSets_27 : decode c_Lw_sumSets 27 = .ok (.iload_n 3, 1) := by decide +kernel
theorem d_Lw_sumSets_28 : decode c_Lw_sumSets 28 = .ok (.iadd, 1) := by decide +kernel
theorem d_Lw_sumSets_29 : decode c_Lw_sumSets 29 = .ok (.iconst 1, 1) := by decide +kernel
theorem d_Lw_sumSets_30 : decode c_Lw_sumSets 30 = .ok (.isub, 1) := by decide +kernel
theorem d_Lw_sumSets_31 : decode c_Lw_sumSets 31 = .ok (.iload 4, 2) := by decide +kernel
theorem d_Lw_sumSets_33 : decode c_Lw_sumSets 33 = .ok (.isub, 1) := by decide +kernel
theorem d_Lw_sumSets_34 : decode c_Lw_sumSets 34 = .ok (.iaload, 1) := by decide +kernel
theorem d_Lw_sumSets_35 : decode c_Lw_sumSets 35 = .ok (.istore 6, 2) := by decide +kernel
theorem d_Lw_sumSets_37 : decode c_Lw_sumSets 37 = .ok (.iload 5, 2) := by decide +kernel
theorem d_Lw_sumSets_39 : decode c_Lw_sumSets 39 = .ok (.istore 7, 2) := by decide +kernel
theorem d_Lw_sumSets_41 : decode c_Lw_sumSets 41 = .ok (.iload 7, 2) := by decide +kernel
theorem d_Lw_sumSets_43 : decode c_Lw_sumSets 43 = .ok (.iconst 2, 1) := by decide +kernel
theorem d_Lw_sumSets_44 : decode c_Lw_sumSets 44 = .ok (.iload 5, 2) := by decide +kernel
theorem d_Lw_sumSets_46 : decode c_Lw_sumSets 46 = .ok (.imul, 1) := by decide +kernel
theorem d_Lw_sumSets_47 : decode c_Lw_sumSets 47 = .ok (.if_icmp .ge 29, 3) := by decide +kernel
theorem d_Lw_sumSets_50 : decode c_Lw_sumSets 50 = .ok (.aload_n 0, 1) := by decide +kernel
theorem d_Lw_sumSets_51 : decode c_Lw_sumSets 51 = .ok (.getfield 11, 3) := by decide +kernel
theorem d_Lw_sumSets_54 : decode c_Lw_sumSets 54 = .ok (.iload 7, 2) := by decide +kernel
theorem d_Lw_sumSets_56 : decode c_Lw_sumSets 56 = .ok (.aload_n 0, 1) := by decide +kernel
theorem d_Lw_sumSets_57 : decode c_Lw_sumSets 57 = .ok (.getfield 11, 3) := by decide +kernel
theorem d_Lw_sumSets_60 : decode c_Lw_sumSets 60 = .ok (.iload 7, 2) := by decide +kernel
theorem d_Lw_sumSets_62 : decode c_Lw_sumSets 62 = .ok (.iload 5, 2) := by decide +kernel
theorem d_Lw_sumSets_64 : decode c_Lw_sumSets 64 = .ok (.isub, 1) := by decide +kernel
theorem d_Lw_sumSets_65 : decode c_Lw_sumSets 65 = .ok (.iaload, 1) := by decide +kernel
theorem d_Lw_sumSets_66 : decode c_Lw_sumSets 66 = .ok (.iload 6, 2) := by decide +kernel
theorem d_Lw_sumSets_68 : decode c_Lw_sumSets 68 = .ok (.iadd, 1) := by decide +kernel
theorem d_Lw_sumSets_69 : decode c_Lw_sumSets 69 = .ok (.iastore, 1) := by decide +kernel
theorem d_Lw_sumSets_70 : decode c_Lw_sumSets 70 = .ok (.iinc 7 1, 3) := by decide +kernel
theorem d_Lw_sumSets_73 : decode c_Lw_sumSets 73 = .ok (.goto (-32), 3) := by decide +kernel
theorem d_Lw_sumSets_76 : decode c_Lw_sumSets 76 = .ok (.iinc 4 1, 3) := by decide +kernel
theorem d_Lw_sumSets_79 : decode c_Lw_sumSets 79 = .ok (.goto (-69), 3) := by decide +kernel
theorem d_Lw_sumSets_82 : decode c_Lw_sumSets 82 = .ok (.return_, 1) := by decide +kernel
theorem d_Lw_findFloors_0 : decode c_Lw_findFloors 0 = .ok (.aload_n 0, 1) := by decide +kernel
theorem d_Lw_findFloors_1 : decode c_Lw_findFloors 1 = .ok (.getfield 15, 3) := by decide +kernel
theorem d_Lw_findFloors_4 : decode c_Lw_findFloors 4 = .ok (.iconst 0, 1) := by decide +kernel
theorem d_Lw_findFloors_5 : decode c_Lw_findFloors 5 = .ok (.iconst 0, 1) := by decide +kernel
theorem d_Lw_findFloors_6 : decode c_Lw_findFloors 6 = .ok (.iastore, 1) := by decide +kernel
theorem d_Lw_findFloors_7 : decode c_Lw_findFloors 7 = .ok (.iconst 1, 1) := by decide +kernel
theorem d_Lw_findFloors_8 : decode c_Lw_findFloors 8 = .ok (.istore_n 2, 1) := by decide +kernel
theorem d_Lw_findFloors_9 : decode c_Lw_findFloors 9 = .ok (.iload_n 2, 1) := by decide +kernel
theorem d_Lw_findFloors_10 : decode c_Lw_findFloors 10 = .ok (.iconst 1, 1) := by decide +kernel
theorem d_Lw_findFloors_11 : decode c_Lw_findFloors 11 = .ok (.iload_n 1, 1) := by decide +kernel
theorem d_Lw_findFloors_12 : decode c_Lw_findFloors 12 = .ok (.ishl, 1) := by decide +kernel
theorem d_Lw_findFloors_13 : decode c_Lw_findFloors 13 = .ok (.if_icmp .ge 74, 3) := by decide +kernel
theorem d_Lw_findFloors_16 : decode c_Lw_findFloors 16 = .ok (.iload_n 2, 1) := by decide +kernel
theorem d_Lw_findFloors_17 : decode c_Lw_findFloors 17 = .ok (.invokestatic 84, 3) := by decide +kernel
theorem d_Lw_findFloors_20 : decode c_Lw_findFloors 20 = .ok (.istore_n 3, 1) := by decide +kernel
theorem d_Lw_findFloors_21 : decode c_Lw_findFloors 21 = .ok (.ldc 66, 2) := by decide +kernel
theorem d_Lw_findFloors_23 : decode c_Lw_findFloors 23 = .ok (.istore 4, 2) := by decide +kernel
theorem d_Lw_findFloors_25 : decode c_Lw_findFloors 25 = .ok (.iload_n 2, 1) := by decide +kernel
theorem d_Lw_findFloors_26 : decode c_Lw_findFloors 26 = .ok (.istore 5, 2) := by decide +kernel
theorem d_Lw_findFloors_28 : decode c_Lw_findFloors 28 = .ok (.iload 5, 2) := by decide +kernel
theorem d_Lw_findFloors_30 : decode c_Lw_findFloors 30 = .ok (.iload_n 3, 1) := by decide +kernel
theorem d_Lw_findFloors_31 : decode c_Lw_findFloors 31 = .ok (.if_icmp .lt 42, 3) := by decide +kernel
theorem d_Lw_findFloors_34 : decode c_Lw_findFloors 34 = .ok (.iload 4, 2) := by decide +kernel
theorem d_Lw_findFloors_36 : decode c_Lw_findFloors 36 = .ok (.aload_n 0, 1) := by decide +kernel
theorem d_Lw_findFloors_37 : decode c_Lw_findFloors 37 = .ok (.aload_n 0, 1) := by decide +kernel
theorem d_Lw_findFloors_38 : decode c_Lw_findFloors 38 = .ok (.getfield 11, 3) := by decide +kernel
theorem d_Lw_findFloors_41 : decode c_Lw_findFloors 41 = .ok (.iload 5, 2) := by decide +kernel
theorem d_Lw_findFloors_43 : decode c_Lw_findFloors 43 = .ok (.iaload, 1) := by decide +kernel
theorem d_Lw_findFloors_44 : decode c_Lw_findFloors 44 = .ok (.invokevirtual 88, 3) := by decide +kernel
theorem d_Lw_findFloors_47 : decode c_Lw_findFloors 47 = .ok (.aload_n 0, 1) := by decide +kernel
theorem d_Lw_findFloors_48 : decode c_Lw_findFloors 48 = .ok (.getfield 15, 3) := by decide +kernel
theorem d_Lw_findFloors_51 : decode c_Lw_findFloors 51 = .ok (.iload_n 2, 1) := by decide +kernel
theorem d_Lw_findFloors_52 : decode c_Lw_findFloors 52 = .ok (.iload 5, 2) := by decide +kernel
theorem d_Lw_findFloors_54 : decode c_Lw_findFloors 54 = .ok (.isub, 1) := by decide +kernel
theorem d_Lw_findFloors_55 : decode c_Lw_findFloors 55 = .ok (.iaload, 1) := by decide +kernel
theorem d_Lw_findFloors_56 : decode c_Lw_findFloors 56 = .ok (.iadd, 1) := by decide +kernel
theorem d_Lw_findFloors_57 : decode c_Lw_findFloors 57 = .ok (.invokestatic 91, 3) := by decide +kernel
theorem d_Lw_findFloors_60 : decode c_Lw_findFloors 60 = .ok (.istore 4, 2) := by decide +kernel
theorem d_Lw_findFloors_62 : decode c_Lw_findFloors 62 = .ok (.iload 5, 2) := by decide +kernel
theorem d_Lw_findFloors_64 : decode c_Lw_findFloors 64 = .ok (.iconst 1, 1) := by decide +kernel
theorem d_Lw_findFloors_65 : decode c_Lw_findFloors 65 = .ok (.isub, 1) := by decide +kernel
theorem d_Lw_findFloors_66 : decode c_Lw_findFloors 66 = .ok (.iload_n 2, 1) := by decide +kernel
theorem d_Lw_findFloors_67 : decode c_Lw_findFloors 67 = .ok (.iand, 1) := by decide +kernel
theorem d_Lw_findFloors_68 : decode c_Lw_findFloors 68 = .ok (.istore 5, 2) := by decide +kernel
theorem d_Lw_findFloors_70 : decode c_Lw_findFloors 70 = .ok (.goto (-42), 3) := by decide +kernel
theorem d_Lw_findFloors_73 : decode c_Lw_findFloors 73 = .ok (.aload_n 0, 1) := by decide +kernel
theorem d_Lw_findFloors_74 : decode c_Lw_findFloors 74 = .ok (.getfield 15, 3) := by decide +kernel
theorem d_Lw_findFloors_77 : decode c_Lw_findFloors 77 = .ok (.iload_n 2, 1) := by decide +kernel
theorem d_Lw_findFloors_78 : decode c_Lw_findFloors 78 = .ok (.iload 4, 2) := by decide +kernel
theorem d_Lw_findFloors_80 : decode c_Lw_findFloors 80 = .ok (.iastore, 1) := by decide +kernel
theorem d_Lw_findFloors_81 : decode c_Lw_findFloors 81 = .ok (.iinc 2 1, 3) := by decide +kernel
theorem d_Lw_findFloors_84 : decode c_Lw_findFloors 84 = .ok (.goto (-75), 3) := by decide +kernel
theorem d_Lw_findFloors_87 : decode c_Lw_findFloors 87 = .ok (.return_, 1) := by decide +kernel
theorem d_Lw_costOfCheapestBar_0 : decode c_Lw_costOfCheapestBar 0 = .ok (.ldc 66, 2) := by decide +kernel
theorem d_Lw_costOfCheapestBar_2 : decode c_Lw_costOfCheapestBar 2 = .ok (.istore_n 2, 1) := by decide +kernel
theorem d_Lw_costOfCheapestBar_3 : decode c_Lw_costOfCheapestBar 3 = .ok (.iconst 0, 1) := by decide +kernel
theorem d_Lw_costOfCheapestBar_4 : decode c_Lw_costOfCheapestBar 4 = .ok (.istore_n 3, 1) := by decide +kernel
theorem d_Lw_costOfCheapestBar_5 : decode c_Lw_costOfCheapestBar 5 = .ok (.iload_n 3, 1) := by decide +kernel
theorem d_Lw_costOfCheapestBar_6 : decode c_Lw_costOfCheapestBar 6 = .ok (.aload_n 0, 1) := by decide +kernel
theorem d_Lw_costOfCheapestBar_7 : decode c_Lw_costOfCheapestBar 7 = .ok (.getfield 47, 3) := by decide +kernel
theorem d_Lw_costOfCheapestBar_10 : decode c_Lw_costOfCheapestBar 10 = .ok (.if_icmp .ge 38, 3) := by decide +kernel
theorem d_Lw_costOfCheapestBar_13 : decode c_Lw_costOfCheapestBar 13 = .ok (.aload_n 0, 1) := by decide +kernel
theorem d_Lw_costOfCheapestBar_14 : decode c_Lw_costOfCheapestBar 14 = .ok (.getfield 21, 3) := by decide +kernel
theorem d_Lw_costOfCheapestBar_17 : decode c_Lw_costOfCheapestBar 17 = .ok (.iload_n 3, 1) := by decide +kernel
theorem d_Lw_costOfCheapestBar_18 : decode c_Lw_costOfCheapestBar 18 = .ok (.iaload, 1) := by decide +kernel
theorem d_Lw_costOfCheapestBar_19 : decode c_Lw_costOfCheapestBar 19 = .ok (.ifCond .le 23, 3) := by decide +kernel
theorem d_Lw_costOfCheapestBar_22 : decode c_Lw_costOfCheapestBar 22 = .ok (.aload_n 0, 1) := by decide +kernel
theorem d_Lw_costOfCheapestBar_23 : decode c_Lw_costOfCheapestBar 23 = .ok (.getfield 18, 3) := by decide +kernel
theorem d_Lw_costOfCheapestBar_26 : decode c_Lw_costOfCheapestBar 26 = .ok (.iload_n 3, 1) := by decide +kernel
theorem d_Lw_costOfCheapestBar_27 : decode c_Lw_costOfCheapestBar 27 = .ok (.iaload, 1) := by decide +kernel
theorem d_Lw_costOfCheapestBar_28 : decode c_Lw_costOfCheapestBar 28 = .ok (.iload_n 1, 1) := by decide +kernel
theorem d_Lw_costOfCheapestBar_29 : decode c_Lw_costOfCheapestBar 29 = .ok (.if_icmp .lt 13, 3) := by decide +kernel
theorem d_Lw_costOfCheapestBar_32 : decode c_Lw_costOfCheapestBar 32 = .ok (.iload_n 2, 1) := by decide +kernel
theorem d_Lw_costOfCheapestBar_33 : decode c_Lw_costOfCheapestBar 33 = .ok (.aload_n 0, 1) := by decide +kernel
theorem d_Lw_costOfCheapestBar_34 : decode c_Lw_costOfCheapestBar 34 = .ok (.iload_n 3, 1) := by decide +kernel
theorem d_Lw_costOfCheapestBar_35 : decode c_Lw_costOfCheapestBar 35 = .ok (.invokevirtual 97, 3) := by decide +kernel
theorem d_Lw_costOfCheapestBar_38 : decode c_Lw_costOfCheapestBar 38 = .ok (.invokestatic 91, 3) := by decide +kernel
theorem d_Lw_costOfCheapestBar_41 : decode c_Lw_costOfCheapestBar 41 = .ok (.istore_n 2, 1) := by decide +kernel
theorem d_Lw_costOfCheapestBar_42 : decode c_Lw_costOfCheapestBar 42 = .ok (.iinc 3 1, 3) := by decide +kernel
theorem d_Lw_costOfCheapestBar_45 : decode c_Lw_costOfCheapestBar 45 = .ok (.goto (-40), 3) := by decide +kernel
theorem d_Lw_costOfCheapestBar_48 : decode c_Lw_costOfCheapestBar 48 = .ok (.iload_n 2, 1) := by decide +kernel
theorem d_Lw_costOfCheapestBar_49 : decode c_Lw_costOfCheapestBar 49 = .ok (.ireturn, 1) := by decide +kernel
theorem d_Lw_costOfBar_0 : decode c_Lw_costOfBar 0 = .ok (.aload_n 0, 1) := by decide +kernel
theorem d_Lw_costOfBar_1 : decode c_Lw_costOfBar 1 = .ok (.getfield 18, 3) := by decide +kernel
theorem d_Lw_costOfBar_4 : decode c_Lw_costOfBar 4 = .ok (.iload_n 1, 1) := by decide +kernel
theorem d_Lw_costOfBar_5 : decode c_Lw_costOfBar 5 = .ok (.iaload, 1) := by decide +kernel
theorem d_Lw_costOfBar_6 : decode c_Lw_costOfBar 6 = .ok (.bipush 16, 2) := by decide +kernel
theorem d_Lw_costOfBar_8 : decode c_Lw_costOfBar 8 = .ok (.imul, 1) := by decide +kernel
theorem d_Lw_costOfBar_9 : decode c_Lw_costOfBar 9 = .ok (.iconst 1, 1) := by decide +kernel
theorem d_Lw_costOfBar_10 : decode c_Lw_costOfBar 10 = .ok (.iadd, 1) := by decide +kernel
theorem d_Lw_costOfBar_11 : decode c_Lw_costOfBar 11 = .ok (.ireturn, 1) := by decide +kernel
theorem d_Lw_search_0 : decode c_Lw_search 0 = .ok (.iload_n 2, 1) := by decide +kernel
theorem d_Lw_search_1 : decode c_Lw_search 1 = .ok (.ifCond .ne 10, 3) := by decide +kernel
theorem d_Lw_search_4 : decode c_Lw_search 4 = .ok (.aload_n 0, 1) := by decide +kernel
theorem d_Lw_search_5 : decode c_Lw_search 5 = .ok (.iload_n 1, 1) := by decide +kernel
theorem d_Lw_search_6 : decode c_Lw_search 6 = .ok (.iload_n 3, 1) := by decide +kernel
theorem d_Lw_search_7 : decode c_Lw_search 7 = .ok (.invokevirtual 100, 3) := by decide +kernel
theorem d_Lw_search_10 : decode c_Lw_search 10 = .ok (.return_, 1) := by decide +kernel
theorem d_Lw_search_11 : decode c_Lw_search 11 = .ok (.iload_n 1, 1) := by decide +kernel
theorem d_Lw_search_12 : decode c_Lw_search 12 = .ok (.bipush 8, 2) := by decide +kernel
theorem d_Lw_search_14 : decode c_Lw_search 14 = .ok (.if_icmp .lt 4, 3) := by decide +kernel
theorem d_Lw_search_17 : decode c_Lw_search 17 = .ok (.return_, 1) := by decide +kernel
theorem d_Lw_search_18 : decode c_Lw_search 18 = .ok (.iconst 0, 1) := by decide +kernel
theorem d_Lw_search_19 : decode c_Lw_search 19 = .ok (.istore 4, 2) := by decide +kernel
theorem d_Lw_search_21 : decode c_Lw_search 21 = .ok (.iload 4, 2) := by decide +kernel
theorem d_Lw_search_23 : decode c_Lw_search 23 = .ok (.aload_n 0, 1) := by decide +kernel
theorem d_Lw_search_24 : decode c_Lw_search 24 = .ok (.getfield 47, 3) := by decide +kernel
theorem d_Lw_search_27 : decode c_Lw_search 27 = .ok (.if_icmp .ge 63, 3) := by decide +kernel
theorem d_Lw_search_30 : decode c_Lw_search 30 = .ok (.aload_n 0, 1) := by decide +kernel
theorem d_Lw_search_31 : decode c_Lw_search 31 = .ok (.getfield 21, 3) := by decide +kernel
theorem d_Lw_search_34 : decode c_Lw_search 34 = .ok (.iload 4, 2) := by decide +kernel
theorem d_Lw_search_36 : decode c_Lw_search 36 = .ok (.iaload, 1) := by decide +kernel
theorem d_Lw_search_37 : decode c_Lw_search 37 = .ok (.ifCond .le 47, 3) := by decide +kernel
theorem d_Lw_search_40 : decode c_Lw_search 40 = .ok (.aload_n 0, 1) := by decide +kernel
theorem d_Lw_search_41 : decode c_Lw_search 41 = .ok (.getfield 21, 3) := by decide +kernel
theorem d_Lw_search_44 : decode c_Lw_search 44 = .ok (.iload 4, 2) := by decide +kernel
theorem d_Lw_search_46 : decode c_Lw_search 46 = .ok (.dup2, 1) := by decide +kernel
theorem d_Lw_search_47 : decode c_Lw_search 47 = .ok (.iaload, 1) := by decide +kernel
theorem d_Lw_search_48 : decode c_Lw_search 48 = .ok (.iconst 1, 1) := by decide +kernel
theorem d_Lw_search_49 : decode c_Lw_search 49 = .ok (.isub, 1) := by decide +kernel
theorem d_Lw_search_50 : decode c_Lw_search 50 = .ok (.iastore, 1) := by decide +kernel
theorem d_Lw_search_51 : decode c_Lw_search 51 = .ok (.aload_n 0, 1) := by decide +kernel
theorem d_Lw_search_52 : decode c_Lw_search 52 = .ok (.getfield 24, 3) := by decide +kernel
theorem d_Lw_search_55 : decode c_Lw_search 55 = .ok (.iload_n 1, 1) := by decide +kernel
theorem d_Lw_search_56 : decode c_Lw_search 56 = .ok (.iload 4, 2) := by decide +kernel
theorem d_Lw_search_58 : decode c_Lw_search 58 = .ok (.iastore, 1) := by decide +kernel
theorem d_Lw_search_59 : decode c_Lw_search 59 = .ok (.aload_n 0, 1) := by decide +kernel
theorem d_Lw_search_60 : decode c_Lw_search 60 = .ok (.iload_n 1, 1) := by decide +kernel
theorem d_Lw_search_61 : decode c_Lw_search 61 = .ok (.iload_n 2, 1) := by decide +kernel
theorem d_Lw_search_62 : decode c_Lw_search 62 = .ok (.iload_n 3, 1) := by decide +kernel
theorem d_Lw_search_63 : decode c_Lw_search 63 = .ok (.aload_n 0, 1) := by decide +kernel
theorem d_Lw_search_64 : decode c_Lw_search 64 = .ok (.iload 4, 2) := by decide +kernel
theorem d_Lw_search_66 : decode c_Lw_search 66 = .ok (.invokevirtual 97, 3) := by decide +kernel
theorem d_Lw_search_69 : decode c_Lw_search 69 = .ok (.iadd, 1) := by decide +kernel
theorem d_Lw_search_70 : decode c_Lw_search 70 = .ok (.invokevirtual 104, 3) := by decide +kernel
theorem d_Lw_search_73 : decode c_Lw_search 73 = .ok (.aload_n 0, 1) := by decide +kernel
theorem d_Lw_search_74 : decode c_Lw_search 74 = .ok (.getfield 21, 3) := by decide +kernel
theorem d_Lw_search_77 : decode c_Lw_search 77 = .ok (.iload 4, 2) := by decide +kernel
theorem d_Lw_search_79 : decode c_Lw_search 79 = .ok (.dup2, 1) := by decide +kernel
theorem d_Lw_search_80 : decode c_Lw_search 80 = .ok (.iaload, 1) := by decide +kernel
theorem d_Lw_search_81 : decode c_Lw_search 81 = .ok (.iconst 1, 1) := by decide +kernel
theorem d_Lw_search_82 : decode c_Lw_search 82 = .ok (.iadd, 1) := by decide +kernel
theorem d_Lw_search_83 : decode c_Lw_search 83 = .ok (.iastore, 1) := by decide +kernel
theorem d_Lw_search_84 : decode c_Lw_search 84 = .ok (.iinc 4 1, 3) := by decide +kernel
theorem d_Lw_search_87 : decode c_Lw_search 87 = .ok (.goto (-66), 3) := by decide +kernel
theorem d_Lw_search_90 : decode c_Lw_search 90 = .ok (.return_, 1) := by decide +kernel
theorem d_Lw_searchRows_0 : decode c_Lw_searchRows 0 = .ok (.iload_n 2, 1) := by decide +kernel
theorem d_Lw_searchRows_1 : decode c_Lw_searchRows 1 = .ok (.invokestatic 84, 3) := by decide +kernel
theorem d_Lw_searchRows_4 : decode c_Lw_searchRows 4 = .ok (.istore 4, 2) := by decide +kernel
theorem d_Lw_searchRows_6 : decode c_Lw_searchRows 6 = .ok (.aload_n 0, 1) := by decide +kernel
theorem d_Lw_searchRows_7 : decode c_Lw_searchRows 7 = .ok (.getfield 18, 3) := by decide +kernel
theorem d_Lw_searchRows_10 : decode c_Lw_searchRows 10 = .ok (.aload_n 0, 1) := by decide +kernel
theorem d_Lw_searchRows_11 : decode c_Lw_searchRows 11 = .ok (.getfield 24, 3) := by decide +kernel
theorem d_Lw_searchRows_14 : decode c_Lw_searchRows 14 = .ok (.iload_n 1, 1) := by decide +kernel
theorem d_Lw_searchRows_15 : decode c_Lw_searchRows 15 = .ok (.iaload, 1) := by decide +kernel
theorem d_Lw_searchRows_16 : decode c_Lw_searchRows 16 = .ok (.iaload, 1) := by decide +kernel
theorem d_Lw_searchRows_17 : decode c_Lw_searchRows 17 = .ok (.istore 5, 2) := by decide +kernel
theorem d_Lw_searchRows_19 : decode c_Lw_searchRows 19 = .ok (.iload_n 2, 1) := by decide +kernel
theorem d_Lw_searchRows_20 : decode c_Lw_searchRows 20 = .ok (.istore 6, 2) := by decide +kernel
theorem d_Lw_searchRows_22 : decode c_Lw_searchRows 22 = .ok (.iload 6, 2) := by decide +kernel
theorem d_Lw_searchRows_24 : decode c_Lw_searchRows 24 = .ok (.iload 4, 2) := by decide +kernel
theorem d_Lw_searchRows_26 : decode c_Lw_searchRows 26 = .ok (.if_icmp .lt 64, 3) := by decide +kernel
theorem d_Lw_searchRows_29 : decode c_Lw_searchRows 29 = .ok (.aload_n 0, 1) := by decide +kernel
theorem d_Lw_searchRows_30 : decode c_Lw_searchRows 30 = .ok (.getfield 11, 3) := by decide +kernel
theorem d_Lw_searchRows_33 : decode c_Lw_searchRows 33 = .ok (.iload 6, 2) := by decide +kernel
theorem d_Lw_searchRows_35 : decode c_Lw_searchRows 35 = .ok (.iaload, 1) := by decide +kernel
theorem d_Lw_searchRows_36 : decode c_Lw_searchRows 36 = .ok (.iload 5, 2) := by decide +kernel
theorem d_Lw_searchRows_38 : decode c_Lw_searchRows 38 = .ok (.if_icmp .gt 41, 3) := by decide +kernel
theorem d_Lw_searchRows_41 : decode c_Lw_searchRows 41 = .ok (.iload_n 3, 1) := by decide +kernel
theorem d_Lw_searchRows_42 : decode c_Lw_searchRows 42 = .ok (.aload_n 0, 1) := by decide +kernel
theorem d_Lw_searchRows_43 : decode c_Lw_searchRows 43 = .ok (.getfield 15, 3) := by decide +kernel
theorem d_Lw_searchRows_46 : decode c_Lw_searchRows 46 = .ok (.iload_n 2, 1) := by decide +kernel
theorem d_Lw_searchRows_47 : decode c_Lw_searchRows 47 = .ok (.iload 6, 2) := by decide +kernel
theorem d_Lw_searchRows_49 : decode c_Lw_searchRows 49 = .ok (.isub, 1) := by decide +kernel
theorem d_Lw_searchRows_50 : decode c_Lw_searchRows 50 = .ok (.iaload, 1) := by decide +kernel
theorem d_Lw_searchRows_51 : decode c_Lw_searchRows 51 = .ok (.iadd, 1) := by decide +kernel
theorem d_Lw_searchRows_52 : decode c_Lw_searchRows 52 = .ok (.aload_n 0, 1) := by decide +kernel
theorem d_Lw_searchRows_53 : decode c_Lw_searchRows 53 = .ok (.getfield 67, 3) := by decide +kernel
theorem d_Lw_searchRows_56 : decode c_Lw_searchRows 56 = .ok (.if_icmp .ge 23, 3) := by decide +kernel
theorem d_Lw_searchRows_59 : decode c_Lw_searchRows 59 = .ok (.aload_n 0, 1) := by decide +kernel
theorem d_Lw_searchRows_60 : decode c_Lw_searchRows 60 = .ok (.getfield 27, 3) := by decide +kernel
theorem d_Lw_searchRows_63 : decode c_Lw_searchRows 63 = .ok (.iload_n 1, 1) := by decide +kernel
theorem d_Lw_searchRows_64 : decode c_Lw_searchRows 64 = .ok (.iload 6, 2) := by decide +kernel
theorem d_Lw_searchRows_66 : decode c_Lw_searchRows 66 = .ok (.iastore, 1) := by decide +kernel
theorem d_Lw_searchRows_67 : decode c_Lw_searchRows 67 = .ok (.aload_n 0, 1) := by decide +kernel
theorem d_Lw_searchRows_68 : decode c_Lw_searchRows 68 = .ok (.iload_n 1, 1) := by decide +kernel
theorem d_Lw_searchRows_69 : decode c_Lw_searchRows 69 = .ok (.iconst 1, 1) := by decide +kernel
theorem d_Lw_searchRows_70 : decode c_Lw_searchRows 70 = .ok (.iadd, 1) := by decide +kernel
theorem d_Lw_searchRows_71 : decode c_Lw_searchRows 71 = .ok (.iload_n 2, 1) := by decide +kernel
theorem d_Lw_searchRows_72 : decode c_Lw_searchRows 72 = .ok (.iload 6, 2) := by decide +kernel
theorem d_Lw_searchRows_74 : decode c_Lw_searchRows 74 = .ok (.isub, 1) := by decide +kernel
theorem d_Lw_searchRows_75 : decode c_Lw_searchRows 75 = .ok (.iload_n 3, 1) := by decide +kernel
theorem d_Lw_searchRows_76 : decode c_Lw_searchRows 76 = .ok (.invokevirtual 73, 3) := by decide +kernel
theorem d_Lw_searchRows_79 : decode c_Lw_searchRows 79 = .ok (.iload 6, 2) := by decide +kernel
theorem d_Lw_searchRows_81 : decode c_Lw_searchRows 81 = .ok (.iconst 1, 1) := by decide +kernel
theorem d_Lw_searchRows_82 : decode c_Lw_searchRows 82 = .ok (.isub, 1) := by decide +kernel
theorem d_Lw_searchRows_83 : decode c_Lw_searchRows 83 = .ok (.iload_n 2, 1) := by decide +kernel
theorem d_Lw_searchRows_84 : decode c_Lw_searchRows 84 = .ok (.iand, 1) := by decide +kernel
theorem d_Lw_searchRows_85 : decode c_Lw_searchRows 85 = .ok (.istore 6, 2) := by decide +kernel
theorem d_Lw_searchRows_87 : decode c_Lw_searchRows 87 = .ok (.goto (-65), 3) := by decide +kernel
theorem d_Lw_searchRows_90 : decode c_Lw_searchRows 90 = .ok (.return_, 1) := by decide +kernel
theorem d_Lw_keep_0 : decode c_Lw_keep 0 = .ok (.aload_n 0, 1) := by decide +kernel
theorem d_Lw_keep_1 : decode c_Lw_keep 1 = .ok (.iload_n 2, 1) := by decide +kernel
theorem d_Lw_keep_2 : decode c_Lw_keep 2 = .ok (.putfield 67, 3) := by decide +kernel
theorem d_Lw_keep_5 : decode c_Lw_keep 5 = .ok (.aload_n 0, 1) := by decide +kernel
theorem d_Lw_keep_6 : decode c_Lw_keep 6 = .ok (.iload_n 1, 1) := by decide +kernel
theorem d_Lw_keep_7 : decode c_Lw_keep 7 = .ok (.putfield 70, 3) := by decide +kernel
theorem d_Lw_keep_10 : decode c_Lw_keep 10 = .ok (.iconst 0, 1) := by decide +kernel
theorem d_Lw_keep_11 : decode c_Lw_keep 11 = .ok (.istore_n 3, 1) := by decide +kernel
theorem d_Lw_keep_12 : decode c_Lw_keep 12 = .ok (.iload_n 3, 1) := by decide +kernel
theorem d_Lw_keep_13 : decode c_Lw_keep 13 = .ok (.iload_n 1, 1) := by decide +kernel
theorem d_Lw_keep_14 : decode c_Lw_keep 14 = .ok (.if_icmp .ge 33, 3) := by decide +kernel
theorem d_Lw_keep_17 : decode c_Lw_keep 17 = .ok (.aload_n 0, 1) := by decide +kernel
theorem d_Lw_keep_18 : decode c_Lw_keep 18 = .ok (.getfield 30, 3) := by decide +kernel
theorem d_Lw_keep_21 : decode c_Lw_keep 21 = .ok (.iload_n 3, 1) := by decide +kernel
theorem d_Lw_keep_22 : decode c_Lw_keep 22 = .ok (.aload_n 0, 1) := by decide +kernel
theorem d_Lw_keep_23 : decode c_Lw_keep 23 = .ok (.getfield 24, 3) := by decide +kernel
theorem d_Lw_keep_26 : decode c_Lw_keep 26 = .ok (.iload_n 3, 1) := by decide +kernel
theorem d_Lw_keep_27 : decode c_Lw_keep 27 = .ok (.iaload, 1) := by decide +kernel
theorem d_Lw_keep_28 : decode c_Lw_keep 28 = .ok (.iastore, 1) := by decide +kernel
theorem d_Lw_keep_29 : decode c_Lw_keep 29 = .ok (.aload_n 0, 1) := by decide +kernel
theorem d_Lw_keep_30 : decode c_Lw_keep 30 = .ok (.getfield 33, 3) := by decide +kernel
theorem d_Lw_keep_33 : decode c_Lw_keep 33 = .ok (.iload_n 3, 1) := by decide +kernel
theorem d_Lw_keep_34 : decode c_Lw_keep 34 = .ok (.aload_n 0, 1) := by decide +kernel
theorem d_Lw_keep_35 : decode c_Lw_keep 35 = .ok (.getfield 27, 3) := by decide +kernel
theorem d_Lw_keep_38 : decode c_Lw_keep 38 = .ok (.iload_n 3, 1) := by decide +kernel
theorem d_Lw_keep_39 : decode c_Lw_keep 39 = .ok (.iaload, 1) := by decide +kernel
theorem d_Lw_keep_40 : decode c_Lw_keep 40 = .ok (.iastore, 1) := by decide +kernel
theorem d_Lw_keep_41 : decode c_Lw_keep 41 = .ok (.iinc 3 1, 3) := by decide +kernel
theorem d_Lw_keep_44 : decode c_Lw_keep 44 = .ok (.goto (-32), 3) := by decide +kernel
theorem d_Lw_keep_47 : decode c_Lw_keep 47 = .ok (.return_, 1) := by decide +kernel
theorem d_Lw_writeBest_0 : decode c_Lw_writeBest 0 = .ok (.iconst 0, 1) := by decide +kernel
theorem d_Lw_writeBest_1 : decode c_Lw_writeBest 1 = .ok (.istore 4, 2) := by decide +kernel
theorem d_Lw_writeBest_3 : decode c_Lw_writeBest 3 = .ok (.iload 4, 2) := by decide +kernel
theorem d_Lw_writeBest_5 : decode c_Lw_writeBest 5 = .ok (.aload_n 0, 1) := by decide +kernel
theorem d_Lw_writeBest_6 : decode c_Lw_writeBest 6 = .ok (.getfield 70, 3) := by decide +kernel
theorem d_Lw_writeBest_9 : decode c_Lw_writeBest 9 = .ok (.if_icmp .ge 86, 3) := by decide +kernel
theorem d_Lw_writeBest_12 : decode c_Lw_writeBest 12 = .ok (.aload_n 1, 1) := by decide +kernel
theorem d_Lw_writeBest_13 : decode c_Lw_writeBest 13 = .ok (.iload_n 3, 1) := by decide +kernel
theorem d_Lw_writeBest_14 : decode c_Lw_writeBest 14 = .ok (.aload_n 0, 1) := by decide +kernel
theorem d_Lw_writeBest_15 : decode c_Lw_writeBest 15 = .ok (.getfield 18, 3) := by decide +kernel
theorem d_Lw_writeBest_18 : decode c_Lw_writeBest 18 = .ok (.aload_n 0, 1) := by decide +kernel
theorem d_Lw_writeBest_19 : decode c_Lw_writeBest 19 = .ok (.getfield 30, 3) := by decide +kernel
theorem d_Lw_writeBest_22 : decode c_Lw_writeBest 22 = .ok (.iload 4, 2) := by decide +kernel
theorem d_Lw_writeBest_24 : decode c_Lw_writeBest 24 = .ok (.iaload, 1) := by decide +kernel
theorem d_Lw_writeBest_25 : decode c_Lw_writeBest 25 = .ok (.iaload, 1) := by decide +kernel
theorem d_Lw_writeBest_26 : decode c_Lw_writeBest 26 = .ok (.invokevirtual 107, 3) := by decide +kernel
theorem d_Lw_writeBest_29 : decode c_Lw_writeBest 29 = .ok (.istore 5, 2) := by decide +kernel
theorem d_Lw_writeBest_31 : decode c_Lw_writeBest 31 = .ok (.iload 5, 2) := by decide +kernel
theorem d_Lw_writeBest_33 : decode c_Lw_writeBest 33 = .ok (.bipush (-2), 2) := by decide +kernel
theorem d_Lw_writeBest_35 : decode c_Lw_writeBest 35 = .ok (.if_icmp .ne 5, 3) := by decide +kernel
theorem d_Lw_writeBest_38 : decode c_Lw_writeBest 38 = .ok (.iconst 0, 1) := by decide +kernel
theorem d_Lw_writeBest_39 : decode c_Lw_writeBest 39 = .ok (.ireturn, 1) := by decide +kernel
theorem d_Lw_writeBest_40 : decode c_Lw_writeBest 40 = .ok (.iload_n 2, 1) := by decide +kernel
theorem d_Lw_writeBest_41 : decode c_Lw_writeBest 41 = .ok (.istore 6, 2) := by decide +kernel
theorem d_Lw_writeBest_43 : decode c_Lw_writeBest 43 = .ok (.iload 6, 2) := by decide +kernel
theorem d_Lw_writeBest_45 : decode c_Lw_writeBest 45 = .ok (.aload_n 1, 1) := by decide +kernel
theorem d_Lw_writeBest_46 : decode c_Lw_writeBest 46 = .ok (.getfield 36, 3) := by decide +kernel
theorem d_Lw_writeBest_49 : decode c_Lw_writeBest 49 = .ok (.if_icmp .ge 40, 3) := by decide +kernel
theorem d_Lw_writeBest_52 : decode c_Lw_writeBest 52 = .ok (.aload_n 0, 1) := by decide +kernel
theorem d_Lw_writeBest_53 : decode c_Lw_writeBest 53 = .ok (.getfield 33, 3) := by decide +kernel
theorem d_Lw_writeBest_56 : decode c_Lw_writeBest 56 = .ok (.iload 4, 2) := by decide +kernel
theorem d_Lw_writeBest_58 : decode c_Lw_writeBest 58 = .ok (.iaload, 1) := by decide +kernel
theorem d_Lw_writeBest_59 : decode c_Lw_writeBest 59 = .ok (.aload_n 1, 1) := by decide +kernel
theorem d_Lw_writeBest_60 : decode c_Lw_writeBest 60 = .ok (.getfield 36, 3) := by decide +kernel
theorem d_Lw_writeBest_63 : decode c_Lw_writeBest 63 = .ok (.iconst 1, 1) := by decide +kernel
theorem d_Lw_writeBest_64 : decode c_Lw_writeBest 64 = .ok (.isub, 1) := by decide +kernel
theorem d_Lw_writeBest_65 : decode c_Lw_writeBest 65 = .ok (.iload 6, 2) := by decide +kernel
theorem d_Lw_writeBest_67 : decode c_Lw_writeBest 67 = .ok (.isub, 1) := by decide +kernel
theorem d_Lw_writeBest_68 : decode c_Lw_writeBest 68 = .ok (.ishr, 1) := by decide +kernel
theorem d_Lw_writeBest_69 : decode c_Lw_writeBest 69 = .ok (.iconst 1, 1) := by decide +kernel
theorem d_Lw_writeBest_70 : decode c_Lw_writeBest 70 = .ok (.iand, 1) := by decide +kernel
theorem d_Lw_writeBest_71 : decode c_Lw_writeBest 71 = .ok (.iconst 1, 1) := by decide +kernel
theorem d_Lw_writeBest_72 : decode c_Lw_writeBest 72 = .ok (.if_icmp .ne 11, 3) := by decide +kernel
theorem d_Lw_writeBest_75 : decode c_Lw_writeBest 75 = .ok (.aload_n 1, 1) := by decide +kernel
theorem d_Lw_writeBest_76 : decode c_Lw_writeBest 76 = .ok (.iload 6, 2) := by decide +kernel
theorem d_Lw_writeBest_78 : decode c_Lw_writeBest 78 = .ok (.iload 5, 2) := by decide +kernel
theorem d_Lw_writeBest_80 : decode c_Lw_writeBest 80 = .ok (.invokevirtual 110, 3) := by decide +kernel
theorem d_Lw_writeBest_83 : decode c_Lw_writeBest 83 = .ok (.iinc 6 1, 3) := by decide +kernel
theorem d_Lw_writeBest_86 : decode c_Lw_writeBest 86 = .ok (.goto (-43), 3) := by decide +kernel
theorem d_Lw_writeBest_89 : decode c_Lw_writeBest 89 = .ok (.iinc 4 1, 3) := by decide +kernel
theorem d_Lw_writeBest_92 : decode c_Lw_writeBest 92 = .ok (.goto (-89), 3) := by decide +kernel
theorem d_Lw_writeBest_95 : decode c_Lw_writeBest 95 = .ok (.iconst 1, 1) := by decide +kernel
theorem d_Lw_writeBest_96 : decode c_Lw_writeBest 96 = .ok (.ireturn, 1) := by decide +kernel
theorem d_Lw_highestBit_0 : decode c_Lw_highestBit 0 = .ok (.sipush 128, 3) := by decide +kernel
theorem d_Lw_highestBit_3 : decode c_Lw_highestBit 3 = .ok (.istore_n 1, 1) := by decide +kernel
theorem d_Lw_highestBit_4 : decode c_Lw_highestBit 4 = .ok (.iload_n 1, 1) := by decide +kernel
theorem d_Lw_highestBit_5 : decode c_Lw_highestBit 5 = .ok (.iconst 1, 1) := by decide +kernel
theorem d_Lw_highestBit_6 : decode c_Lw_highestBit 6 = .ok (.if_icmp .le 18, 3) := by decide +kernel
theorem d_Lw_highestBit_9 : decode c_Lw_highestBit 9 = .ok (.iload_n 0, 1) := by decide +kernel
theorem d_Lw_highestBit_10 : decode c_Lw_highestBit 10 = .ok (.iload_n 1, 1) := by decide +kernel
theorem d_Lw_highestBit_11 : decode c_Lw_highestBit 11 = .ok (.iand, 1) := by decide +kernel
theorem d_Lw_highestBit_12 : decode c_Lw_highestBit 12 = .ok (.ifCond .eq 5, 3) := by decide +kernel
theorem d_Lw_highestBit_15 : decode c_Lw_highestBit 15 = .ok (.iload_n 1, 1) := by decide +kernel
theorem d_Lw_highestBit_16 : decode c_Lw_highestBit 16 = .ok (.ireturn, 1) := by decide +kernel
theorem d_Lw_highestBit_17 : decode c_Lw_highestBit 17 = .ok (.iload_n 1, 1) := by decide +kernel
theorem d_Lw_highestBit_18 : decode c_Lw_highestBit 18 = .ok (.iconst 2, 1) := by decide +kernel
theorem d_Lw_highestBit_19 : decode c_Lw_highestBit 19 = .ok (.idiv, 1) := by decide +kernel
theorem d_Lw_highestBit_20 : decode c_Lw_highestBit 20 = .ok (.istore_n 1, 1) := by decide +kernel
theorem d_Lw_highestBit_21 : decode c_Lw_highestBit 21 = .ok (.goto (-17), 3) := by decide +kernel
theorem d_Lw_highestBit_24 : decode c_Lw_highestBit 24 = .ok (.iconst 1, 1) := by decide +kernel
theorem d_Lw_highestBit_25 : decode c_Lw_highestBit 25 = .ok (.ireturn, 1) := by decide +kernel
theorem d_Ln_init_0 : decode c_Ln_init 0 = .ok (.aload_n 0, 1) := by decide +kernel
theorem d_Ln_init_1 : decode c_Ln_init 1 = .ok (.invokespecial 3, 3) := by decide +kernel
theorem d_Ln_init_4 : decode c_Ln_init 4 = .ok (.aload_n 0, 1) := by decide +kernel
theorem d_Ln_init_5 : decode c_Ln_init 5 = .ok (.bipush 6, 2) := by decide +kernel
theorem d_Ln_init_7 : decode c_Ln_init 7 = .ok (.newarray .int, 2) := by decide +kernel
theorem d_Ln_init_9 : decode c_Ln_init 9 = .ok (.putfield 9, 3) := by decide +kernel
theorem d_Ln_init_12 : decode c_Ln_init 12 = .ok (.aload_n 0, 1) := by decide +kernel
theorem d_Ln_init_13 : decode c_Ln_init 13 = .ok (.iload_n 1, 1) := by decide +kernel
theorem d_Ln_init_14 : decode c_Ln_init 14 = .ok (.putfield 15, 3) := by decide +kernel
theorem d_Ln_init_17 : decode c_Ln_init 17 = .ok (.aload_n 0, 1) := by decide +kernel
theorem d_Ln_init_18 : decode c_Ln_init 18 = .ok (.aload_n 2, 1) := by decide +kernel
theorem d_Ln_init_19 : decode c_Ln_init 19 = .ok (.putfield 19, 3) := by decide +kernel
theorem d_Ln_init_22 : decode c_Ln_init 22 = .ok (.aload_n 0, 1) := by decide +kernel
theorem d_Ln_init_23 : decode c_Ln_init 23 = .ok (.iload_n 3, 1) := by decide +kernel
theorem d_Ln_init_24 : decode c_Ln_init 24 = .ok (.putfield 23, 3) := by decide +kernel
theorem d_Ln_init_27 : decode c_Ln_init 27 = .ok (.aload_n 0, 1) := by decide +kernel
theorem d_Ln_init_28 : decode c_Ln_init 28 = .ok (.iload 4, 2) := by decide +kernel
theorem d_Ln_init_30 : decode c_Ln_init 30 = .ok (.putfield 26, 3) := by decide +kernel
theorem d_Ln_init_33 : decode c_Ln_init 33 = .ok (.return_, 1) := by decide +kernel
theorem d_Ln_sumOfLegs_0 : decode c_Ln_sumOfLegs 0 = .ok (.iconst 0, 1) := by decide +kernel
theorem d_Ln_sumOfLegs_1 : decode c_Ln_sumOfLegs 1 = .ok (.istore_n 1, 1) := by decide +kernel
theorem d_Ln_sumOfLegs_2 : decode c_Ln_sumOfLegs 2 = .ok (.iconst 0, 1) := by decide +kernel
theorem d_Ln_sumOfLegs_3 : decode c_Ln_sumOfLegs 3 = .ok (.istore_n 2, 1) := by decide +kernel
theorem d_Ln_sumOfLegs_4 : decode c_Ln_sumOfLegs 4 = .ok (.iload_n 2, 1) := by decide +kernel
theorem d_Ln_sumOfLegs_5 : decode c_Ln_sumOfLegs 5 = .ok (.aload_n 0, 1) := by decide +kernel
theorem d_Ln_sumOfLegs_6 : decode c_Ln_sumOfLegs 6 = .ok (.getfield 9, 3) := by decide +kernel
theorem d_Ln_sumOfLegs_9 : decode c_Ln_sumOfLegs 9 = .ok (.arraylength, 1) := by decide +kernel
theorem d_Ln_sumOfLegs_10 : decode c_Ln_sumOfLegs 10 = .ok (.if_icmp .ge 18, 3) := by decide +kernel
theorem d_Ln_sumOfLegs_13 : decode c_Ln_sumOfLegs 13 = .ok (.iload_n 1, 1) := by decide +kernel
theorem d_Ln_sumOfLegs_14 : decode c_Ln_sumOfLegs 14 = .ok (.aload_n 0, 1) := by decide +kernel
theorem d_Ln_sumOfLegs_15 : decode c_Ln_sumOfLegs 15 = .ok (.getfield 9, 3) := by decide +kernel
theorem d_Ln_sumOfLegs_18 : decode c_Ln_sumOfLegs 18 = .ok (.iload_n 2, 1) := by decide +kernel
theorem d_Ln_sumOfLegs_19 : decode c_Ln_sumOfLegs 19 = .ok (.iaload, 1) := by decide +kernel
theorem d_Ln_sumOfLegs_20 : decode c_Ln_sumOfLegs 20 = .ok (.iadd, 1) := by decide +kernel
theorem d_Ln_sumOfLegs_21 : decode c_Ln_sumOfLegs 21 = .ok (.istore_n 1, 1) := by decide +kernel
theorem d_Ln_sumOfLegs_22 : decode c_Ln_sumOfLegs 22 = .ok (.iinc 2 1, 3) := by decide +kernel
theorem d_Ln_sumOfLegs_25 : decode c_Ln_sumOfLegs 25 = .ok (.goto (-21), 3) := by decide +kernel
theorem d_Ln_sumOfLegs_28 : decode c_Ln_sumOfLegs 28 = .ok (.iload_n 1, 1) := by decide +kernel
theorem d_Ln_sumOfLegs_29 : decode c_Ln_sumOfLegs 29 = .ok (.ireturn, 1) := by decide +kernel
theorem d_Ln_allLegsTold_0 : decode c_Ln_allLegsTold 0 = .ok (.iconst 0, 1) := by decide +kernel
theorem d_Ln_allLegsTold_1 : decode c_Ln_allLegsTold 1 = .ok (.istore_n 1, 1) := by decide +kernel
theorem d_Ln_allLegsTold_2 : decode c_Ln_allLegsTold 2 = .ok (.iload_n 1, 1) := by decide +kernel
theorem d_Ln_allLegsTold_3 : decode c_Ln_allLegsTold 3 = .ok (.aload_n 0, 1) := by decide +kernel
theorem d_Ln_allLegsTold_4 : decode c_Ln_allLegsTold 4 = .ok (.getfield 19, 3) := by decide +kernel
theorem d_Ln_allLegsTold_7 : decode c_Ln_allLegsTold 7 = .ok (.getfield 29, 3) := by decide +kernel
theorem d_Ln_allLegsTold_10 : decode c_Ln_allLegsTold 10 = .ok (.if_icmp .ge 20, 3) := by decide +kernel
theorem d_Ln_allLegsTold_13 : decode c_Ln_allLegsTold 13 = .ok (.aload_n 0, 1) := by decide +kernel
theorem d_Ln_allLegsTold_14 : decode c_Ln_allLegsTold 14 = .ok (.getfield 9, 3) := by decide +kernel
theorem d_Ln_allLegsTold_17 : decode c_Ln_allLegsTold 17 = .ok (.iload_n 1, 1) := by decide +kernel
theorem d_Ln_allLegsTold_18 : decode c_Ln_allLegsTold 18 = .ok (.iaload, 1) := by decide +kernel
theorem d_Ln_allLegsTold_19 : decode c_Ln_allLegsTold 19 = .ok (.ifCond .ne 5, 3) := by decide +kernel
theorem d_Ln_allLegsTold_22 : decode c_Ln_allLegsTold 22 = .ok (.iconst 0, 1) := by decide +kernel
theorem d_Ln_allLegsTold_23 : decode c_Ln_allLegsTold 23 = .ok (.ireturn, 1) := by decide +kernel
theorem d_Ln_allLegsTold_24 : decode c_Ln_allLegsTold 24 = .ok (.iinc 1 1, 3) := by decide +kernel
theorem d_Ln_allLegsTold_27 : decode c_Ln_allLegsTold 27 = .ok (.goto (-25), 3) := by decide +kernel
theorem d_Ln_allLegsTold_30 : decode c_Ln_allLegsTold 30 = .ok (.iconst 1, 1) := by decide +kernel
theorem d_Ln_allLegsTold_31 : decode c_Ln_allLegsTold 31 = .ok (.ireturn, 1) := by decide +kernel
theorem d_Ln_thing_0 : decode c_Ln_thing 0 = .ok (.iload_n 1, 1) := by decide +kernel
theorem d_Ln_thing_1 : decode c_Ln_thing 1 = .ok (.tableswitch 42 0 2 #[27, 32, 37], 27) := by decide +kernel
theorem d_Ln_thing_28 : decode c_Ln_thing 28 = .ok (.aload_n 0, 1) := by decide +kernel
theorem d_Ln_thing_29 : decode c_Ln_thing 29 = .ok (.getfield 15, 3) := by decide +kernel
theorem d_Ln_thing_32 : decode c_Ln_thing 32 = .ok (.ireturn, 1) := by decide +kernel
theorem d_Ln_thing_33 : decode c_Ln_thing 33 = .ok (.aload_n 0, 1) := by decide +kernel
theorem d_Ln_thing_34 : decode c_Ln_thing 34 = .ok (.getfield 23, 3) := by decide +kernel
theorem d_Ln_thing_37 : decode c_Ln_thing 37 = .ok (.ireturn, 1) := by decide +kernel
theorem d_Ln_thing_38 : decode c_Ln_thing 38 = .ok (.aload_n 0, 1) := by decide +kernel
theorem d_Ln_thing_39 : decode c_Ln_thing 39 = .ok (.getfield 26, 3) := by decide +kernel
theorem d_Ln_thing_42 : decode c_Ln_thing 42 = .ok (.ireturn, 1) := by decide +kernel
theorem d_Ln_thing_43 : decode c_Ln_thing 43 = .ok (.iload_n 1, 1) := by decide +kernel
theorem d_Ln_thing_44 : decode c_Ln_thing 44 = .ok (.iconst 3, 1) := by decide +kernel
theorem d_Ln_thing_45 : decode c_Ln_thing 45 = .ok (.isub, 1) := by decide +kernel
theorem d_Ln_thing_46 : decode c_Ln_thing 46 = .ok (.istore_n 2, 1) := by decide +kernel
theorem d_Ln_thing_47 : decode c_Ln_thing 47 = .ok (.iload_n 2, 1) := by decide +kernel
theorem d_Ln_thing_48 : decode c_Ln_thing 48 = .ok (.ifCond .lt 21, 3) := by decide +kernel
theorem d_Ln_thing_51 : decode c_Ln_thing 51 = .ok (.iload_n 2, 1) := by decide +kernel
theorem d_Ln_thing_52 : decode c_Ln_thing 52 = .ok (.aload_n 0, 1) := by decide +kernel
theorem d_Ln_thing_53 : decode c_Ln_thing 53 = .ok (.getfield 9, 3) := by decide +kernel
theorem d_Ln_thing_56 : decode c_Ln_thing 56 = .ok (.arraylength, 1) := by decide +kernel
theorem d_Ln_thing_57 : decode c_Ln_thing 57 = .ok (.if_icmp .ge 12, 3) := by decide +kernel
theorem d_Ln_thing_60 : decode c_Ln_thing 60 = .ok (.aload_n 0, 1) := by decide +kernel
theorem d_Ln_thing_61 : decode c_Ln_thing 61 = .ok (.getfield 9, 3) := by decide +kernel
theorem d_Ln_thing_64 : decode c_Ln_thing 64 = .ok (.iload_n 2, 1) := by decide +kernel
theorem d_Ln_thing_65 : decode c_Ln_thing 65 = .ok (.iaload, 1) := by decide +kernel
theorem d_Ln_thing_66 : decode c_Ln_thing 66 = .ok (.goto 4, 3) := by decide +kernel
theorem d_Ln_thing_69 : decode c_Ln_thing 69 = .ok (.iconst 0, 1) := by decide +kernel
theorem d_Ln_thing_70 : decode c_Ln_thing 70 = .ok (.ireturn, 1) := by decide +kernel
theorem d_Ln_signOfTag_0 : decode c_Ln_signOfTag 0 = .ok (.aload_n 0, 1) := by decide +kernel
theorem d_Ln_signOfTag_1 : decode c_Ln_signOfTag 1 = .ok (.getfield 23, 3) := by decide +kernel
theorem d_Ln_signOfTag_4 : decode c_Ln_signOfTag 4 = .ok (.bipush 10, 2) := by decide +kernel
theorem d_Ln_signOfTag_6 : decode c_Ln_signOfTag 6 = .ok (.idiv, 1) := by decide +kernel
theorem d_Ln_signOfTag_7 : decode c_Ln_signOfTag 7 = .ok (.istore_n 2, 1) := by decide +kernel
theorem d_Ln_signOfTag_8 : decode c_Ln_signOfTag 8 = .ok (.iload_n 2, 1) := by decide +kernel
theorem d_Ln_signOfTag_9 : decode c_Ln_signOfTag 9 = .ok (.ifCond .le 7, 3) := by decide +kernel
theorem d_Ln_signOfTag_12 : decode c_Ln_signOfTag 12 = .ok (.iconst 3, 1) := by decide +kernel
theorem d_Ln_signOfTag_13 : decode c_Ln_signOfTag 13 = .ok (.goto 4, 3) := by decide +kernel
theorem d_Ln_signOfTag_16 : decode c_Ln_signOfTag 16 = .ok (.iconst 2, 1) := by decide +kernel
theorem d_Ln_signOfTag_17 : decode c_Ln_signOfTag 17 = .ok (.istore_n 3, 1) := by decide +kernel
theorem d_Ln_signOfTag_18 : decode c_Ln_signOfTag 18 = .ok (.iload_n 1, 1) := by decide +kernel
theorem d_Ln_signOfTag_19 : decode c_Ln_signOfTag 19 = .ok (.ifCond .gt 19, 3) := by decide +kernel
theorem d_Ln_signOfTag_22 : decode c_Ln_signOfTag 22 = .ok (.iload_n 1, 1) := by decide +kernel
theorem d_Ln_signOfTag_23 : decode c_Ln_signOfTag 23 = .ok (.ifCond .ge 7, 3) := by decide +kernel
theorem d_Ln_signOfTag_26 : decode c_Ln_signOfTag 26 = .ok (.iconst (-1), 1) := by decide +kernel
theorem d_Ln_signOfTag_27 : decode c_Ln_signOfTag 27 = .ok (.goto 10, 3) := by decide +kernel
theorem d_Ln_signOfTag_30 : decode c_Ln_signOfTag 30 = .ok (.bipush 48, 2) := by decide +kernel
theorem d_Ln_signOfTag_32 : decode c_Ln_signOfTag 32 = .ok (.aload_n 0, 1) := by decide +kernel
theorem d_Ln_signOfTag_33 : decode c_Ln_signOfTag 33 = .ok (.getfield 26, 3) := by decide +kernel
theorem d_Ln_signOfTag_36 : decode c_Ln_signOfTag 36 = .ok (.iadd, 1) := by decide +kernel
theorem d_Ln_signOfTag_37 : decode c_Ln_signOfTag 37 = .ok (.ireturn, 1) := by decide +kernel
theorem d_Ln_signOfTag_38 : decode c_Ln_signOfTag 38 = .ok (.iload_n 1, 1) := by decide +kernel
theorem d_Ln_signOfTag_39 : decode c_Ln_signOfTag 39 = .ok (.iconst 1, 1) := by decide +kernel
theorem d_Ln_signOfTag_40 : decode c_Ln_signOfTag 40 = .ok (.if_icmp .ne 6, 3) := by decide +kernel
theorem d_Ln_signOfTag_43 : decode c_Ln_signOfTag 43 = .ok (.bipush 120, 2) := by decide +kernel
theorem d_Ln_signOfTag_45 : decode c_Ln_signOfTag 45 = .ok (.ireturn, 1) := by decide +kernel
theorem d_Ln_signOfTag_46 : decode c_Ln_signOfTag 46 = .ok (.iload_n 1, 1) := by decide +kernel
theorem d_Ln_signOfTag_47 : decode c_Ln_signOfTag 47 = .ok (.iload_n 3, 1) := by decide +kernel
theorem d_Ln_signOfTag_48 : decode c_Ln_signOfTag 48 = .ok (.if_icmp .ge 8, 3) := by decide +kernel
theorem d_Ln_signOfTag_51 : decode c_Ln_signOfTag 51 = .ok (.bipush 48, 2) := by decide +kernel
theorem d_Ln_signOfTag_53 : decode c_Ln_signOfTag 53 = .ok (.iload_n 2, 1) := by decide +kernel
theorem d_Ln_signOfTag_54 : decode c_Ln_signOfTag 54 = .ok (.iadd, 1) := by decide +kernel
theorem d_Ln_signOfTag_55 : decode c_Ln_signOfTag 55 = .ok (.ireturn, 1) := by decide +kernel
theorem d_Ln_signOfTag_56 : decode c_Ln_signOfTag 56 = .ok (.iload_n 1, 1) := by decide +kernel
theorem d_Ln_signOfTag_57 : decode c_Ln_signOfTag 57 = .ok (.iload_n 3, 1) := by decide +kernel
theorem d_Ln_signOfTag_58 : decode c_Ln_signOfTag 58 = .ok (.if_icmp .ne 14, 3) := by decide +kernel
theorem d_Ln_signOfTag_61 : decode c_Ln_signOfTag 61 = .ok (.bipush 48, 2) := by decide +kernel
theorem d_Ln_signOfTag_63 : decode c_Ln_signOfTag 63 = .ok (.aload_n 0, 1) := by decide +kernel
theorem d_Ln_signOfTag_64 : decode c_Ln_signOfTag 64 = .ok (.getfield 23, 3) := by decide +kernel
theorem d_Ln_signOfTag_67 : decode c_Ln_signOfTag 67 = .ok (.bipush 10, 2) := by decide +kernel
theorem d_Ln_signOfTag_69 : decode c_Ln_signOfTag 69 = .ok (.irem, 1) := by decide +kernel
theorem d_Ln_signOfTag_70 : decode c_Ln_signOfTag 70 = .ok (.iadd, 1) := by decide +kernel
theorem d_Ln_signOfTag_71 : decode c_Ln_signOfTag 71 = .ok (.ireturn, 1) := by decide +kernel
theorem d_Ln_signOfTag_72 : decode c_Ln_signOfTag 72 = .ok (.iload_n 1, 1) := by decide +kernel
theorem d_Ln_signOfTag_73 : decode c_Ln_signOfTag 73 = .ok (.iload_n 3, 1) := by decide +kernel
theorem d_Ln_signOfTag_74 : decode c_Ln_signOfTag 74 = .ok (.iconst 1, 1) := by decide +kernel
theorem d_Ln_signOfTag_75 : decode c_Ln_signOfTag 75 = .ok (.iadd, 1) := by decide +kernel
theorem d_Ln_signOfTag_76 : decode c_Ln_signOfTag 76 = .ok (.if_icmp .ne 6, 3) := by decide +kernel
theorem d_Ln_signOfTag_79 : decode c_Ln_signOfTag 79 = .ok (.bipush 58, 2) := by decide +kernel
theorem d_Ln_signOfTag_81 : decode c_Ln_signOfTag 81 = .ok (.ireturn, 1) := by decide +kernel
theorem d_Ln_signOfTag_82 : decode c_Ln_signOfTag 82 = .ok (.iload_n 1, 1) := by decide +kernel
theorem d_Ln_signOfTag_83 : decode c_Ln_signOfTag 83 = .ok (.iload_n 3, 1) := by decide +kernel
theorem d_Ln_signOfTag_84 : decode c_Ln_signOfTag 84 = .ok (.isub, 1) := by decide +kernel
theorem d_Ln_signOfTag_85 : decode c_Ln_signOfTag 85 = .ok (.iconst 2, 1) := by decide +kernel
theorem d_Ln_signOfTag_86 : decode c_Ln_signOfTag 86 = .ok (.isub, 1) := by decide +kernel
theorem d_Ln_signOfTag_87 : decode c_Ln_signOfTag 87 = .ok (.istore 4, 2) := by decide +kernel
theorem d_Ln_signOfTag_89 : decode c_Ln_signOfTag 89 = .ok (.iload 4, 2) := by decide +kernel
theorem d_Ln_signOfTag_91 : decode c_Ln_signOfTag 91 = .ok (.aload_n 0, 1) := by decide +kernel
theorem d_Ln_signOfTag_92 : decode c_Ln_signOfTag 92 = .ok (.getfield 19, 3) := by decide +kernel
theorem d_Ln_signOfTag_95 : decode c_Ln_signOfTag 95 = .ok (.getfield 33, 3) := by decide +kernel
theorem d_Ln_signOfTag_98 : decode c_Ln_signOfTag 98 = .ok (.arraylength, 1) := by decide +kernel
theorem d_Ln_signOfTag_99 : decode c_Ln_signOfTag 99 = .ok (.if_icmp .ge 16, 3) := by decide +kernel
theorem d_Ln_signOfTag_102 : decode c_Ln_signOfTag 102 = .ok (.aload_n 0, 1) := by decide +kernel
theorem d_Ln_signOfTag_103 : decode c_Ln_signOfTag 103 = .ok (.getfield 19, 3) := by decide +kernel
theorem d_Ln_signOfTag_106 : decode c_Ln_signOfTag 106 = .ok (.getfield 33, 3) := by decide +kernel
theorem d_Ln_signOfTag_109 : decode c_Ln_signOfTag 109 = .ok (.iload 4, 2) := by decide +kernel
theorem d_Ln_signOfTag_111 : decode c_Ln_signOfTag 111 = .ok (.caload, 1) := by decide +kernel
theorem d_Ln_signOfTag_112 : decode c_Ln_signOfTag 112 = .ok (.goto 4, 3) := by decide +kernel
theorem d_Ln_signOfTag_115 : decode c_Ln_signOfTag 115 = .ok (.iconst (-1), 1) := by decide +kernel
theorem d_Ln_signOfTag_116 : decode c_Ln_signOfTag 116 = .ok (.ireturn, 1) := by decide +kernel
theorem d_Pl_init_0 : decode c_Pl_init 0 = .ok (.aload_n 0, 1) := by decide +kernel
theorem d_Pl_init_1 : decode c_Pl_init 1 = .ok (.invokespecial 3, 3) := by decide +kernel
theorem d_Pl_init_4 : decode c_Pl_init 4 = .ok (.aload_n 0, 1) := by decide +kernel
theorem d_Pl_init_5 : decode c_Pl_init 5 = .ok (.bipush 60, 2) := by decide +kernel
theorem d_Pl_init_7 : decode c_Pl_init 7 = .ok (.newarray .int, 2) := by decide +kernel
theorem d_Pl_init_9 : decode c_Pl_init 9 = .ok (.putfield 9, 3) := by decide +kernel
theorem d_Pl_init_12 : decode c_Pl_init 12 = .ok (.aload_n 0, 1) := by decide +kernel
theorem d_Pl_init_13 : decode c_Pl_init 13 = .ok (.bipush 60, 2) := by decide +kernel
theorem d_Pl_init_15 : decode c_Pl_init 15 = .ok (.newarray .int, 2) := by decide +kernel
theorem d_Pl_init_17 : decode c_Pl_init 17 = .ok (.putfield 15, 3) := by decide +kernel
theorem d_Pl_init_20 : decode c_Pl_init 20 = .ok (.aload_n 0, 1) := by decide +kernel
theorem d_Pl_init_21 : decode c_Pl_init 21 = .ok (.bipush 60, 2) := by decide +kernel
theorem d_Pl_init_23 : decode c_Pl_init 23 = .ok (.newarray .int, 2) := by decide +kernel
theorem d_Pl_init_25 : decode c_Pl_init 25 = .ok (.putfield 18, 3) := by decide +kernel
theorem d_Pl_init_28 : decode c_Pl_init 28 = .ok (.aload_n 0, 1) := by decide +kernel
theorem d_Pl_init_29 : decode c_Pl_init 29 = .ok (.bipush 60, 2) := by decide +kernel
theorem d_Pl_init_31 : decode c_Pl_init 31 = .ok (.newarray .int, 2) := by decide +kernel
theorem d_Pl_init_33 : decode c_Pl_init 33 = .ok (.putfield 21, 3) := by decide +kernel
theorem d_Pl_init_36 : decode c_Pl_init 36 = .ok (.aload_n 0, 1) := by decide +kernel
theorem d_Pl_init_37 : decode c_Pl_init 37 = .ok (.bipush 60, 2) := by decide +kernel
theorem d_Pl_init_39 : decode c_Pl_init 39 = .ok (.newarray .int, 2) := by decide +kernel
theorem d_Pl_init_41 : decode c_Pl_init 41 = .ok (.putfield 24, 3) := by decide +kernel
theorem d_Pl_init_44 : decode c_Pl_init 44 = .ok (.aload_n 0, 1) := by decide +kernel
theorem d_Pl_init_45 : decode c_Pl_init 45 = .ok (.bipush 60, 2) := by decide +kernel
theorem d_Pl_init_47 : decode c_Pl_init 47 = .ok (.newarray .int, 2) := by decide +kernel
theorem d_Pl_init_49 : decode c_Pl_init 49 = .ok (.putfield 27, 3) := by decide +kernel
theorem d_Pl_init_52 : decode c_Pl_init 52 = .ok (.aload_n 0, 1) := by decide +kernel
theorem d_Pl_init_53 : decode c_Pl_init 53 = .ok (.bipush 60, 2) := by decide +kernel
theorem d_Pl_init_55 : decode c_Pl_init 55 = .ok (.newarray .int, 2) := by decide +kernel
theorem d_Pl_init_57 : decode c_Pl_init 57 = .ok (.putfield 30, 3) := by decide +kernel
theorem d_Pl_init_60 : decode c_Pl_init 60 = .ok (.return_, 1) := by decide +kernel
theorem d_Pl_clear_0 : decode c_Pl_clear 0 = .ok (.aload_n 0, 1) := by decide +kernel
theorem d_Pl_clear_1 : decode c_Pl_clear 1 = .ok (.iconst 0, 1) := by decide +kernel
theorem d_Pl_clear_2 : decode c_Pl_clear 2 = .ok (.putfield 33, 3) := by decide +kernel
theorem d_Pl_clear_5 : decode c_Pl_clear 5 = .ok (.aload_n 0, 1) := by decide +kernel
theorem d_Pl_clear_6 : decode c_Pl_clear 6 = .ok (.iconst 0, 1) := by decide +kernel
theorem d_Pl_clear_7 : decode c_Pl_clear 7 = .ok (.putfield 37, 3) := by decide +kernel
theorem d_Pl_clear_10 : decode c_Pl_clear 10 = .ok (.aload_n 0, 1) := by decide +kernel
theorem d_Pl_clear_11 : decode c_Pl_clear 11 = .ok (.iconst 0, 1) := by decide +kernel
theorem d_Pl_clear_12 : decode c_Pl_clear 12 = .ok (.putfield 40, 3) := by decide +kernel
theorem d_Pl_clear_15 : decode c_Pl_clear 15 = .ok (.aload_n 0, 1) := by decide +kernel
theorem d_Pl_clear_16 : decode c_Pl_clear 16 = .ok (.iconst 0, 1) := by decide +kernel
theorem d_Pl_clear_17 : decode c_Pl_clear 17 = .ok (.putfield 43, 3) := by decide +kernel
theorem d_Pl_clear_20 : decode c_Pl_clear 20 = .ok (.aload_n 0, 1) := by decide +kernel
theorem d_Pl_clear_21 : decode c_Pl_clear 21 = .ok (.iconst 0, 1) := by decide +kernel
theorem d_Pl_clear_22 : decode c_Pl_clear 22 = .ok (.putfield 46, 3) := by decide +kernel
theorem d_Pl_clear_25 : decode c_Pl_clear 25 = .ok (.return_, 1) := by decide +kernel
theorem d_Pl_addPiece_0 : decode c_Pl_addPiece 0 = .ok (.aload_n 0, 1) := by decide +kernel
theorem d_Pl_addPiece_1 : decode c_Pl_addPiece 1 = .ok (.getfield 33, 3) := by decide +kernel
theorem d_Pl_addPiece_4 : decode c_Pl_addPiece 4 = .ok (.bipush 60, 2) := by decide +kernel
theorem d_Pl_addPiece_6 : decode c_Pl_addPiece 6 = .ok (.if_icmp .lt 4, 3) := by decide +kernel
theorem d_Pl_addPiece_9 : decode c_Pl_addPiece 9 = .ok (.return_, 1) := by decide +kernel
theorem d_Pl_addPiece_10 : decode c_Pl_addPiece 10 = .ok (.aload_n 0, 1) := by decide +kernel
theorem d_Pl_addPiece_11 : decode c_Pl_addPiece 11 = .ok (.getfield 33, 3) := by decide +kernel
theorem d_Pl_addPiece_14 : decode c_Pl_addPiece 14 = .ok (.istore 4, 2) := by decide +kernel
theorem d_Pl_addPiece_16 : decode c_Pl_addPiece 16 = .ok (.iload 4, 2) := by decide +kernel
theorem d_Pl_addPiece_18 : decode c_Pl_addPiece 18 = .ok (.iload_n 1, 1) := by decide +kernel
theorem d_Pl_addPiece_19 : decode c_Pl_addPiece 19 = .ok (.if_icmp .le 54, 3) := by decide +kernel
theorem d_Pl_addPiece_22 : decode c_Pl_addPiece 22 = .ok (.aload_n 0, 1) := by decide +kernel
theorem d_Pl_addPiece_23 : decode c_Pl_addPiece 23 = .ok (.getfield 15, 3) := by decide +kernel
theorem d_Pl_addPiece_26 : decode c_Pl_addPiece 26 = .ok (.iload 4, 2) := by decide +kernel
theorem d_Pl_addPiece_28 : decode c_Pl_addPiece 28 = .ok (.iconst 1, 1) := by decide +kernel
theorem d_Pl_addPiece_29 : decode c_Pl_addPiece 29 = .ok (.isub, 1) := by decide +kernel
theorem d_Pl_addPiece_30 : decode c_Pl_addPiece 30 = .ok (.iaload, 1) := by decide +kernel
theorem d_Pl_addPiece_31 : decode c_Pl_addPiece 31 = .ok (.iload_n 3, 1) := by decide +kernel
theorem d_Pl_addPiece_32 : decode c_Pl_addPiece 32 = .ok (.if_icmp .ge 41, 3) := by decide +kernel
theorem d_Pl_addPiece_35 : decode c_Pl_addPiece 35 = .ok (.aload_n 0, 1) := by decide +kernel
theorem d_Pl_addPiece_36 : decode c_Pl_addPiece 36 = .ok (.getfield 9, 3) := by decide +kernel
theorem d_Pl_addPiece_39 : decode c_Pl_addPiece 39 = .ok (.iload 4, 2) := by decide +kernel
theorem d_Pl_addPiece_41 : decode c_Pl_addPiece 41 = .ok (.aload_n 0, 1) := by decide +kernel
theorem d_Pl_addPiece_42 : decode c_Pl_addPiece 42 = .ok (.getfield 9, 3) := by decide +kernel
theorem d_Pl_addPiece_45 : decode c_Pl_addPiece 45 = .ok (.iload 4, 2) := by decide +kernel
theorem d_Pl_addPiece_47 : decode c_Pl_addPiece 47 = .ok (.iconst 1, 1) := by decide +kernel
theorem d_Pl_addPiece_48 : decode c_Pl_addPiece 48 = .ok (.isub, 1) := by decide +kernel
theorem d_Pl_addPiece_49 : decode c_Pl_addPiece 49 = .ok (.iaload, 1) := by decide +kernel
theorem d_Pl_addPiece_50 : decode c_Pl_addPiece 50 = .ok (.iastore, 1) := by decide +kernel
theorem d_Pl_addPiece_51 : decode c_Pl_addPiece 51 = .ok (.aload_n 0, 1) := by decide +kernel
theorem d_Pl_addPiece_52 : decode c_Pl_addPiece 52 = .ok (.getfield 15, 3) := by decide +kernel
theorem d_Pl_addPiece_55 : decode c_Pl_addPiece 55 = .ok (.iload 4, 2) := by decide +kernel
theorem d_Pl_addPiece_57 : decode c_Pl_addPiece 57 = .ok (.aload_n 0, 1) := by decide +kernel
theorem d_Pl_addPiece_58 : decode c_Pl_addPiece 58 = .ok (.getfield 15, 3) := by decide +kernel
theorem d_Pl_addPiece_61 : decode c_Pl_addPiece 61 = .ok (.iload 4, 2) := by decide +kernel
theorem d_Pl_addPiece_63 : decode c_Pl_addPiece 63 = .ok (.iconst 1, 1) := by decide +kernel
theorem d_Pl_addPiece_64 : decode c_Pl_addPiece 64 = .ok (.isub, 1) := by decide +kernel
theorem d_Pl_addPiece_65 : decode c_Pl_addPiece 65 = .ok (.iaload, 1) := by decide +kernel
theorem d_Pl_addPiece_66 : decode c_Pl_addPiece 66 = .ok (.iastore, 1) := by decide +kernel
theorem d_Pl_addPiece_67 : decode c_Pl_addPiece 67 = .ok (.iinc 4 (-1), 3) := by decide +kernel
theorem d_Pl_addPiece_70 : decode c_Pl_addPiece 70 = .ok (.goto (-54), 3) := by decide +kernel
theorem d_Pl_addPiece_73 : decode c_Pl_addPiece 73 = .ok (.aload_n 0, 1) := by decide +kernel
theorem d_Pl_addPiece_74 : decode c_Pl_addPiece 74 = .ok (.getfield 9, 3) := by decide +kernel
theorem d_Pl_addPiece_77 : decode c_Pl_addPiece 77 = .ok (.iload 4, 2) := by decide +kernel
theorem d_Pl_addPiece_79 : decode c_Pl_addPiece 79 = .ok (.iload_n 2, 1) := by decide +kernel
theorem d_Pl_addPiece_80 : decode c_Pl_addPiece 80 = .ok (.iastore, 1) := by decide +kernel
theorem d_Pl_addPiece_81 : decode c_Pl_addPiece 81 = .ok (.aload_n 0, 1) := by decide +kernel
theorem d_Pl_addPiece_82 : decode c_Pl_addPiece 82 = .ok (.getfield 15, 3) := by decide +kernel
theorem d_Pl_addPiece_85 : decode c_Pl_addPiece 85 = .ok (.iload 4, 2) := by decide +kernel
theorem d_Pl_addPiece_87 : decode c_Pl_addPiece 87 = .ok (.iload_n 3, 1) := by decide +kernel
theorem d_Pl_addPiece_88 : decode c_Pl_addPiece 88 = .ok (.iastore, 1) := by decide +kernel
theorem d_Pl_addPiece_89 : decode c_Pl_addPiece 89 = .ok (.aload_n 0, 1) := by decide +kernel
theorem d_Pl_addPiece_90 : decode c_Pl_addPiece 90 = .ok (.dup, 1) := by decide +kernel
theorem d_Pl_addPiece_91 : decode c_Pl_addPiece 91 = .ok (.getfield 33, 3) := by decide +kernel
theorem d_Pl_addPiece_94 : decode c_Pl_addPiece 94 = .ok (.iconst 1, 1) := by decide +kernel
theorem d_Pl_addPiece_95 : decode c_Pl_addPiece 95 = .ok (.iadd, 1) := by decide +kernel
theorem d_Pl_addPiece_96 : decode c_Pl_addPiece 96 = .ok (.putfield 33, 3) := by decide +kernel
theorem d_Pl_addPiece_99 : decode c_Pl_addPiece 99 = .ok (.return_, 1) := by decide +kernel
theorem d_Pl_openBar_0 : decode c_Pl_openBar 0 = .ok (.aload_n 0, 1) := by decide +kernel
theorem d_Pl_openBar_1 : decode c_Pl_openBar 1 = .ok (.getfield 37, 3) := by decide +kernel
theorem d_Pl_openBar_4 : decode c_Pl_openBar 4 = .ok (.bipush 60, 2) := by decide +kernel
theorem d_Pl_openBar_6 : decode c_Pl_openBar 6 = .ok (.if_icmp .lt 6, 3) := by decide +kernel
theorem d_Pl_openBar_9 : decode c_Pl_openBar 9 = .ok (.bipush (-2), 2) := by decide +kernel
theorem d_Pl_openBar_11 : decode c_Pl_openBar 11 = .ok (.ireturn, 1) := by decide +kernel
theorem d_Pl_openBar_12 : decode c_Pl_openBar 12 = .ok (.aload_n 0, 1) := by decide +kernel
theorem d_Pl_openBar_13 : decode c_Pl_openBar 13 = .ok (.getfield 21, 3) := by decide +kernel
theorem d_Pl_openBar_16 : decode c_Pl_openBar 16 = .ok (.aload_n 0, 1) := by decide +kernel
theorem d_Pl_openBar_17 : decode c_Pl_openBar 17 = .ok (.getfield 37, 3) := by decide +kernel
theorem d_Pl_openBar_20 : decode c_Pl_openBar 20 = .ok (.iload_n 1, 1) := by decide +kernel
theorem d_Pl_openBar_21 : decode c_Pl_openBar 21 = .ok (.iastore, 1) := by decide +kernel
theorem d_Pl_openBar_22 : decode c_Pl_openBar 22 = .ok (.aload_n 0, 1) := by decide +kernel
theorem d_Pl_openBar_23 : decode c_Pl_openBar 23 = .ok (.getfield 24, 3) := by decide +kernel
theorem d_Pl_openBar_26 : decode c_Pl_openBar 26 = .ok (.aload_n 0, 1) := by decide +kernel
theorem d_Pl_openBar_27 : decode c_Pl_openBar 27 = .ok (.getfield 37, 3) := by decide +kernel
theorem d_Pl_openBar_30 : decode c_Pl_openBar 30 = .ok (.iload_n 2, 1) := by decide +kernel
theorem d_Pl_openBar_31 : decode c_Pl_openBar 31 = .ok (.iastore, 1) := by decide +kernel
theorem d_Pl_openBar_32 : decode c_Pl_openBar 32 = .ok (.aload_n 0, 1) := by decide +kernel
theorem d_Pl_openBar_33 : decode c_Pl_openBar 33 = .ok (.getfield 27, 3) := by decide +kernel
theorem d_Pl_openBar_36 : decode c_Pl_openBar 36 = .ok (.aload_n 0, 1) := by decide +kernel
theorem d_Pl_openBar_37 : decode c_Pl_openBar 37 = .ok (.getfield 37, 3) := by decide +kernel
theorem d_Pl_openBar_40 : decode c_Pl_openBar 40 = .ok (.iload_n 2, 1) := by decide +kernel
theorem d_Pl_openBar_41 : decode c_Pl_openBar 41 = .ok (.iastore, 1) := by decide +kernel
theorem d_Pl_openBar_42 : decode c_Pl_openBar 42 = .ok (.aload_n 0, 1) := by decide +kernel
theorem d_Pl_openBar_43 : decode c_Pl_openBar 43 = .ok (.getfield 30, 3) := by decide +kernel
theorem d_Pl_openBar_46 : decode c_Pl_openBar 46 = .ok (.aload_n 0, 1) := by decide +kernel
theorem d_Pl_openBar_47 : decode c_Pl_openBar 47 = .ok (.getfield 37, 3) := by decide +kernel
theorem d_Pl_openBar_50 : decode c_Pl_openBar 50 = .ok (.iconst 0, 1) := by decide +kernel
theorem d_Pl_openBar_51 : decode c_Pl_openBar 51 = .ok (.iastore, 1) := by decide +kernel
theorem d_Pl_openBar_52 : decode c_Pl_openBar 52 = .ok (.aload_n 0, 1) := by decide +kernel
theorem d_Pl_openBar_53 : decode c_Pl_openBar 53 = .ok (.dup, 1) := by decide +kernel
theorem d_Pl_openBar_54 : decode c_Pl_openBar 54 = .ok (.getfield 37, 3) := by decide +kernel
theorem d_Pl_openBar_57 : decode c_Pl_openBar 57 = .ok (.iconst 1, 1) := by decide +kernel
theorem d_Pl_openBar_58 : decode c_Pl_openBar 58 = .ok (.iadd, 1) := by decide +kernel
theorem d_Pl_openBar_59 : decode c_Pl_openBar 59 = .ok (.putfield 37, 3) := by decide +kernel
theorem d_Pl_openBar_62 : decode c_Pl_openBar 62 = .ok (.aload_n 0, 1) := by decide +kernel
theorem d_Pl_openBar_63 : decode c_Pl_openBar 63 = .ok (.getfield 37, 3) := by decide +kernel
theorem d_Pl_openBar_66 : decode c_Pl_openBar 66 = .ok (.iconst 1, 1) := by decide +kernel
theorem d_Pl_openBar_67 : decode c_Pl_openBar 67 = .ok (.isub, 1) := by decide +kernel
theorem d_Pl_openBar_68 : decode c_Pl_openBar 68 = .ok (.ireturn, 1) := by decide +kernel
theorem d_Pl_putPiece_0 : decode c_Pl_putPiece 0 = .ok (.aload_n 0, 1) := by decide +kernel
theorem d_Pl_putPiece_1 : decode c_Pl_putPiece 1 = .ok (.getfield 18, 3) := by decide +kernel
theorem d_Pl_putPiece_4 : decode c_Pl_putPiece 4 = .ok (.iload_n 1, 1) := by decide +kernel
theorem d_Pl_putPiece_5 : decode c_Pl_putPiece 5 = .ok (.iload_n 2, 1) := by decide +kernel
theorem d_Pl_putPiece_6 : decode c_Pl_putPiece 6 = .ok (.iastore, 1) := by decide +kernel
theorem d_Pl_putPiece_7 : decode c_Pl_putPiece 7 = .ok (.aload_n 0, 1) := by decide +kernel
theorem d_Pl_putPiece_8 : decode c_Pl_putPiece 8 = .ok (.getfield 27, 3) := by decide +kernel
theorem d_Pl_putPiece_11 : decode c_Pl_putPiece 11 = .ok (.iload_n 2, 1) := by decide +kernel
theorem d_Pl_putPiece_12 : decode c_Pl_putPiece 12 = .ok (.dup2, 1) := by decide +kernel
theorem d_Pl_putPiece_13 : decode c_Pl_putPiece 13 = .ok (.iaload, 1) := by decide +kernel
theorem d_Pl_putPiece_14 : decode c_Pl_putPiece 14 = .ok (.aload_n 0, 1) := by decide +kernel
theorem d_Pl_putPiece_15 : decode c_Pl_putPiece 15 = .ok (.getfield 15, 3) := by decide +kernel
theorem d_Pl_putPiece_18 : decode c_Pl_putPiece 18 = .ok (.iload_n 1, 1) := by decide +kernel
theorem d_Pl_putPiece_19 : decode c_Pl_putPiece 19 = .ok (.iaload, 1) := by decide +kernel
theorem d_Pl_putPiece_20 : decode c_Pl_putPiece 20 = .ok (.isub, 1) := by decide +kernel
theorem d_Pl_putPiece_21 : decode c_Pl_putPiece 21 = .ok (.iastore, 1) := by decide +kernel
theorem d_Pl_putPiece_22 : decode c_Pl_putPiece 22 = .ok (.aload_n 0, 1) := by decide +kernel
theorem d_Pl_putPiece_23 : decode c_Pl_putPiece 23 = .ok (.getfield 30, 3) := by decide +kernel
theorem d_Pl_putPiece_26 : decode c_Pl_putPiece 26 = .ok (.iload_n 2, 1) := by decide +kernel
theorem d_Pl_putPiece_27 : decode c_Pl_putPiece 27 = .ok (.dup2, 1) := by decide +kernel
theorem d_Pl_putPiece_28 : decode c_Pl_putPiece 28 = .ok (.iaload, 1) := by decide +kernel
theorem d_Pl_putPiece_29 : decode c_Pl_putPiece 29 = .ok (.iconst 1, 1) := by decide +kernel
theorem d_Pl_putPiece_30 : decode c_Pl_putPiece 30 = .ok (.iadd, 1) := by decide +kernel
theorem d_Pl_putPiece_31 : decode c_Pl_putPiece 31 = .ok (.iastore, 1) := by decide +kernel
theorem d_Pl_putPiece_32 : decode c_Pl_putPiece 32 = .ok (.return_, 1) := by decide +kernel
theorem d_Pl_lineOfPiece_0 : decode c_Pl_lineOfPiece 0 = .ok (.iconst 0, 1) := by decide +kernel
theorem d_Pl_lineOfPiece_1 : decode c_Pl_lineOfPiece 1 = .ok (.istore_n 3, 1) := by decide +kernel
theorem d_Pl_lineOfPiece_2 : decode c_Pl_lineOfPiece 2 = .ok (.iconst 0, 1) := by decide +kernel
theorem d_Pl_lineOfPiece_3 : decode c_Pl_lineOfPiece 3 = .ok (.istore 4, 2) := by decide +kernel
theorem d_Pl_lineOfPiece_5 : decode c_Pl_lineOfPiece 5 = .ok (.iload 4, 2) := by decide +kernel
theorem d_Pl_lineOfPiece_7 : decode c_Pl_lineOfPiece 7 = .ok (.aload_n 0, 1) := by decide +kernel
theorem d_Pl_lineOfPiece_8 : decode c_Pl_lineOfPiece 8 = .ok (.getfield 33, 3) := by decide +kernel
theorem d_Pl_lineOfPiece_11 : decode c_Pl_lineOfPiece 11 = .ok (.if_icmp .ge 36, 3) := by decide +kernel
theorem d_Pl_lineOfPiece_14 : decode c_Pl_lineOfPiece 14 = .ok (.aload_n 0, 1) := by decide +kernel
theorem d_Pl_lineOfPiece_15 : decode c_Pl_lineOfPiece 15 = .ok (.getfield 18, 3) := by decide +kernel
theorem d_Pl_lineOfPiece_18 : decode c_Pl_lineOfPiece 18 = .ok (.iload 4, 2) := by decide +kernel
theorem d_Pl_lineOfPiece_20 : decode c_Pl_lineOfPiece 20 = .ok (.iaload, 1) := by decide +kernel
theorem d_Pl_lineOfPiece_21 : decode c_Pl_lineOfPiece 21 = .ok (.iload_n 1, 1) := by decide +kernel
theorem d_Pl_lineOfPiece_22 : decode c_Pl_lineOfPiece 22 = .ok (.if_icmp .ne 19, 3) := by decide +kernel
theorem d_Pl_lineOfPiece_25 : decode c_Pl_lineOfPiece 25 = .ok (.iload_n 3, 1) := by decide +kernel
theorem d_Pl_lineOfPiece_26 : decode c_Pl_lineOfPiece 26 = .ok (.iload_n 2, 1) := by decide +kernel
theorem d_Pl_lineOfPiece_27 : decode c_Pl_lineOfPiece 27 = .ok (.if_icmp .ne 11, 3) := by decide +kernel
theorem d_Pl_lineOfPiece_30 : decode c_Pl_lineOfPiece 30 = .ok (.aload_n 0, 1) := by decide +kernel
theorem d_Pl_lineOfPiece_31 : decode c_Pl_lineOfPiece 31 = .ok (.getfield 9, 3) := by decide +kernel
theorem d_Pl_lineOfPiece_34 : decode c_Pl_lineOfPiece 34 = .ok (.iload 4, 2) := by decide +kernel
theorem d_Pl_lineOfPiece_36 : decode c_Pl_lineOfPiece 36 = .ok (.iaload, 1) := by decide +kernel
theorem d_Pl_lineOfPiece_37 : decode c_Pl_lineOfPiece 37 = .ok (.ireturn, 1) := by decide +kernel
theorem d_Pl_lineOfPiece_38 : decode c_Pl_lineOfPiece 38 = .ok (.iinc 3 1, 3) := by decide +kernel
theorem d_Pl_lineOfPiece_41 : decode c_Pl_lineOfPiece 41 = .ok (.iinc 4 1, 3) := by decide +kernel
theorem d_Pl_lineOfPiece_44 : decode c_Pl_lineOfPiece 44 = .ok (.goto (-39), 3) := by decide +kernel
theorem d_Pl_lineOfPiece_47 : decode c_Pl_lineOfPiece 47 = .ok (.iconst (-1), 1) := by decide +kernel
theorem d_Pl_lineOfPiece_48 : decode c_Pl_lineOfPiece 48 = .ok (.ireturn, 1) := by decide +kernel
theorem d_Pl_sumOfBars_0 : decode c_Pl_sumOfBars 0 = .ok (.iconst 0, 1) := by decide +kernel
theorem d_Pl_sumOfBars_1 : decode c_Pl_sumOfBars 1 = .ok (.istore_n 1, 1) := by decide +kernel
theorem d_Pl_sumOfBars_2 : decode c_Pl_sumOfBars 2 = .ok (.iconst 0, 1) := by decide +kernel
theorem d_Pl_sumOfBars_3 : decode c_Pl_sumOfBars 3 = .ok (.istore_n 2, 1) := by decide +kernel
theorem d_Pl_sumOfBars_4 : decode c_Pl_sumOfBars 4 = .ok (.iload_n 2, 1) := by decide +kernel
theorem d_Pl_sumOfBars_5 : decode c_Pl_sumOfBars 5 = .ok (.aload_n 0, 1) := by decide +kernel
theorem d_Pl_sumOfBars_6 : decode c_Pl_sumOfBars 6 = .ok (.getfield 37, 3) := by decide +kernel
theorem d_Pl_sumOfBars_9 : decode c_Pl_sumOfBars 9 = .ok (.if_icmp .ge 18, 3) := by decide +kernel
theorem d_Pl_sumOfBars_12 : decode c_Pl_sumOfBars 12 = .ok (.iload_n 1, 1) := by decide +kernel
theorem d_Pl_sumOfBars_13 : decode c_Pl_sumOfBars 13 = .ok (.aload_n 0, 1) := by decide +kernel
theorem d_Pl_sumOfBars_14 : decode c_Pl_sumOfBars 14 = .ok (.getfield 24, 3) := by decide +kernel
theorem d_Pl_sumOfBars_17 : decode c_Pl_sumOfBars 17 = .ok (.iload_n 2, 1) := by decide +kernel
theorem d_Pl_sumOfBars_18 : decode c_Pl_sumOfBars 18 = .ok (.iaload, 1) := by decide +kernel
theorem d_Pl_sumOfBars_19 : decode c_Pl_sumOfBars 19 = .ok (.iadd, 1) := by decide +kernel
theorem d_Pl_sumOfBars_20 : decode c_Pl_sumOfBars 20 = .ok (.istore_n 1, 1) := by decide +kernel
theorem d_Pl_sumOfBars_21 : decode c_Pl_sumOfBars 21 = .ok (.iinc 2 1, 3) := by decide +kernel
theorem d_Pl_sumOfBars_24 : decode c_Pl_sumOfBars 24 = .ok (.goto (-20), 3) := by decide +kernel
theorem d_Pl_sumOfBars_27 : decode c_Pl_sumOfBars 27 = .ok (.iload_n 1, 1) := by decide +kernel
theorem d_Pl_sumOfBars_28 : decode c_Pl_sumOfBars 28 = .ok (.ireturn, 1) := by decide +kernel
theorem d_Pl_sumOfPieces_0 : decode c_Pl_sumOfPieces 0 = .ok (.iconst 0, 1) := by decide +kernel
theorem d_Pl_sumOfPieces_1 : decode c_Pl_sumOfPieces 1 = .ok (.istore_n 1, 1) := by decide +kernel
theorem d_Pl_sumOfPieces_2 : decode c_Pl_sumOfPieces 2 = .ok (.iconst 0, 1) := by decide +kernel
theorem d_Pl_sumOfPieces_3 : decode c_Pl_sumOfPieces 3 = .ok (.istore_n 2, 1) := by decide +kernel
theorem d_Pl_sumOfPieces_4 : decode c_Pl_sumOfPieces 4 = .ok (.iload_n 2, 1) := by decide +kernel
theorem d_Pl_sumOfPieces_5 : decode c_Pl_sumOfPieces 5 = .ok (.aload_n 0, 1) := by decide +kernel
theorem d_Pl_sumOfPieces_6 : decode c_Pl_sumOfPieces 6 = .ok (.getfield 33, 3) := by decide +kernel
theorem d_Pl_sumOfPieces_9 : decode c_Pl_sumOfPieces 9 = .ok (.if_icmp .ge 18, 3) := by decide +kernel
theorem d_Pl_sumOfPieces_12 : decode c_Pl_sumOfPieces 12 = .ok (.iload_n 1, 1) := by decide +kernel
theorem d_Pl_sumOfPieces_13 : decode c_Pl_sumOfPieces 13 = .ok (.aload_n 0, 1) := by decide +kernel
theorem d_Pl_sumOfPieces_14 : decode c_Pl_sumOfPieces 14 = .ok (.getfield 15, 3) := by decide +kernel
theorem d_Pl_sumOfPieces_17 : decode c_Pl_sumOfPieces 17 = .ok (.iload_n 2, 1) := by decide +kernel
theorem d_Pl_sumOfPieces_18 : decode c_Pl_sumOfPieces 18 = .ok (.iaload, 1) := by decide +kernel
theorem d_Pl_sumOfPieces_19 : decode c_Pl_sumOfPieces 19 = .ok (.iadd, 1) := by decide +kernel
theorem d_Pl_sumOfPieces_20 : decode c_Pl_sumOfPieces 20 = .ok (.istore_n 1, 1) := by decide +kernel
theorem d_Pl_sumOfPieces_21 : decode c_Pl_sumOfPieces 21 = .ok (.iinc 2 1, 3) := by decide +kernel
theorem d_Pl_sumOfPieces_24 : decode c_Pl_sumOfPieces 24 = .ok (.goto (-20), 3) := by decide +kernel
theorem d_Pl_sumOfPieces_27 : decode c_Pl_sumOfPieces 27 = .ok (.iload_n 1, 1) := by decide +kernel
theorem d_Pl_sumOfPieces_28 : decode c_Pl_sumOfPieces 28 = .ok (.ireturn, 1) := by decide +kernel
theorem d_Sh_init_0 : decode c_Sh_init 0 = .ok (.aload_n 0, 1) := by decide +kernel
theorem d_Sh_init_1 : decode c_Sh_init 1 = .ok (.invokespecial 1, 3) := by decide +kernel
theorem d_Sh_init_4 : decode c_Sh_init 4 = .ok (.aload_n 0, 1) := by decide +kernel
theorem d_Sh_init_5 : decode c_Sh_init 5 = .ok (.aload_n 1, 1) := by decide +kernel
theorem d_Sh_init_6 : decode c_Sh_init 6 = .ok (.putfield 7, 3) := by decide +kernel
theorem d_Sh_init_9 : decode c_Sh_init 9 = .ok (.aload_n 0, 1) := by decide +kernel
theorem d_Sh_init_10 : decode c_Sh_init 10 = .ok (.aload_n 1, 1) := by decide +kernel
theorem d_Sh_init_11 : decode c_Sh_init 11 = .ok (.arraylength, 1) := by decide +kernel
theorem d_Sh_init_12 : decode c_Sh_init 12 = .ok (.iconst 1, 1) := by decide +kernel
theorem d_Sh_init_13 : decode c_Sh_init 13 = .ok (.iadd, 1) := by decide +kernel
theorem d_Sh_init_14 : decode c_Sh_init 14 = .ok (.iconst 2, 1) := by decide +kernel
theorem d_Sh_init_15 : decode c_Sh_init 15 = .ok (.idiv, 1) := by decide +kernel
theorem d_Sh_init_16 : decode c_Sh_init 16 = .ok (.putfield 13, 3) := by decide +kernel
theorem d_Sh_init_19 : decode c_Sh_init 19 = .ok (.aload_n 0, 1) := by decide +kernel
theorem d_Sh_init_20 : decode c_Sh_init 20 = .ok (.iload_n 2, 1) := by decide +kernel
theorem d_Sh_init_21 : decode c_Sh_init 21 = .ok (.putfield 17, 3) := by decide +kernel
theorem d_Sh_init_24 : decode c_Sh_init 24 = .ok (.return_, 1) := by decide +kernel
theorem d_Sh_bendBefore_0 : decode c_Sh_bendBefore 0 = .ok (.iconst 2, 1) := by decide +kernel
theorem d_Sh_bendBefore_1 : decode c_Sh_bendBefore 1 = .ok (.iload_n 1, 1) := by decide +kernel
theorem d_Sh_bendBefore_2 : decode c_Sh_bendBefore 2 = .ok (.imul, 1) := by decide +kernel
theorem d_Sh_bendBefore_3 : decode c_Sh_bendBefore 3 = .ok (.iconst 1, 1) := by decide +kernel
theorem d_Sh_bendBefore_4 : decode c_Sh_bendBefore 4 = .ok (.isub, 1) := by decide +kernel
theorem d_Sh_bendBefore_5 : decode c_Sh_bendBefore 5 = .ok (.istore_n 2, 1) := by decide +kernel
theorem d_Sh_bendBefore_6 : decode c_Sh_bendBefore 6 = .ok (.iload_n 2, 1) := by decide +kernel
theorem d_Sh_bendBefore_7 : decode c_Sh_bendBefore 7 = .ok (.ifCond .le 21, 3) := by decide +kernel
theorem d_Sh_bendBefore_10 : decode c_Sh_bendBefore 10 = .ok (.iload_n 2, 1) := by decide +kernel
theorem d_Sh_bendBefore_11 : decode c_Sh_bendBefore 11 = .ok (.aload_n 0, 1) := by decide +kernel
theorem d_Sh_bendBefore_12 : decode c_Sh_bendBefore 12 = .ok (.getfield 7, 3) := by decide +kernel
theorem d_Sh_bendBefore_15 : decode c_Sh_bendBefore 15 = .ok (.arraylength, 1) := by decide +kernel
theorem d_Sh_bendBefore_16 : decode c_Sh_bendBefore 16 = .ok (.if_icmp .ge 12, 3) := by decide +kernel
theorem d_Sh_bendBefore_19 : decode c_Sh_bendBefore 19 = .ok (.aload_n 0, 1) := by decide +kernel
theorem d_Sh_bendBefore_20 : decode c_Sh_bendBefore 20 = .ok (.getfield 7, 3) := by decide +kernel
theorem d_Sh_bendBefore_23 : decode c_Sh_bendBefore 23 = .ok (.iload_n 2, 1) := by decide +kernel
theorem d_Sh_bendBefore_24 : decode c_Sh_bendBefore 24 = .ok (.caload, 1) := by decide +kernel
theorem d_Sh_bendBefore_25 : decode c_Sh_bendBefore 25 = .ok (.goto 5, 3) := by decide +kernel
theorem d_Sh_bendBefore_28 : decode c_Sh_bendBefore 28 = .ok (.bipush 32, 2) := by decide +kernel
theorem d_Sh_bendBefore_30 : decode c_Sh_bendBefore 30 = .ok (.ireturn, 1) := by decide +kernel
theorem d_Sf_init_0 : decode c_Sf_init 0 = .ok (.aload_n 0, 1) := by decide +kernel
theorem d_Sf_init_1 : decode c_Sf_init 1 = .ok (.invokespecial 3, 3) := by decide +kernel
theorem d_Sf_init_4 : decode c_Sf_init 4 = .ok (.aload_n 0, 1) := by decide +kernel
theorem d_Sf_init_5 : decode c_Sf_init 5 = .ok (.iconst 3, 1) := by decide +kernel
theorem d_Sf_init_6 : decode c_Sf_init 6 = .ok (.newarray .int, 2) := by decide +kernel
theorem d_Sf_init_8 : decode c_Sf_init 8 = .ok (.putfield 9, 3) := by decide +kernel
theorem d_Sf_init_11 : decode c_Sf_init 11 = .ok (.aload_n 0, 1) := by decide +kernel
theorem d_Sf_init_12 : decode c_Sf_init 12 = .ok (.iconst 3, 1) := by decide +kernel
theorem d_Sf_init_13 : decode c_Sf_init 13 = .ok (.newarray .int, 2) := by decide +kernel
theorem d_Sf_init_15 : decode c_Sf_init 15 = .ok (.putfield 15, 3) := by decide +kernel
theorem d_Sf_init_18 : decode c_Sf_init 18 = .ok (.return_, 1) := by decide +kernel
theorem d_Sf_add_0 : decode c_Sf_add 0 = .ok (.aload_n 0, 1) := by decide +kernel
theorem d_Sf_add_1 : decode c_Sf_add 1 = .ok (.getfield 18, 3) := by decide +kernel
theorem d_Sf_add_4 : decode c_Sf_add 4 = .ok (.iconst 3, 1) := by decide +kernel
theorem d_Sf_add_5 : decode c_Sf_add 5 = .ok (.if_icmp .lt 5, 3) := by decide +kernel
theorem d_Sf_add_8 : decode c_Sf_add 8 = .ok (.iconst 0, 1) := by decide +kernel
theorem d_Sf_add_9 : decode c_Sf_add 9 = .ok (.ireturn, 1) := by decide +kernel
theorem d_Sf_add_10 : decode c_Sf_add 10 = .ok (.aload_n 0, 1) := by decide +kernel
theorem d_Sf_add_11 : decode c_Sf_add 11 = .ok (.getfield 9, 3) := by decide +kernel
theorem d_Sf_add_14 : decode c_Sf_add 14 = .ok (.aload_n 0, 1) := by decide +kernel
theorem d_Sf_add_15 : decode c_Sf_add 15 = .ok (.getfield 18, 3) := by decide +kernel
theorem d_Sf_add_18 : decode c_Sf_add 18 = .ok (.iload_n 1, 1) := by decide +kernel
theorem d_Sf_add_19 : decode c_Sf_add 19 = .ok (.iastore, 1) := by decide +kernel
theorem d_Sf_add_20 : decode c_Sf_add 20 = .ok (.aload_n 0, 1) := by decide +kernel
theorem d_Sf_add_21 : decode c_Sf_add 21 = .ok (.getfield 15, 3) := by decide +kernel
theorem d_Sf_add_24 : decode c_Sf_add 24 = .ok (.aload_n 0, 1) := by decide +kernel
theorem d_Sf_add_25 : decode c_Sf_add 25 = .ok (.getfield 18, 3) := by decide +kernel
theorem d_Sf_add_28 : decode c_Sf_add 28 = .ok (.iload_n 2, 1) := by decide +kernel
theorem d_Sf_add_29 : decode c_Sf_add 29 = .ok (.iastore, 1) := by decide +kernel
theorem d_Sf_add_30 : decode c_Sf_add 30 = .ok (.aload_n 0, 1) := by decide +kernel
theorem d_Sf_add_31 : decode c_Sf_add 31 = .ok (.dup, 1) := by decide +kernel
theorem d_Sf_add_32 : decode c_Sf_add 32 = .ok (.getfield 18, 3) := by decide +kernel
theorem d_Sf_add_35 : decode c_Sf_add 35 = .ok (.iconst 1, 1) := by decide +kernel
theorem d_Sf_add_36 : decode c_Sf_add 36 = .ok (.iadd, 1) := by decide +kernel
theorem d_Sf_add_37 : decode c_Sf_add 37 = .ok (.putfield 18, 3) := by decide +kernel
theorem d_Sf_add_40 : decode c_Sf_add 40 = .ok (.iconst 1, 1) := by decide +kernel
theorem d_Sf_add_41 : decode c_Sf_add 41 = .ok (.ireturn, 1) := by decide +kernel
theorem d_Sf_greatest_0 : decode c_Sf_greatest 0 = .ok (.iconst 0, 1) := by decide +kernel
theorem d_Sf_greatest_1 : decode c_Sf_greatest 1 = .ok (.istore_n 1, 1) := by decide +kernel
theorem d_Sf_greatest_2 : decode c_Sf_greatest 2 = .ok (.iconst 0, 1) := by decide +kernel
theorem d_Sf_greatest_3 : decode c_Sf_greatest 3 = .ok (.istore_n 2, 1) := by decide +kernel
theorem d_Sf_greatest_4 : decode c_Sf_greatest 4 = .ok (.iload_n 2, 1) := by decide +kernel
theorem d_Sf_greatest_5 : decode c_Sf_greatest 5 = .ok (.aload_n 0, 1) := by decide +kernel
theorem d_Sf_greatest_6 : decode c_Sf_greatest 6 = .ok (.getfield 18, 3) := by decide +kernel
theorem d_Sf_greatest_9 : decode c_Sf_greatest 9 = .ok (.if_icmp .ge 20, 3) := by decide +kernel
theorem d_Sf_greatest_12 : decode c_Sf_greatest 12 = .ok (.iload_n 1, 1) := by decide +kernel
theorem d_Sf_greatest_13 : decode c_Sf_greatest 13 = .ok (.aload_n 0, 1) := by decide +kernel
theorem d_Sf_greatest_14 : decode c_Sf_greatest 14 = .ok (.getfield 9, 3) := by decide +kernel
theorem d_Sf_greatest_17 : decode c_Sf_greatest 17 = .ok (.iload_n 2, 1) := by decide +kernel
theorem d_Sf_greatest_18 : decode c_Sf_greatest 18 = .ok (.iaload, 1) := by decide +kernel
theorem d_Sf_greatest_19 : decode c_Sf_greatest 19 = .ok (.invokestatic 22, 3) := by decide +kernel
theorem d_Sf_greatest_22 : decode c_Sf_greatest 22 = .ok (.istore_n 1, 1) := by decide +kernel
theorem d_Sf_greatest_23 : decode c_Sf_greatest 23 = .ok (.iinc 2 1, 3) := by decide +kernel
theorem d_Sf_greatest_26 : decode c_Sf_greatest 26 = .ok (.goto (-22), 3) := by decide +kernel
theorem d_Sf_greatest_29 : decode c_Sf_greatest 29 = .ok (.iload_n 1, 1) := by decide +kernel
theorem d_Sf_greatest_30 : decode c_Sf_greatest 30 = .ok (.ireturn, 1) := by decide +kernel
theorem d_Sg_init_0 : decode c_Sg_init 0 = .ok (.aload_n 0, 1) := by decide +kernel
theorem d_Sg_init_1 : decode c_Sg_init 1 = .ok (.invokespecial 3, 3) := by decide +kernel
theorem d_Sg_init_4 : decode c_Sg_init 4 = .ok (.aload_n 0, 1) := by decide +kernel
theorem d_Sg_init_5 : decode c_Sg_init 5 = .ok (.bipush 40, 2) := by decide +kernel
theorem d_Sg_init_7 : decode c_Sg_init 7 = .ok (.newarray .char, 2) := by decide +kernel
theorem d_Sg_init_9 : decode c_Sg_init 9 = .ok (.putfield 9, 3) := by decide +kernel
theorem d_Sg_init_12 : decode c_Sg_init 12 = .ok (.return_, 1) := by decide +kernel
theorem d_Sg_collect_0 : decode c_Sg_collect 0 = .ok (.iload_n 1, 1) := by decide +kernel
theorem d_Sg_collect_1 : decode c_Sg_collect 1 = .ok (.bipush 32, 2) := by decide +kernel
theorem d_Sg_collect_3 : decode c_Sg_collect 3 = .ok (.if_icmp .lt 18, 3) := by decide +kernel
theorem d_Sg_collect_6 : decode c_Sg_collect 6 = .ok (.iload_n 1, 1) := by decide +kernel
theorem d_Sg_collect_7 : decode c_Sg_collect 7 = .ok (.bipush 126, 2) := by decide +kernel
theorem d_Sg_collect_9 : decode c_Sg_collect 9 = .ok (.if_icmp .gt 12, 3) := by decide +kernel
theorem d_Sg_collect_12 : decode c_Sg_collect 12 = .ok (.aload_n 0, 1) := by decide +kernel
theorem d_Sg_collect_13 : decode c_Sg_collect 13 = .ok (.getfield 15, 3) := by decide +kernel
theorem d_Sg_collect_16 : decode c_Sg_collect 16 = .ok (.bipush 40, 2) := by decide +kernel
theorem d_Sg_collect_18 : decode c_Sg_collect 18 = .ok (.if_icmp .lt 5, 3) := by decide +kernel
theorem d_Sg_collect_21 : decode c_Sg_collect 21 = .ok (.iconst 0, 1) := by decide +kernel
theorem d_Sg_collect_22 : decode c_Sg_collect 22 = .ok (.ireturn, 1) := by decide +kernel
theorem d_Sg_collect_23 : decode c_Sg_collect 23 = .ok (.aload_n 0, 1) := by decide +kernel
theorem d_Sg_collect_24 : decode c_Sg_collect 24 = .ok (.getfield 9, 3) := by decide +kernel
theorem d_Sg_collect_27 : decode c_Sg_collect 27 = .ok (.aload_n 0, 1) := by decide +kernel
theorem d_Sg_collect_28 : decode c_Sg_collect 28 = .ok (.getfield 15, 3) := by decide +kernel
theorem d_Sg_collect_31 : decode c_Sg_collect 31 = .ok (.iload_n 1, 1) := by decide +kernel
theorem d_Sg_collect_32 : decode c_Sg_collect 32 = .ok (.i2c, 1) := by decide +kernel
theorem d_Sg_collect_33 : decode c_Sg_collect 33 = .ok (.castore, 1) := by decide +kernel
theorem d_Sg_collect_34 : decode c_Sg_collect 34 = .ok (.aload_n 0, 1) := by decide +kernel
theorem d_Sg_collect_35 : decode c_Sg_collect 35 = .ok (.dup, 1) := by decide +kernel
theorem d_Sg_collect_36 : decode c_Sg_collect 36 = .ok (.getfield 15, 3) := by decide +kernel
theorem d_Sg_collect_39 : decode c_Sg_collect 39 = .ok (.iconst 1, 1) := by decide +kernel
theorem d_Sg_collect_40 : decode c_Sg_collect 40 = .ok (.iadd, 1) := by decide +kernel
theorem d_Sg_collect_41 : decode c_Sg_collect 41 = .ok (.putfield 15, 3) := by decide +kernel
theorem d_Sg_collect_44 : decode c_Sg_collect 44 = .ok (.iconst 1, 1) := by decide +kernel
theorem d_Sg_collect_45 : decode c_Sg_collect 45 = .ok (.ireturn, 1) := by decide +kernel
theorem d_Sg_firstWrong_0 : decode c_Sg_firstWrong 0 = .ok (.iconst 0, 1) := by decide +kernel
theorem d_Sg_firstWrong_1 : decode c_Sg_firstWrong 1 = .ok (.istore_n 1, 1) := by decide +kernel
theorem d_Sg_firstWrong_2 : decode c_Sg_firstWrong 2 = .ok (.iload_n 1, 1) := by decide +kernel
theorem d_Sg_firstWrong_3 : decode c_Sg_firstWrong 3 = .ok (.aload_n 0, 1) := by decide +kernel
theorem d_Sg_firstWrong_4 : decode c_Sg_firstWrong 4 = .ok (.getfield 15, 3) := by decide +kernel
theorem d_Sg_firstWrong_7 : decode c_Sg_firstWrong 7 = .ok (.if_icmp .ge 54, 3) := by decide +kernel
theorem d_Sg_firstWrong_10 : decode c_Sg_firstWrong 10 = .ok (.iload_n 1, 1) := by decide +kernel
theorem d_Sg_firstWrong_11 : decode c_Sg_firstWrong 11 = .ok (.iconst 2, 1) := by decide +kernel
theorem d_Sg_firstWrong_12 : decode c_Sg_firstWrong 12 = .ok (.irem, 1) := by decide +kernel
theorem d_Sg_firstWrong_13 : decode c_Sg_firstWrong 13 = .ok (.ifCond .ne 18, 3) := by decide +kernel
theorem d_Sg_firstWrong_16 : decode c_Sg_firstWrong 16 = .ok (.aload_n 0, 1) := by decide +kernel
theorem d_Sg_firstWrong_17 : decode c_Sg_firstWrong 17 = .ok (.getfield 9, 3) := by decide +kernel
theorem d_Sg_firstWrong_20 : decode c_Sg_firstWrong 20 = .ok (.iload_n 1, 1) := by decide +kernel
theorem d_Sg_firstWrong_21 : decode c_Sg_firstWrong 21 = .ok (.caload, 1) := by decide +kernel
theorem d_Sg_firstWrong_22 : decode c_Sg_firstWrong 22 = .ok (.iload_n 1, 1) := by decide +kernel
theorem d_Sg_firstWrong_23 : decode c_Sg_firstWrong 23 = .ok (.iconst 2, 1) := by decide +kernel
theorem d_Sg_firstWrong_24 : decode c_Sg_firstWrong 24 = .ok (.idiv, 1) := by decide +kernel
theorem d_Sg_firstWrong_25 : decode c_Sg_firstWrong 25 = .ok (.invokestatic 19, 3) := by decide +kernel
theorem d_Sg_firstWrong_28 : decode c_Sg_firstWrong 28 = .ok (.goto 20, 3) := by decide +kernel
theorem d_Sg_firstWrong_31 : decode c_Sg_firstWrong 31 = .ok (.aload_n 0, 1) := by decide +kernel
theorem d_Sg_firstWrong_32 : decode c_Sg_firstWrong 32 = .ok (.getfield 9, 3) := by decide +kernel
theorem d_Sg_firstWrong_35 : decode c_Sg_firstWrong 35 = .ok (.iload_n 1, 1) := by decide +kernel
theorem d_Sg_firstWrong_36 : decode c_Sg_firstWrong 36 = .ok (.caload, 1) := by decide +kernel
theorem d_Sg_firstWrong_37 : decode c_Sg_firstWrong 37 = .ok (.invokestatic 23, 3) := by decide +kernel
theorem d_Sg_firstWrong_40 : decode c_Sg_firstWrong 40 = .ok (.ifCond .le 7, 3) := by decide +kernel
theorem d_Sg_firstWrong_43 : decode c_Sg_firstWrong 43 = .ok (.iconst 1, 1) := by decide +kernel
theorem d_Sg_firstWrong_44 : decode c_Sg_firstWrong 44 = .ok (.goto 4, 3) := by decide +kernel
theorem d_Sg_firstWrong_47 : decode c_Sg_firstWrong 47 = .ok (.iconst 0, 1) := by decide +kernel
theorem d_Sg_firstWrong_48 : decode c_Sg_firstWrong 48 = .ok (.istore_n 2, 1) := by decide +kernel
theorem d_Sg_firstWrong_49 : decode c_Sg_firstWrong 49 = .ok (.iload_n 2, 1) := by decide +kernel
theorem d_Sg_firstWrong_50 : decode c_Sg_firstWrong 50 = .ok (.ifCond .ne 5, 3) := by decide +kernel
theorem d_Sg_firstWrong_53 : decode c_Sg_firstWrong 53 = .ok (.iload_n 1, 1) := by decide +kernel
theorem d_Sg_firstWrong_54 : decode c_Sg_firstWrong 54 = .ok (.ireturn, 1) := by decide +kernel
theorem d_Sg_firstWrong_55 : decode c_Sg_firstWrong 55 = .ok (.iinc 1 1, 3) := by decide +kernel
theorem d_Sg_firstWrong_58 : decode c_Sg_firstWrong 58 = .ok (.goto (-56), 3) := by decide +kernel
theorem d_Sg_firstWrong_61 : decode c_Sg_firstWrong 61 = .ok (.aload_n 0, 1) := by decide +kernel
theorem d_Sg_firstWrong_62 : decode c_Sg_firstWrong 62 = .ok (.getfield 15, 3) := by decide +kernel
theorem d_Sg_firstWrong_65 : decode c_Sg_firstWrong 65 = .ok (.iconst 2, 1) := by decide +kernel
theorem d_Sg_firstWrong_66 : decode c_Sg_firstWrong 66 = .ok (.irem, 1) := by decide +kernel
theorem d_Sg_firstWrong_67 : decode c_Sg_firstWrong 67 = .ok (.ifCond .ne 10, 3) := by decide +kernel
theorem d_Sg_firstWrong_70 : decode c_Sg_firstWrong 70 = .ok (.aload_n 0, 1) := by decide +kernel
theorem d_Sg_firstWrong_71 : decode c_Sg_firstWrong 71 = .ok (.getfield 15, 3) := by decide +kernel
theorem d_Sg_firstWrong_74 : decode c_Sg_firstWrong 74 = .ok (.goto 4, 3) := by decide +kernel
theorem d_Sg_firstWrong_77 : decode c_Sg_firstWrong 77 = .ok (.iconst (-1), 1) := by decide +kernel
theorem d_Sg_firstWrong_78 : decode c_Sg_firstWrong 78 = .ok (.ireturn, 1) := by decide +kernel
theorem d_Sg_toShape_0 : decode c_Sg_toShape 0 = .ok (.aload_n 0, 1) := by decide +kernel
theorem d_Sg_toShape_1 : decode c_Sg_toShape 1 = .ok (.getfield 15, 3) := by decide +kernel
theorem d_Sg_toShape_4 : decode c_Sg_toShape 4 = .ok (.newarray .char, 2) := by decide +kernel
theorem d_Sg_toShape_6 : decode c_Sg_toShape 6 = .ok (.astore_n 1, 1) := by decide +kernel
theorem d_Sg_toShape_7 : decode c_Sg_toShape 7 = .ok (.iconst 0, 1) := by decide +kernel
theorem d_Sg_toShape_8 : decode c_Sg_toShape 8 = .ok (.istore_n 2, 1) := by decide +kernel
theorem d_Sg_toShape_9 : decode c_Sg_toShape 9 = .ok (.iconst 0, 1) := by decide +kernel
theorem d_Sg_toShape_10 : decode c_Sg_toShape 10 = .ok (.istore_n 3, 1) := by decide +kernel
theorem d_Sg_toShape_11 : decode c_Sg_toShape 11 = .ok (.iload_n 3, 1) := by decide +kernel
theorem d_Sg_toShape_12 : decode c_Sg_toShape 12 = .ok (.aload_n 0, 1) := by decide +kernel
theorem d_Sg_toShape_13 : decode c_Sg_toShape 13 = .ok (.getfield 15, 3) := by decide +kernel
theorem d_Sg_toShape_16 : decode c_Sg_toShape 16 = .ok (.if_icmp .ge 40, 3) := by decide +kernel
theorem d_Sg_toShape_19 : decode c_Sg_toShape 19 = .ok (.aload_n 1, 1) := by decide +kernel
theorem d_Sg_toShape_20 : decode c_Sg_toShape 20 = .ok (.iload_n 3, 1) := by decide +kernel
theorem d_Sg_toShape_21 : decode c_Sg_toShape 21 = .ok (.aload_n 0, 1) := by decide +kernel
theorem d_Sg_toShape_22 : decode c_Sg_toShape 22 = .ok (.getfield 9, 3) := by decide +kernel
theorem d_Sg_toShape_25 : decode c_Sg_toShape 25 = .ok (.iload_n 3, 1) := by decide +kernel
theorem d_Sg_toShape_26 : decode c_Sg_toShape 26 = .ok (.caload, 1) := by decide +kernel
theorem d_Sg_toShape_27 : decode c_Sg_toShape 27 = .ok (.castore, 1) := by decide +kernel
theorem d_Sg_toShape_28 : decode c_Sg_toShape 28 = .ok (.iload_n 2, 1) := by decide +kernel
theorem d_Sg_toShape_29 : decode c_Sg_toShape 29 = .ok (.iload_n 3, 1) := by decide +kernel
theorem d_Sg_toShape_30 : decode c_Sg_toShape 30 = .ok (.iconst 2, 1) := by decide +kernel
theorem d_Sg_toShape_31 : decode c_Sg_toShape 31 = .ok (.irem, 1) := by decide +kernel
theorem d_Sg_toShape_32 : decode c_Sg_toShape 32 = .ok (.ifCond .ne 7, 3) := by decide +kernel
theorem d_Sg_toShape_35 : decode c_Sg_toShape 35 = .ok (.iconst 0, 1) := by decide +kernel
theorem d_Sg_toShape_36 : decode c_Sg_toShape 36 = .ok (.goto 12, 3) := by decide +kernel
theorem d_Sg_toShape_39 : decode c_Sg_toShape 39 = .ok (.aload_n 0, 1) := by decide +kernel
theorem d_Sg_toShape_40 : decode c_Sg_toShape 40 = .ok (.getfield 9, 3) := by decide +kernel
theorem d_Sg_toShape_43 : decode c_Sg_toShape 43 = .ok (.iload_n 3, 1) := by decide +kernel
theorem d_Sg_toShape_44 : decode c_Sg_toShape 44 = .ok (.caload, 1) := by decide +kernel
theorem d_Sg_toShape_45 : decode c_Sg_toShape 45 = .ok (.invokestatic 23, 3) := by decide +kernel
theorem d_Sg_toShape_48 : decode c_Sg_toShape 48 = .ok (.iadd, 1) := by decide +kernel
theorem d_Sg_toShape_49 : decode c_Sg_toShape 49 = .ok (.istore_n 2, 1) := by decide +kernel
theorem d_Sg_toShape_50 : decode c_Sg_toShape 50 = .ok (.iinc 3 1, 3) := by decide +kernel
theorem d_Sg_toShape_53 : decode c_Sg_toShape 53 = .ok (.goto (-42), 3) := by decide +kernel
theorem d_Sg_toShape_56 : decode c_Sg_toShape 56 = .ok (.new 27, 3) := by decide +kernel
theorem d_Sg_toShape_59 : decode c_Sg_toShape 59 = .ok (.dup, 1) := by decide +kernel
theorem d_Sg_toShape_60 : decode c_Sg_toShape 60 = .ok (.aload_n 1, 1) := by decide +kernel
theorem d_Sg_toShape_61 : decode c_Sg_toShape 61 = .ok (.iload_n 2, 1) := by decide +kernel
theorem d_Sg_toShape_62 : decode c_Sg_toShape 62 = .ok (.invokespecial 29, 3) := by decide +kernel
theorem d_Sg_toShape_65 : decode c_Sg_toShape 65 = .ok (.areturn, 1) := by decide +kernel
theorem d_Sg_isLeg_0 : decode c_Sg_isLeg 0 = .ok (.iload_n 1, 1) := by decide +kernel
theorem d_Sg_isLeg_1 : decode c_Sg_isLeg 1 = .ok (.bipush 6, 2) := by decide +kernel
theorem d_Sg_isLeg_3 : decode c_Sg_isLeg 3 = .ok (.if_icmp .ge 15, 3) := by decide +kernel
theorem d_Sg_isLeg_6 : decode c_Sg_isLeg 6 = .ok (.iload_n 0, 1) := by decide +kernel
theorem d_Sg_isLeg_7 : decode c_Sg_isLeg 7 = .ok (.bipush 65, 2) := by decide +kernel
theorem d_Sg_isLeg_9 : decode c_Sg_isLeg 9 = .ok (.iload_n 1, 1) := by decide +kernel
theorem d_Sg_isLeg_10 : decode c_Sg_isLeg 10 = .ok (.iadd, 1) := by decide +kernel
theorem d_Sg_isLeg_11 : decode c_Sg_isLeg 11 = .ok (.if_icmp .ne 7, 3) := by decide +kernel
theorem d_Sg_isLeg_14 : decode c_Sg_isLeg 14 = .ok (.iconst 1, 1) := by decide +kernel
theorem d_Sg_isLeg_15 : decode c_Sg_isLeg 15 = .ok (.goto 4, 3) := by decide +kernel
theorem d_Sg_isLeg_18 : decode c_Sg_isLeg 18 = .ok (.iconst 0, 1) := by decide +kernel
theorem d_Sg_isLeg_19 : decode c_Sg_isLeg 19 = .ok (.ireturn, 1) := by decide +kernel
theorem d_Sg_quartersOf_0 : decode c_Sg_quartersOf 0 = .ok (.iload_n 0, 1) := by decide +kernel
theorem d_Sg_quartersOf_1 : decode c_Sg_quartersOf 1 = .ok (.lookupswitch 39 #[(76, 35), (82, 35), (85, 37)], 35) := by decide +kernel
theorem d_Sg_quartersOf_36 : decode c_Sg_quartersOf 36 = .ok (.iconst 1, 1) := by decide +kernel
theorem d_Sg_quartersOf_37 : decode c_Sg_quartersOf 37 = .ok (.ireturn, 1) := by decide +kernel
theorem d_Sg_quartersOf_38 : decode c_Sg_quartersOf 38 = .ok (.iconst 2, 1) := by decide +kernel
theorem d_Sg_quartersOf_39 : decode c_Sg_quartersOf 39 = .ok (.ireturn, 1) := by decide +kernel
theorem d_Sg_quartersOf_40 : decode c_Sg_quartersOf 40 = .ok (.iconst 0, 1) := by decide +kernel
theorem d_Sg_quartersOf_41 : decode c_Sg_quartersOf 41 = .ok (.ireturn, 1) := by decide +kernel
theorem d_Tr_init_0 : decode c_Tr_init 0 = .ok (.aload_n 0, 1) := by decide +kernel
theorem d_Tr_init_1 : decode c_Tr_init 1 = .ok (.invokespecial 3, 3) := by decide +kernel
theorem d_Tr_init_4 : decode c_Tr_init 4 = .ok (.aload_n 0, 1) := by decide +kernel
theorem d_Tr_init_5 : decode c_Tr_init 5 = .ok (.bipush 11, 2) := by decide +kernel
theorem d_Tr_init_7 : decode c_Tr_init 7 = .ok (.newarray .int, 2) := by decide +kernel
theorem d_Tr_init_9 : decode c_Tr_init 9 = .ok (.putfield 11, 3) := by decide +kernel
theorem d_Tr_init_12 : decode c_Tr_init 12 = .ok (.aload_n 0, 1) := by decide +kernel
theorem d_Tr_init_13 : decode c_Tr_init 13 = .ok (.bipush 11, 2) := by decide +kernel
theorem d_Tr_init_15 : decode c_Tr_init 15 = .ok (.newarray .int, 2) := by decide +kernel
theorem d_Tr_init_17 : decode c_Tr_init 17 = .ok (.putfield 15, 3) := by decide +kernel
theorem d_Tr_init_20 : decode c_Tr_init 20 = .ok (.aload_n 0, 1) := by decide +kernel
theorem d_Tr_init_21 : decode c_Tr_init 21 = .ok (.bipush 11, 2) := by decide +kernel
theorem d_Tr_init_23 : decode c_Tr_init 23 = .ok (.newarray .int, 2) := by decide +kernel
theorem d_Tr_init_25 : decode c_Tr_init 25 = .ok (.putfield 18, 3) := by decide +kernel
theorem d_Tr_init_28 : decode c_Tr_init 28 = .ok (.aload_n 0, 1) := by decide +kernel
theorem d_Tr_init_29 : decode c_Tr_init 29 = .ok (.bipush 11, 2) := by decide +kernel
theorem d_Tr_init_31 : decode c_Tr_init 31 = .ok (.newarray .int, 2) := by decide +kernel
theorem d_Tr_init_33 : decode c_Tr_init 33 = .ok (.putfield 21, 3) := by decide +kernel
theorem d_Tr_init_36 : decode c_Tr_init 36 = .ok (.aload_n 0, 1) := by decide +kernel
theorem d_Tr_init_37 : decode c_Tr_init 37 = .ok (.bipush 11, 2) := by decide +kernel
theorem d_Tr_init_39 : decode c_Tr_init 39 = .ok (.newarray .boolean, 2) := by decide +kernel
theorem d_Tr_init_41 : decode c_Tr_init 41 = .ok (.putfield 24, 3) := by decide +kernel
theorem d_Tr_init_44 : decode c_Tr_init 44 = .ok (.return_, 1) := by decide +kernel
theorem d_Tr_follow_0 : decode c_Tr_follow 0 = .ok (.aload_n 0, 1) := by decide +kernel
theorem d_Tr_follow_1 : decode c_Tr_follow 1 = .ok (.iconst 0, 1) := by decide +kernel
theorem d_Tr_follow_2 : decode c_Tr_follow 2 = .ok (.putfield 28, 3) := by decide +kernel
theorem d_Tr_follow_5 : decode c_Tr_follow 5 = .ok (.aload_n 0, 1) := by decide +kernel
theorem d_Tr_follow_6 : decode c_Tr_follow 6 = .ok (.aload_n 1, 1) := by decide +kernel
theorem d_Tr_follow_7 : decode c_Tr_follow 7 = .ok (.getfield 32, 3) := by decide +kernel
theorem d_Tr_follow_10 : decode c_Tr_follow 10 = .ok (.putfield 37, 3) := by decide +kernel
theorem d_Tr_follow_13 : decode c_Tr_follow 13 = .ok (.aload_n 0, 1) := by decide +kernel
theorem d_Tr_follow_14 : decode c_Tr_follow 14 = .ok (.aload_n 1, 1) := by decide +kernel
theorem d_Tr_follow_15 : decode c_Tr_follow 15 = .ok (.getfield 38, 3) := by decide +kernel
theorem d_Tr_follow_18 : decode c_Tr_follow 18 = .ok (.putfield 41, 3) := by decide +kernel
theorem d_Tr_follow_21 : decode c_Tr_follow 21 = .ok (.iconst 1, 1) := by decide +kernel
theorem d_Tr_follow_22 : decode c_Tr_follow 22 = .ok (.istore_n 2, 1) := by decide +kernel
theorem d_Tr_follow_23 : decode c_Tr_follow 23 = .ok (.iconst 0, 1) := by decide +kernel
theorem d_Tr_follow_24 : decode c_Tr_follow 24 = .ok (.istore_n 3, 1) := by decide +kernel
theorem d_Tr_follow_25 : decode c_Tr_follow 25 = .ok (.iconst 0, 1) := by decide +kernel
theorem d_Tr_follow_26 : decode c_Tr_follow 26 = .ok (.istore 4, 2) := by decide +kernel
theorem d_Tr_follow_28 : decode c_Tr_follow 28 = .ok (.iload 4, 2) := by decide +kernel
theorem d_Tr_follow_30 : decode c_Tr_follow 30 = .ok (.aload_n 1, 1) := by decide +kernel
theorem d_Tr_follow_31 : decode c_Tr_follow 31 = .ok (.getfield 42, 3) := by decide +kernel
theorem d_Tr_follow_34 : decode c_Tr_follow 34 = .ok (.getfield 46, 3) := by decide +kernel
theorem d_Tr_follow_37 : decode c_Tr_follow 37 = .ok (.if_icmp .ge 135, 3) := by decide +kernel
theorem d_Tr_follow_40 : decode c_Tr_follow 40 = .ok (.iload_n 2, 1) := by decide +kernel
theorem d_Tr_follow_41 : decode c_Tr_follow 41 = .ok (.istore 5, 2) := by decide +kernel
theorem d_Tr_follow_43 : decode c_Tr_follow 43 = .ok (.iload_n 3, 1) := by decide +kernel
theorem d_Tr_follow_44 : decode c_Tr_follow 44 = .ok (.istore 6, 2) := by decide +kernel
theorem d_Tr_follow_46 : decode c_Tr_follow 46 = .ok (.aload_n 1, 1) := by decide +kernel
theorem d_Tr_follow_47 : decode c_Tr_follow 47 = .ok (.getfield 42, 3) := by decide +kernel
theorem d_Tr_follow_50 : decode c_Tr_follow 50 = .ok (.iload 4, 2) := by decide +kernel
theorem d_Tr_follow_52 : decode c_Tr_follow 52 = .ok (.invokevirtual 51, 3) := by decide +kernel
theorem d_Tr_follow_55 : decode c_Tr_follow 55 = .ok (.lookupswitch 88 #[(76, 33), (82, 43), (85, 53)], 33) := by decide +kernel
theorem d_Tr_follow_88 : decode c_Tr_follow 88 = .ok (.iload 6, 2) := by decide +kernel
theorem d_Tr_follow_90 : decode c_Tr_follow 90 = .ok (.ineg, 1) := by decide +kernel
theorem d_Tr_follow_91 : decode c_Tr_follow 91 = .ok (.istore_n 2, 1) := by decide +kernel
theorem d_Tr_follow_92 : decode c_Tr_follow 92 = .ok (.iload 5, 2) := by decide +kernel
theorem d_Tr_follow_94 : decode c_Tr_follow 94 = .ok (.istore_n 3, 1) := by decide +kernel
theorem d_Tr_follow_95 : decode c_Tr_follow 95 = .ok (.goto 48, 3) := by decide +kernel
theorem d_Tr_follow_98 : decode c_Tr_follow 98 = .ok (.iload 6, 2) := by decide +kernel
theorem d_Tr_follow_100 : decode c_Tr_follow 100 = .ok (.istore_n 2, 1) := by decide +kernel
theorem d_Tr_follow_101 : decode c_Tr_follow 101 = .ok (.iload 5, 2) := by decide +kernel
theorem d_Tr_follow_103 : decode c_Tr_follow 103 = .ok (.ineg, 1) := by decide +kernel
theorem d_Tr_follow_104 : decode c_Tr_follow 104 = .ok (.istore_n 3, 1) := by decide +kernel
theorem d_Tr_follow_105 : decode c_Tr_follow 105 = .ok (.goto 38, 3) := by decide +kernel
theorem d_Tr_follow_108 : decode c_Tr_follow 108 = .ok (.iconst 3, 1) := by decide +kernel
theorem d_Tr_follow_109 : decode c_Tr_follow 109 = .ok (.aload_n 1, 1) := by decide +kernel
theorem d_Tr_follow_110 : decode c_Tr_follow 110 = .ok (.getfield 55, 3) := by decide +kernel
theorem d_Tr_follow_113 : decode c_Tr_follow 113 = .ok (.imul, 1) := by decide +kernel
theorem d_Tr_follow_114 : decode c_Tr_follow 114 = .ok (.istore 7, 2) := by decide +kernel
theorem d_Tr_follow_116 : decode c_Tr_follow 116 = .ok (.aload_n 0, 1) := by decide +kernel
theorem d_Tr_follow_117 : decode c_Tr_follow 117 = .ok (.iload 6, 2) := by decide +kernel
theorem d_Tr_follow_119 : decode c_Tr_follow 119 = .ok (.ineg, 1) := by decide +kernel
theorem d_Tr_follow_120 : decode c_Tr_follow 120 = .ok (.iload 7, 2) := by decide +kernel
theorem d_Tr_follow_122 : decode c_Tr_follow 122 = .ok (.imul, 1) := by decide +kernel
theorem d_Tr_follow_123 : decode c_Tr_follow 123 = .ok (.iload 5, 2) := by decide +kernel
theorem d_Tr_follow_125 : decode c_Tr_follow 125 = .ok (.iload 7, 2) := by decide +kernel
theorem d_Tr_follow_127 : decode c_Tr_follow 127 = .ok (.imul, 1) := by decide +kernel
theorem d_Tr_follow_128 : decode c_Tr_follow 128 = .ok (.iconst 0, 1) := by decide +kernel
theorem d_Tr_follow_129 : decode c_Tr_follow 129 = .ok (.invokevirtual 58, 3) := by decide +kernel
theorem d_Tr_follow_132 : decode c_Tr_follow 132 = .ok (.iload 5, 2) := by decide +kernel
theorem d_Tr_follow_134 : decode c_Tr_follow 134 = .ok (.ineg, 1) := by decide +kernel
theorem d_Tr_follow_135 : decode c_Tr_follow 135 = .ok (.istore_n 2, 1) := by decide +kernel
theorem d_Tr_follow_136 : decode c_Tr_follow 136 = .ok (.iload 6, 2) := by decide +kernel
theorem d_Tr_follow_138 : decode c_Tr_follow 138 = .ok (.ineg, 1) := by decide +kernel
theorem d_Tr_follow_139 : decode c_Tr_follow 139 = .ok (.istore_n 3, 1) := by decide +kernel
theorem d_Tr_follow_140 : decode c_Tr_follow 140 = .ok (.goto 3, 3) := by decide +kernel
theorem d_Tr_follow_143 : decode c_Tr_follow 143 = .ok (.aload_n 0, 1) := by decide +kernel
theorem d_Tr_follow_144 : decode c_Tr_follow 144 = .ok (.iload_n 2, 1) := by decide +kernel
theorem d_Tr_follow_145 : decode c_Tr_follow 145 = .ok (.aload_n 1, 1) := by decide +kernel
theorem d_Tr_follow_146 : decode c_Tr_follow 146 = .ok (.getfield 62, 3) := by decide +kernel
theorem d_Tr_follow_149 : decode c_Tr_follow 149 = .ok (.iload 4, 2) := by decide +kernel
theorem d_Tr_follow_151 : decode c_Tr_follow 151 = .ok (.iaload, 1) := by decide +kernel
theorem d_Tr_follow_152 : decode c_Tr_follow 152 = .ok (.imul, 1) := by decide +kernel
theorem d_Tr_follow_153 : decode c_Tr_follow 153 = .ok (.iload_n 3, 1) := by decide +kernel
theorem d_Tr_follow_154 : decode c_Tr_follow 154 = .ok (.aload_n 1, 1) := by decide +kernel
theorem d_Tr_follow_155 : decode c_Tr_follow 155 = .ok (.getfield 62, 3) := by decide +kernel
theorem d_Tr_follow_158 : decode c_Tr_follow 158 = .ok (.iload 4, 2) := by decide +kernel
theorem d_Tr_follow_160 : decode c_Tr_follow 160 = .ok (.iaload, 1) := by decide +kernel
theorem d_Tr_follow_161 : decode c_Tr_follow 161 = .ok (.imul, 1) := by decide +kernel
theorem d_Tr_follow_162 : decode c_Tr_follow 162 = .ok (.iconst 1, 1) := by decide +kernel
theorem d_Tr_follow_163 : decode c_Tr_follow 163 = .ok (.invokevirtual 58, 3) := by decide +kernel
theorem d_Tr_follow_166 : decode c_Tr_follow 166 = .ok (.iinc 4 1, 3) := by decide +kernel
theorem d_Tr_follow_169 : decode c_Tr_follow 169 = .ok (.goto (-141), 3) := by decide +kernel
theorem d_Tr_follow_172 : decode c_Tr_follow 172 = .ok (.return_, 1) := by decide +kernel
theorem d_Tr_go_0 : decode c_Tr_go 0 = .ok (.aload_n 0, 1) := by decide +kernel
theorem d_Tr_go_1 : decode c_Tr_go 1 = .ok (.getfield 28, 3) := by decide +kernel
theorem d_Tr_go_4 : decode c_Tr_go 4 = .ok (.bipush 11, 2) := by decide +kernel
theorem d_Tr_go_6 : decode c_Tr_go 6 = .ok (.if_icmp .lt 4, 3) := by decide +kernel
theorem d_Tr_go_9 : decode c_Tr_go 9 = .ok (.return_, 1) := by decide +kernel
theorem d_Tr_go_10 : decode c_Tr_go 10 = .ok (.aload_n 0, 1) := by decide +kernel
theorem d_Tr_go_11 : decode c_Tr_go 11 = .ok (.getfield 11, 3) := by decide +kernel
theorem d_Tr_go_14 : decode c_Tr_go 14 = .ok (.aload_n 0, 1) := by decide +kernel
theorem d_Tr_go_15 : decode c_Tr_go 15 = .ok (.getfield 28, 3) := by decide +kernel
theorem d_Tr_go_18 : decode c_Tr_go 18 = .ok (.aload_n 0, 1) := by decide +kernel
theorem d_Tr_go_19 : decode c_Tr_go 19 = .ok (.getfield 37, 3) := by decide +kernel
theorem d_Tr_go_22 : decode c_Tr_go 22 = .ok (.iastore, 1) := by decide +kernel
theorem d_Tr_go_23 : decode c_Tr_go 23 = .ok (.aload_n 0, 1) := by decide +kernel
theorem d_Tr_go_24 : decode c_Tr_go 24 = .ok (.getfield 15, 3) := by decide +kernel
theorem d_Tr_go_27 : decode c_Tr_go 27 = .ok (.aload_n 0, 1) := by decide +kernel
theorem d_Tr_go_28 : decode c_Tr_go 28 = .ok (.getfield 28, 3) := by decide +kernel
theorem d_Tr_go_31 : decode c_Tr_go 31 = .ok (.aload_n 0, 1) := by decide +kernel
theorem d_Tr_go_32 : decode c_Tr_go 32 = .ok (.getfield 41, 3) := by decide +kernel
theorem d_Tr_go_35 : decode c_Tr_go 35 = .ok (.iastore, 1) := by decide +kernel
theorem d_Tr_go_36 : decode c_Tr_go 36 = .ok (.aload_n 0, 1) := by decide +kernel
theorem d_Tr_go_37 : decode c_Tr_go 37 = .ok (.getfield 18, 3) := by decide +kernel
theorem d_Tr_go_40 : decode c_Tr_go 40 = .ok (.aload_n 0, 1) := by decide +kernel
theorem d_Tr_go_41 : decode c_Tr_go 41 = .ok (.getfield 28, 3) := by decide +kernel
theorem d_Tr_go_44 : decode c_Tr_go 44 = .ok (.iload_n 1, 1) := by decide +kernel
theorem d_Tr_go_45 : decode c_Tr_go 45 = .ok (.iastore, 1) := by decide +kernel
theorem d_Tr_go_46 : decode c_Tr_go 46 = .ok (.aload_n 0, 1) := by decide +kernel
theorem d_Tr_go_47 : decode c_Tr_go 47 = .ok (.getfield 21, 3) := by decide +kernel
theorem d_Tr_go_50 : decode c_Tr_go 50 = .ok (.aload_n 0, 1) := by decide +kernel
theorem d_Tr_go_51 : decode c_Tr_go 51 = .ok (.getfield 28, 3) := by decide +kernel
theorem d_Tr_go_54 : decode c_Tr_go 54 = .ok (.iload_n 2, 1) := by decide +kernel
theorem d_Tr_go_55 : decode c_Tr_go 55 = .ok (.iastore, 1) := by decide +kernel
theorem d_Tr_go_56 : decode c_Tr_go 56 = .ok (.aload_n 0, 1) := by decide +kernel
theorem d_Tr_go_57 : decode c_Tr_go 57 = .ok (.getfield 24, 3) := by decide +kernel
theorem d_Tr_go_60 : decode c_Tr_go 60 = .ok (.aload_n 0, 1) := by decide +kernel
theorem d_Tr_go_61 : decode c_Tr_go 61 = .ok (.getfield 28, 3) := by decide +kernel
theorem d_Tr_go_64 : decode c_Tr_go 64 = .ok (.iload_n 3, 1) := by decide +kernel
theorem d_Tr_go_65 : decode c_Tr_go 65 = .ok (.bastore, 1) := by decide +kernel
theorem d_Tr_go_66 : decode c_Tr_go 66 = .ok (.aload_n 0, 1) := by decide +kernel
theorem d_Tr_go_67 : decode c_Tr_go 67 = .ok (.dup, 1) := by decide +kernel
theorem d_Tr_go_68 : decode c_Tr_go 68 = .ok (.getfield 37, 3) := by decide +kernel
theorem d_Tr_go_71 : decode c_Tr_go 71 = .ok (.iload_n 1, 1) := by decide +kernel
theorem d_Tr_go_72 : decode c_Tr_go 72 = .ok (.iadd, 1) := by decide +kernel
theorem d_Tr_go_73 : decode c_Tr_go 73 = .ok (.putfield 37, 3) := by decide +kernel
theorem d_Tr_go_76 : decode c_Tr_go 76 = .ok (.aload_n 0, 1) := by decide +kernel
theorem d_Tr_go_77 : decode c_Tr_go 77 = .ok (.dup, 1) := by decide +kernel
theorem d_Tr_go_78 : decode c_Tr_go 78 = .ok (.getfield 41, 3) := by decide +kernel
theorem d_Tr_go_81 : decode c_Tr_go 81 = .ok (.iload_n 2, 1) := by decide +kernel
theorem d_Tr_go_82 : decode c_Tr_go 82 = .ok (.iadd, 1) := by decide +kernel
theorem d_Tr_go_83 : decode c_Tr_go 83 = .ok (.putfield 41, 3) := by decide +kernel
theorem d_Tr_go_86 : decode c_Tr_go 86 = .ok (.aload_n 0, 1) := by decide +kernel
theorem d_Tr_go_87 : decode c_Tr_go 87 = .ok (.dup, 1) := by decide +kernel
theorem d_Tr_go_88 : decode c_Tr_go 88 = .ok (.getfield 28, 3) := by decide +kernel
theorem d_Tr_go_91 : decode c_Tr_go 91 = .ok (.iconst 1, 1) := by decide +kernel
theorem d_Tr_go_92 : decode c_Tr_go 92 = .ok (.iadd, 1) := by decide +kernel
theorem d_Tr_go_93 : decode c_Tr_go 93 = .ok (.putfield 28, 3) := by decide +kernel
theorem d_Tr_go_96 : decode c_Tr_go 96 = .ok (.return_, 1) := by decide +kernel
theorem d_Tr_leastSquareTo_0 : decode c_Tr_leastSquareTo 0 = .ok (.ldc2_w 64, 3) := by decide +kernel
theorem d_Tr_leastSquareTo_3 : decode c_Tr_leastSquareTo 3 = .ok (.lstore_n 2, 1) := by decide +kernel
theorem d_Tr_leastSquareTo_4 : decode c_Tr_leastSquareTo 4 = .ok (.iconst 0, 1) := by decide +kernel
theorem d_Tr_leastSquareTo_5 : decode c_Tr_leastSquareTo 5 = .ok (.istore 4, 2) := by decide +kernel
theorem d_Tr_leastSquareTo_7 : decode c_Tr_leastSquareTo 7 = .ok (.iload 4, 2) := by decide +kernel
theorem d_Tr_leastSquareTo_9 : decode c_Tr_leastSquareTo 9 = .ok (.aload_n 0, 1) := by decide +kernel
theorem d_Tr_leastSquareTo_10 : decode c_Tr_leastSquareTo 10 = .ok (.getfield 28, 3) := by decide +kernel
theorem d_Tr_leastSquareTo_13 : decode c_Tr_leastSquareTo 13 = .ok (.if_icmp .ge 131, 3) := by decide +kernel
theorem d_Tr_leastSquareTo_16 : decode c_Tr_leastSquareTo 16 = .ok (.iconst 0, 1) := by decide +kernel
theorem d_Tr_leastSquareTo_17 : decode c_Tr_leastSquareTo 17 = .ok (.istore 5, 2) := by decide +kernel
theorem d_Tr_leastSquareTo_19 : decode c_Tr_leastSquareTo 19 = .ok (.iload 5, 2) := by decide +kernel
theorem d_Tr_leastSquareTo_21 : decode c_Tr_leastSquareTo 21 = .ok (.aload_n 1, 1) := by decide +kernel
theorem d_Tr_leastSquareTo_22 : decode c_Tr_leastSquareTo 22 = .ok (.getfield 28, 3) := by decide +kernel
theorem d_Tr_leastSquareTo_25 : decode c_Tr_leastSquareTo 25 = .ok (.if_icmp .ge 113, 3) := by decide +kernel
theorem d_Tr_leastSquareTo_28 : decode c_Tr_leastSquareTo 28 = .ok (.aload_n 0, 1) := by decide +kernel
theorem d_Tr_leastSquareTo_29 : decode c_Tr_leastSquareTo 29 = .ok (.getfield 24, 3) := by decide +kernel
theorem d_Tr_leastSquareTo_32 : decode c_Tr_leastSquareTo 32 = .ok (.iload 4, 2) := by decide +kernel
theorem d_Tr_leastSquareTo_34 : decode c_Tr_leastSquareTo 34 = .ok (.baload, 1) := by decide +kernel
theorem d_Tr_leastSquareTo_35 : decode c_Tr_leastSquareTo 35 = .ok (.ifCond .eq 97, 3) := by decide +kernel
theorem d_Tr_leastSquareTo_38 : decode c_Tr_leastSquareTo 38 = .ok (.aload_n 1, 1) := by decide +kernel
theorem d_Tr_leastSquareTo_39 : decode c_Tr_leastSquareTo 39 = .ok (.getfield 24, 3) := by decide +kernel
theorem d_Tr_leastSquareTo_42 : decode c_Tr_leastSquareTo 42 = .ok (.iload 5, 2) := by decide +kernel
theorem d_Tr_leastSquareTo_44 : decode c_Tr_leastSquareTo 44 = .ok (.baload, 1) := by decide +kernel
theorem d_Tr_leastSquareTo_45 : decode c_Tr_leastSquareTo 45 = .ok (.ifCond .eq 87, 3) := by decide +kernel
theorem d_Tr_leastSquareTo_48 : decode c_Tr_leastSquareTo 48 = .ok (.aload_n 0, 1) := by decide +kernel
theorem d_Tr_leastSquareTo_49 : decode c_Tr_leastSquareTo 49 = .ok (.getfield 11, 3) := by decide +kernel
theorem d_Tr_leastSquareTo_52 : decode c_Tr_leastSquareTo 52 = .ok (.iload 4, 2) := by decide +kernel
theorem d_Tr_leastSquareTo_54 : decode c_Tr_leastSquareTo 54 = .ok (.iaload, 1) := by decide +kernel
theorem d_Tr_leastSquareTo_55 : decode c_Tr_leastSquareTo 55 = .ok (.aload_n 0, 1) := by decide +kernel
theorem d_Tr_leastSquareTo_56 : decode c_Tr_leastSquareTo 56 = .ok (.getfield 18, 3) := by decide +kernel
theorem d_Tr_leastSquareTo_59 : decode c_Tr_leastSquareTo 59 = .ok (.iload 4, 2) := by decide +kernel
theorem d_Tr_leastSquareTo_61 : decode c_Tr_leastSquareTo 61 = .ok (.iaload, 1) := by decide +kernel
theorem d_Tr_leastSquareTo_62 : decode c_Tr_leastSquareTo 62 = .ok (.aload_n 1, 1) := by decide +kernel
theorem d_Tr_leastSquareTo_63 : decode c_Tr_leastSquareTo 63 = .ok (.getfield 11, 3) := by decide +kernel
theorem d_Tr_leastSquareTo_66 : decode c_Tr_leastSquareTo 66 = .ok (.iload 5, 2) := by decide +kernel
theorem d_Tr_leastSquareTo_68 : decode c_Tr_leastSquareTo 68 = .ok (.iaload, 1) := by decide +kernel
theorem d_Tr_leastSquareTo_69 : decode c_Tr_leastSquareTo 69 = .ok (.aload_n 1, 1) := by decide +kernel
theorem d_Tr_leastSquareTo_70 : decode c_Tr_leastSquareTo 70 = .ok (.getfield 18, 3) := by decide +kernel
theorem d_Tr_leastSquareTo_73 : decode c_Tr_leastSquareTo 73 = .ok (.iload 5, 2) := by decide +kernel
theorem d_Tr_leastSquareTo_75 : decode c_Tr_leastSquareTo 75 = .ok (.iaload, 1) := by decide +kernel
theorem d_Tr_leastSquareTo_76 : decode c_Tr_leastSquareTo 76 = .ok (.invokestatic 66, 3) := by decide +kernel
theorem d_Tr_leastSquareTo_79 : decode c_Tr_leastSquareTo 79 = .ok (.i2l, 1) := by decide +kernel
theorem d_Tr_leastSquareTo_80 : decode c_Tr_leastSquareTo 80 = .ok (.lstore 6, 2) := by decide +kernel
theorem d_Tr_leastSquareTo_82 : decode c_Tr_leastSquareTo 82 = .ok (.aload_n 0, 1) := by decide +kernel
theorem d_Tr_leastSquareTo_83 : decode c_Tr_leastSquareTo 83 = .ok (.getfield 15, 3) := by decide +kernel
theorem d_Tr_leastSquareTo_86 : decode c_Tr_leastSquareTo 86 = .ok (.iload 4, 2) := by decide +kernel
theorem d_Tr_leastSquareTo_88 : decode c_Tr_leastSquareTo 88 = .ok (.iaload, 1) := by decide +kernel
theorem d_Tr_leastSquareTo_89 : decode c_Tr_leastSquareTo 89 = .ok (.aload_n 0, 1) := by decide +kernel
theorem d_Tr_leastSquareTo_90 : decode c_Tr_leastSquareTo 90 = .ok (.getfield 21, 3) := by decide +kernel
theorem d_Tr_leastSquareTo_93 : decode c_Tr_leastSquareTo 93 = .ok (.iload 4, 2) := by decide +kernel
theorem d_Tr_leastSquareTo_95 : decode c_Tr_leastSquareTo 95 = .ok (.iaload, 1) := by decide +kernel
theorem d_Tr_leastSquareTo_96 : decode c_Tr_leastSquareTo 96 = .ok (.aload_n 1, 1) := by decide +kernel
theorem d_Tr_leastSquareTo_97 : decode c_Tr_leastSquareTo 97 = .ok (.getfield 15, 3) := by decide +kernel
theorem d_Tr_leastSquareTo_100 : decode c_Tr_leastSquareTo 100 = .ok (.iload 5, 2) := by decide +kernel
theorem d_Tr_leastSquareTo_102 : decode c_Tr_leastSquareTo 102 = .ok (.iaload, 1) := by decide +kernel
theorem d_Tr_leastSquareTo_103 : decode c_Tr_leastSquareTo 103 = .ok (.aload_n 1, 1) := by decide +kernel
theorem d_Tr_leastSquareTo_104 : decode c_Tr_leastSquareTo 104 = .ok (.getfield 21, 3) := by decide +kernel
theorem d_Tr_leastSquareTo_107 : decode c_Tr_leastSquareTo 107 = .ok (.iload 5, 2) := by decide +kernel
theorem d_Tr_leastSquareTo_109 : decode c_Tr_leastSquareTo 109 = .ok (.iaload, 1) := by decide +kernel
theorem d_Tr_leastSquareTo_110 : decode c_Tr_leastSquareTo 110 = .ok (.invokestatic 66, 3) := by decide +kernel
theorem d_Tr_leastSquareTo_113 : decode c_Tr_leastSquareTo 113 = .ok (.i2l, 1) := by decide +kernel
theorem d_Tr_leastSquareTo_114 : decode c_Tr_leastSquareTo 114 = .ok (.lstore 8, 2) := by decide +kernel
theorem d_Tr_leastSquareTo_116 : decode c_Tr_leastSquareTo 116 = .ok (.lload_n 2, 1) := by decide +kernel
theorem d_Tr_leastSquareTo_117 : decode c_Tr_leastSquareTo 117 = .ok (.lload 6, 2) := by decide +kernel
theorem d_Tr_leastSquareTo_119 : decode c_Tr_leastSquareTo 119 = .ok (.lload 6, 2) := by decide +kernel
theorem d_Tr_leastSquareTo_121 : decode c_Tr_leastSquareTo 121 = .ok (.lmul, 1) := by decide +kernel
theorem d_Tr_leastSquareTo_122 : decode c_Tr_leastSquareTo 122 = .ok (.lload 8, 2) := by decide +kernel
theorem d_Tr_leastSquareTo_124 : decode c_Tr_leastSquareTo 124 = .ok (.lload 8, 2) := by decide +kernel
theorem d_Tr_leastSquareTo_126 : decode c_Tr_leastSquareTo 126 = .ok (.lmul, 1) := by decide +kernel
theorem d_Tr_leastSquareTo_127 : decode c_Tr_leastSquareTo 127 = .ok (.ladd, 1) := by decide +kernel
theorem d_Tr_leastSquareTo_128 : decode c_Tr_leastSquareTo 128 = .ok (.invokestatic 70, 3) := by decide +kernel
theorem d_Tr_leastSquareTo_131 : decode c_Tr_leastSquareTo 131 = .ok (.lstore_n 2, 1) := by decide +kernel
theorem d_Tr_leastSquareTo_132 : decode c_Tr_leastSquareTo 132 = .ok (.iinc 5 1, 3) := by decide +kernel
theorem d_Tr_leastSquareTo_135 : decode c_Tr_leastSquareTo 135 = .ok (.goto (-116), 3) := by decide +kernel
theorem d_Tr_leastSquareTo_138 : decode c_Tr_leastSquareTo 138 = .ok (.iinc 4 1, 3) := by decide +kernel
theorem d_Tr_leastSquareTo_141 : decode c_Tr_leastSquareTo 141 = .ok (.goto (-134), 3) := by decide +kernel
theorem d_Tr_leastSquareTo_144 : decode c_Tr_leastSquareTo 144 = .ok (.lload_n 2, 1) := by decide +kernel
theorem d_Tr_leastSquareTo_145 : decode c_Tr_leastSquareTo 145 = .ok (.lreturn, 1) := by decide +kernel
theorem d_Tr_gap_0 : decode c_Tr_gap 0 = .ok (.iload_n 2, 1) := by decide +kernel
theorem d_Tr_gap_1 : decode c_Tr_gap 1 = .ok (.iload_n 2, 1) := by decide +kernel
theorem d_Tr_gap_2 : decode c_Tr_gap 2 = .ok (.iload_n 3, 1) := by decide +kernel
theorem d_Tr_gap_3 : decode c_Tr_gap 3 = .ok (.iadd, 1) := by decide +kernel
theorem d_Tr_gap_4 : decode c_Tr_gap 4 = .ok (.invokestatic 76, 3) := by decide +kernel
theorem d_Tr_gap_7 : decode c_Tr_gap 7 = .ok (.iload_n 0, 1) := by decide +kernel
theorem d_Tr_gap_8 : decode c_Tr_gap 8 = .ok (.iload_n 0, 1) := by decide +kernel
theorem d_Tr_gap_9 : decode c_Tr_gap 9 = .ok (.iload_n 1, 1) := by decide +kernel
theorem d_Tr_gap_10 : decode c_Tr_gap 10 = .ok (.iadd, 1) := by decide +kernel
theorem d_Tr_gap_11 : decode c_Tr_gap 11 = .ok (.invokestatic 79, 3) := by decide +kernel
theorem d_Tr_gap_14 : decode c_Tr_gap 14 = .ok (.isub, 1) := by decide +kernel
theorem d_Tr_gap_15 : decode c_Tr_gap 15 = .ok (.istore 4, 2) := by decide +kernel
theorem d_Tr_gap_17 : decode c_Tr_gap 17 = .ok (.iload_n 0, 1) := by decide +kernel
theorem d_Tr_gap_18 : decode c_Tr_gap 18 = .ok (.iload_n 0, 1) := by decide +kernel
theorem d_Tr_gap_19 : decode c_Tr_gap 19 = .ok (.iload_n 1, 1) := by decide +kernel
theorem d_Tr_gap_20 : decode c_Tr_gap 20 = .ok (.iadd, 1) := by decide +kernel
theorem d_Tr_gap_21 : decode c_Tr_gap 21 = .ok (.invokestatic 76, 3) := by decide +kernel
theorem d_Tr_gap_24 : decode c_Tr_gap 24 = .ok (.iload_n 2, 1) := by decide +kernel
theorem d_Tr_gap_25 : decode c_Tr_gap 25 = .ok (.iload_n 2, 1) := by decide +kernel
theorem d_Tr_gap_26 : decode c_Tr_gap 26 = .ok (.iload_n 3, 1) := by decide +kernel
theorem d_Tr_gap_27 : decode c_Tr_gap 27 = .ok (.iadd, 1) := by decide +kernel
theorem d_Tr_gap_28 : decode c_Tr_gap 28 = .ok (.invokestatic 79, 3) := by decide +kernel
theorem d_Tr_gap_31 : decode c_Tr_gap 31 = .ok (.isub, 1) := by decide +kernel
theorem d_Tr_gap_32 : decode c_Tr_gap 32 = .ok (.istore 5, 2) := by decide +kernel
theorem d_Tr_gap_34 : decode c_Tr_gap 34 = .ok (.iconst 0, 1) := by decide +kernel
theorem d_Tr_gap_35 : decode c_Tr_gap 35 = .ok (.iload 4, 2) := by decide +kernel
theorem d_Tr_gap_37 : decode c_Tr_gap 37 = .ok (.iload 5, 2) := by decide +kernel
theorem d_Tr_gap_39 : decode c_Tr_gap 39 = .ok (.invokestatic 79, 3) := by decide +kernel
theorem d_Tr_gap_42 : decode c_Tr_gap 42 = .ok (.invokestatic 79, 3) := by decide +kernel
theorem d_Tr_gap_45 : decode c_Tr_gap 45 = .ok (.ireturn, 1) := by decide +kernel
end
section
theorem d_Bc_init_0 : decode c_Bc_init 0 = .ok (.aload_n 0, 1) := by decide +kernel
theorem d_Bc_init_1 : decode c_Bc_init 1 = .ok (.invokespecial 3, 3) := by decide +kernel
theorem d_Bc_init_4 : decode c_Bc_init 4 = .ok (.aload_n 0, 1) := by decide +kernel
theorem d_Bc_init_5 : decode c_Bc_init 5 = .ok (.new 9, 3) := by decide +kernel
theorem d_Bc_init_8 : decode c_Bc_init 8 = .ok (.dup, 1) := by decide +kernel
theorem d_Bc_init_9 : decode c_Bc_init 9 = .ok (.invokespecial 11, 3) := by decide +kernel
theorem d_Bc_init_12 : decode c_Bc_init 12 = .ok (.putfield 12, 3) := by decide +kernel
theorem d_Bc_init_15 : decode c_Bc_init 15 = .ok (.aload_n 0, 1) := by decide +kernel
theorem d_Bc_init_16 : decode c_Bc_init 16 = .ok (.bipush 10, 2) := by decide +kernel
theorem d_Bc_init_18 : decode c_Bc_init 18 = .ok (.anewarray 16, 3) := by decide +kernel
theorem d_Bc_init_21 : decode c_Bc_init 21 = .ok (.putfield 18, 3) := by decide +kernel
theorem d_Bc_init_24 : decode c_Bc_init 24 = .ok (.aload_n 0, 1) := by decide +kernel
theorem d_Bc_init_25 : decode c_Bc_init 25 = .ok (.bipush 12, 2) := by decide +kernel
theorem d_Bc_init_27 : decode c_Bc_init 27 = .ok (.anewarray 22, 3) := by decide +kernel
theorem d_Bc_init_30 : decode c_Bc_init 30 = .ok (.putfield 24, 3) := by decide +kernel
theorem d_Bc_init_33 : decode c_Bc_init 33 = .ok (.aload_n 0, 1) := by decide +kernel
theorem d_Bc_init_34 : decode c_Bc_init 34 = .ok (.bipush 37, 2) := by decide +kernel
theorem d_Bc_init_36 : decode c_Bc_init 36 = .ok (.newarray .int, 2) := by decide +kernel
theorem d_Bc_init_38 : decode c_Bc_init 38 = .ok (.putfield 28, 3) := by decide +kernel
theorem d_Bc_init_41 : decode c_Bc_init 41 = .ok (.aload_n 0, 1) := by decide +kernel
theorem d_Bc_init_42 : decode c_Bc_init 42 = .ok (.bipush 37, 2) := by decide +kernel
theorem d_Bc_init_44 : decode c_Bc_init 44 = .ok (.anewarray 32, 3) := by decide +kernel
theorem d_Bc_init_47 : decode c_Bc_init 47 = .ok (.putfield 34, 3) := by decide +kernel
theorem d_Bc_init_50 : decode c_Bc_init 50 = .ok (.aload_n 0, 1) := by decide +kernel
theorem d_Bc_init_51 : decode c_Bc_init 51 = .ok (.new 38, 3) := by decide +kernel
theorem d_Bc_init_54 : decode c_Bc_init 54 = .ok (.dup, 1) := by decide +kernel
theorem d_Bc_init_55 : decode c_Bc_init 55 = .ok (.invokespecial 40, 3) := by decide +kernel
theorem d_Bc_init_58 : decode c_Bc_init 58 = .ok (.putfield 41, 3) := by decide +kernel
theorem d_Bc_init_61 : decode c_Bc_init 61 = .ok (.aload_n 0, 1) := by decide +kernel
theorem d_Bc_init_62 : decode c_Bc_init 62 = .ok (.new 45, 3) := by decide +kernel
theorem d_Bc_init_65 : decode c_Bc_init 65 = .ok (.dup, 1) := by decide +kernel
theorem d_Bc_init_66 : decode c_Bc_init 66 = .ok (.invokespecial 47, 3) := by decide +kernel
theorem d_Bc_init_69 : decode c_Bc_init 69 = .ok (.putfield 48, 3) := by decide +kernel
theorem d_Bc_init_72 : decode c_Bc_init 72 = .ok (.aload_n 0, 1) := by decide +kernel
theorem d_Bc_init_73 : decode c_Bc_init 73 = .ok (.new 52, 3) := by decide +kernel
theorem d_Bc_init_76 : decode c_Bc_init 76 = .ok (.dup, 1) := by decide +kernel
theorem d_Bc_init_77 : decode c_Bc_init 77 = .ok (.invokespecial 54, 3) := by decide +kernel
theorem d_Bc_init_80 : decode c_Bc_init 80 = .ok (.putfield 55, 3) := by decide +kernel
theorem d_Bc_init_83 : decode c_Bc_init 83 = .ok (.aload_n 0, 1) := by decide +kernel
theorem d_Bc_init_84 : decode c_Bc_init 84 = .ok (.new 59, 3) := by decide +kernel
theorem d_Bc_init_87 : decode c_Bc_init 87 = .ok (.dup, 1) := by decide +kernel
theorem d_Bc_init_88 : decode c_Bc_init 88 = .ok (.invokespecial 61, 3) := by decide +kernel
theorem d_Bc_init_91 : decode c_Bc_init 91 = .ok (.putfield 62, 3) := by decide +kernel
theorem d_Bc_init_94 : decode c_Bc_init 94 = .ok (.aload_n 0, 1) := by decide +kernel
theorem d_Bc_init_95 : decode c_Bc_init 95 = .ok (.new 59, 3) := by decide +kernel
theorem d_Bc_init_98 : decode c_Bc_init 98 = .ok (.dup, 1) := by decide +kernel
theorem d_Bc_init_99 : decode c_Bc_init 99 = .ok (.invokespecial 61, 3) := by decide +kernel
theorem d_Bc_init_102 : decode c_Bc_init 102 = .ok (.putfield 66, 3) := by decide +kernel
theorem d_Bc_init_105 : decode c_Bc_init 105 = .ok (.aload_n 0, 1) := by decide +kernel
theorem d_Bc_init_106 : decode c_Bc_init 106 = .ok (.iconst 0, 1) := by decide +kernel
theorem d_Bc_init_107 : decode c_Bc_init 107 = .ok (.putfield 69, 3) := by decide +kernel
theorem d_Bc_init_110 : decode c_Bc_init 110 = .ok (.aload_n 0, 1) := by decide +kernel
theorem d_Bc_init_111 : decode c_Bc_init 111 = .ok (.iconst 0, 1) := by decide +kernel
theorem d_Bc_init_112 : decode c_Bc_init 112 = .ok (.putfield 73, 3) := by decide +kernel
theorem d_Bc_init_115 : decode c_Bc_init 115 = .ok (.return_, 1) := by decide +kernel
theorem d_Bc_unit_0 : decode c_Bc_unit 0 = .ok (.aload_n 0, 1) := by decide +kernel
theorem d_Bc_unit_1 : decode c_Bc_unit 1 = .ok (.getfield 12, 3) := by decide +kernel
theorem d_Bc_unit_4 : decode c_Bc_unit 4 = .ok (.iload_n 1, 1) := by decide +kernel
theorem d_Bc_unit_5 : decode c_Bc_unit 5 = .ok (.invokevirtual 76, 3) := by decide +kernel
theorem d_Bc_unit_8 : decode c_Bc_unit 8 = .ok (.ireturn, 1) := by decide +kernel
theorem d_Bc_shape_0 : decode c_Bc_shape 0 = .ok (.aload_n 0, 1) := by decide +kernel
theorem d_Bc_shape_1 : decode c_Bc_shape 1 = .ok (.getfield 12, 3) := by decide +kernel
theorem d_Bc_shape_4 : decode c_Bc_shape 4 = .ok (.invokevirtual 80, 3) := by decide +kernel
theorem d_Bc_shape_7 : decode c_Bc_shape 7 = .ok (.istore_n 1, 1) := by decide +kernel
theorem d_Bc_shape_8 : decode c_Bc_shape 8 = .ok (.aload_n 0, 1) := by decide +kernel
theorem d_Bc_shape_9 : decode c_Bc_shape 9 = .ok (.getfield 12, 3) := by decide +kernel
theorem d_Bc_shape_12 : decode c_Bc_shape 12 = .ok (.getfield 84, 3) := by decide +kernel
theorem d_Bc_shape_15 : decode c_Bc_shape 15 = .ok (.istore_n 2, 1) := by decide +kernel
theorem d_Bc_shape_16 : decode c_Bc_shape 16 = .ok (.iload_n 1, 1) := by decide +kernel
theorem d_Bc_shape_17 : decode c_Bc_shape 17 = .ok (.ifCond .ge 22, 3) := by decide +kernel
theorem d_Bc_shape_20 : decode c_Bc_shape 20 = .ok (.aload_n 0, 1) := by decide +kernel
theorem d_Bc_shape_21 : decode c_Bc_shape 21 = .ok (.getfield 69, 3) := by decide +kernel
theorem d_Bc_shape_24 : decode c_Bc_shape 24 = .ok (.bipush 10, 2) := by decide +kernel
theorem d_Bc_shape_26 : decode c_Bc_shape 26 = .ok (.if_icmp .ge 13, 3) := by decide +kernel
theorem d_Bc_shape_29 : decode c_Bc_shape 29 = .ok (.aload_n 0, 1) := by decide +kernel
theorem d_Bc_shape_30 : decode c_Bc_shape 30 = .ok (.getfield 12, 3) := by decide +kernel
theorem d_Bc_shape_33 : decode c_Bc_shape 33 = .ok (.invokevirtual 87, 3) := by decide +kernel
theorem d_Bc_shape_36 : decode c_Bc_shape 36 = .ok (.goto 4, 3) := by decide +kernel
theorem d_Bc_shape_39 : decode c_Bc_shape 39 = .ok (.aconst_null, 1) := by decide +kernel
theorem d_Bc_shape_40 : decode c_Bc_shape 40 = .ok (.astore_n 3, 1) := by decide +kernel
theorem d_Bc_shape_41 : decode c_Bc_shape 41 = .ok (.aload_n 0, 1) := by decide +kernel
theorem d_Bc_shape_42 : decode c_Bc_shape 42 = .ok (.getfield 12, 3) := by decide +kernel
theorem d_Bc_shape_45 : decode c_Bc_shape 45 = .ok (.iconst 0, 1) := by decide +kernel
theorem d_Bc_shape_46 : decode c_Bc_shape 46 = .ok (.putfield 84, 3) := by decide +kernel
theorem d_Bc_shape_49 : decode c_Bc_shape 49 = .ok (.aload_n 3, 1) := by decide +kernel
theorem d_Bc_shape_50 : decode c_Bc_shape 50 = .ok (.ifnonnull 15, 3) := by decide +kernel
theorem d_Bc_shape_53 : decode c_Bc_shape 53 = .ok (.iconst (-1), 1) := by decide +kernel
theorem d_Bc_shape_54 : decode c_Bc_shape 54 = .ok (.iload_n 1, 1) := by decide +kernel
theorem d_Bc_shape_55 : decode c_Bc_shape 55 = .ok (.ifCond .ge 7, 3) := by decide +kernel
theorem d_Bc_shape_58 : decode c_Bc_shape 58 = .ok (.iload_n 2, 1) := by decide +kernel
theorem d_Bc_shape_59 : decode c_Bc_shape 59 = .ok (.goto 4, 3) := by decide +kernel
theorem d_Bc_shape_62 : decode c_Bc_shape 62 = .ok (.iload_n 1, 1) := by decide +kernel
theorem d_Bc_shape_63 : decode c_Bc_shape 63 = .ok (.isub, 1) := by decide +kernel
theorem d_Bc_shape_64 : decode c_Bc_shape 64 = .ok (.ireturn, 1) := by decide +kernel
theorem d_Bc_shape_65 : decode c_Bc_shape 65 = .ok (.aload_n 0, 1) := by decide +kernel
theorem d_Bc_shape_66 : decode c_Bc_shape 66 = .ok (.getfield 18, 3) := by decide +kernel
theorem d_Bc_shape_69 : decode c_Bc_shape 69 = .ok (.aload_n 0, 1) := by decide +kernel
theorem d_Bc_shape_70 : decode c_Bc_shape 70 = .ok (.getfield 69, 3) := by decide +kernel
theorem d_Bc_shape_73 : decode c_Bc_shape 73 = .ok (.aload_n 3, 1) := by decide +kernel
theorem d_Bc_shape_74 : decode c_Bc_shape 74 = .ok (.aastore, 1) := by decide +kernel
theorem d_Bc_shape_75 : decode c_Bc_shape 75 = .ok (.aload_n 0, 1) := by decide +kernel
theorem d_Bc_shape_76 : decode c_Bc_shape 76 = .ok (.dup, 1) := by decide +kernel
theorem d_Bc_shape_77 : decode c_Bc_shape 77 = .ok (.getfield 69, 3) := by decide +kernel
theorem d_Bc_shape_80 : decode c_Bc_shape 80 = .ok (.iconst 1, 1) := by decide +kernel
theorem d_Bc_shape_81 : decode c_Bc_shape 81 = .ok (.iadd, 1) := by decide +kernel
theorem d_Bc_shape_82 : decode c_Bc_shape 82 = .ok (.putfield 69, 3) := by decide +kernel
theorem d_Bc_shape_85 : decode c_Bc_shape 85 = .ok (.aload_n 0, 1) := by decide +kernel
theorem d_Bc_shape_86 : decode c_Bc_shape 86 = .ok (.getfield 69, 3) := by decide +kernel
theorem d_Bc_shape_89 : decode c_Bc_shape 89 = .ok (.iconst 1, 1) := by decide +kernel
theorem d_Bc_shape_90 : decode c_Bc_shape 90 = .ok (.isub, 1) := by decide +kernel
theorem d_Bc_shape_91 : decode c_Bc_shape 91 = .ok (.ireturn, 1) := by decide +kernel
theorem d_Bc_rule_0 : decode c_Bc_rule 0 = .ok (.iload_n 1, 1) := by decide +kernel
theorem d_Bc_rule_1 : decode c_Bc_rule 1 = .ok (.invokestatic 91, 3) := by decide +kernel
theorem d_Bc_rule_4 : decode c_Bc_rule 4 = .ok (.ifCond .eq 17, 3) := by decide +kernel
theorem d_Bc_rule_7 : decode c_Bc_rule 7 = .ok (.lload_n 2, 1) := by decide +kernel
theorem d_Bc_rule_8 : decode c_Bc_rule 8 = .ok (.lconst 0, 1) := by decide +kernel
theorem d_Bc_rule_9 : decode c_Bc_rule 9 = .ok (.lcmp, 1) := by decide +kernel
theorem d_Bc_rule_10 : decode c_Bc_rule 10 = .ok (.ifCond .lt 11, 3) := by decide +kernel
theorem d_Bc_rule_13 : decode c_Bc_rule 13 = .ok (.lload_n 2, 1) := by decide +kernel
theorem d_Bc_rule_14 : decode c_Bc_rule 14 = .ok (.ldc2_w 94, 3) := by decide +kernel
theorem d_Bc_rule_17 : decode c_Bc_rule 17 = .ok (.lcmp, 1) := by decide +kernel
theorem d_Bc_rule_18 : decode c_Bc_rule 18 = .ok (.ifCond .le 5, 3) := by decide +kernel
theorem d_Bc_rule_21 : decode c_Bc_rule 21 = .ok (.iconst 0, 1) := by decide +kernel
theorem d_Bc_rule_22 : decode c_Bc_rule 22 = .ok (.ireturn, 1) := by decide +kernel
theorem d_Bc_rule_23 : decode c_Bc_rule 23 = .ok (.aload_n 0, 1) := by decide +kernel
theorem d_Bc_rule_24 : decode c_Bc_rule 24 = .ok (.getfield 28, 3) := by decide +kernel
theorem d_Bc_rule_27 : decode c_Bc_rule 27 = .ok (.iload_n 1, 1) := by decide +kernel
theorem d_Bc_rule_28 : decode c_Bc_rule 28 = .ok (.iconst 4, 1) := by decide +kernel
theorem d_Bc_rule_29 : decode c_Bc_rule 29 = .ok (.isub, 1) := by decide +kernel
theorem d_Bc_rule_30 : decode c_Bc_rule 30 = .ok (.lload_n 2, 1) := by decide +kernel
theorem d_Bc_rule_31 : decode c_Bc_rule 31 = .ok (.l2i, 1) := by decide +kernel
theorem d_Bc_rule_32 : decode c_Bc_rule 32 = .ok (.iastore, 1) := by decide +kernel
theorem d_Bc_rule_33 : decode c_Bc_rule 33 = .ok (.aload_n 0, 1) := by decide +kernel
theorem d_Bc_rule_34 : decode c_Bc_rule 34 = .ok (.getfield 41, 3) := by decide +kernel
theorem d_Bc_rule_37 : decode c_Bc_rule 37 = .ok (.invokevirtual 96, 3) := by decide +kernel
theorem d_Bc_rule_40 : decode c_Bc_rule 40 = .ok (.iconst 1, 1) := by decide +kernel
theorem d_Bc_rule_41 : decode c_Bc_rule 41 = .ok (.ireturn, 1) := by decide +kernel
theorem d_Bc_bar_0 : decode c_Bc_bar 0 = .ok (.iload_n 1, 1) := by decide +kernel
theorem d_Bc_bar_1 : decode c_Bc_bar 1 = .ok (.ifCond .lt 18, 3) := by decide +kernel
theorem d_Bc_bar_4 : decode c_Bc_bar 4 = .ok (.iload_n 1, 1) := by decide +kernel
theorem d_Bc_bar_5 : decode c_Bc_bar 5 = .ok (.aload_n 0, 1) := by decide +kernel
theorem d_Bc_bar_6 : decode c_Bc_bar 6 = .ok (.getfield 69, 3) := by decide +kernel
theorem d_Bc_bar_9 : decode c_Bc_bar 9 = .ok (.if_icmp .ge 10, 3) := by decide +kernel
theorem d_Bc_bar_12 : decode c_Bc_bar 12 = .ok (.iload_n 2, 1) := by decide +kernel
theorem d_Bc_bar_13 : decode c_Bc_bar 13 = .ok (.invokestatic 91, 3) := by decide +kernel
theorem d_Bc_bar_16 : decode c_Bc_bar 16 = .ok (.ifCond .ne 5, 3) := by decide +kernel
theorem d_Bc_bar_19 : decode c_Bc_bar 19 = .ok (.iconst (-1), 1) := by decide +kernel
theorem d_Bc_bar_20 : decode c_Bc_bar 20 = .ok (.ireturn, 1) := by decide +kernel
theorem d_Bc_bar_21 : decode c_Bc_bar 21 = .ok (.iload_n 3, 1) := by decide +kernel
theorem d_Bc_bar_22 : decode c_Bc_bar 22 = .ok (.iconst 1, 1) := by decide +kernel
theorem d_Bc_bar_23 : decode c_Bc_bar 23 = .ok (.if_icmp .lt 17, 3) := by decide +kernel
theorem d_Bc_bar_26 : decode c_Bc_bar 26 = .ok (.iload_n 3, 1) := by decide +kernel
theorem d_Bc_bar_27 : decode c_Bc_bar 27 = .ok (.iconst 5, 1) := by decide +kernel
theorem d_Bc_bar_28 : decode c_Bc_bar 28 = .ok (.if_icmp .gt 12, 3) := by decide +kernel
theorem d_Bc_bar_31 : decode c_Bc_bar 31 = .ok (.aload_n 0, 1) := by decide +kernel
theorem d_Bc_bar_32 : decode c_Bc_bar 32 = .ok (.getfield 73, 3) := by decide +kernel
theorem d_Bc_bar_35 : decode c_Bc_bar 35 = .ok (.bipush 12, 2) := by decide +kernel
theorem d_Bc_bar_37 : decode c_Bc_bar 37 = .ok (.if_icmp .lt 5, 3) := by decide +kernel
theorem d_Bc_bar_40 : decode c_Bc_bar 40 = .ok (.iconst (-1), 1) := by decide +kernel
theorem d_Bc_bar_41 : decode c_Bc_bar 41 = .ok (.ireturn, 1) := by decide +kernel
theorem d_Bc_bar_42 : decode c_Bc_bar 42 = .ok (.aload_n 0, 1) := by decide +kernel
theorem d_Bc_bar_43 : decode c_Bc_bar 43 = .ok (.getfield 24, 3) := by decide +kernel
theorem d_Bc_bar_46 : decode c_Bc_bar 46 = .ok (.aload_n 0, 1) := by decide +kernel
theorem d_Bc_bar_47 : decode c_Bc_bar 47 = .ok (.getfield 73, 3) := by decide +kernel
theorem d_Bc_bar_50 : decode c_Bc_bar 50 = .ok (.new 22, 3) := by decide +kernel
theorem d_Bc_bar_53 : decode c_Bc_bar 53 = .ok (.dup, 1) := by decide +kernel
theorem d_Bc_bar_54 : decode c_Bc_bar 54 = .ok (.iload_n 1, 1) := by decide +kernel
theorem d_Bc_bar_55 : decode c_Bc_bar 55 = .ok (.aload_n 0, 1) := by decide +kernel
theorem d_Bc_bar_56 : decode c_Bc_bar 56 = .ok (.getfield 18, 3) := by decide +kernel
theorem d_Bc_bar_59 : decode c_Bc_bar 59 = .ok (.iload_n 1, 1) := by decide +kernel
theorem d_Bc_bar_60 : decode c_Bc_bar 60 = .ok (.aaload, 1) := by decide +kernel
theorem d_Bc_bar_61 : decode c_Bc_bar 61 = .ok (.iload_n 2, 1) := by decide +kernel
theorem d_Bc_bar_62 : decode c_Bc_bar 62 = .ok (.iload_n 3, 1) := by decide +kernel
theorem d_Bc_bar_63 : decode c_Bc_bar 63 = .ok (.invokespecial 99, 3) := by decide +kernel
theorem d_Bc_bar_66 : decode c_Bc_bar 66 = .ok (.aastore, 1) := by decide +kernel
theorem d_Bc_bar_67 : decode c_Bc_bar 67 = .ok (.aload_n 0, 1) := by decide +kernel
theorem d_Bc_bar_68 : decode c_Bc_bar 68 = .ok (.dup, 1) := by decide +kernel
theorem d_Bc_bar_69 : decode c_Bc_bar 69 = .ok (.getfield 73, 3) := by decide +kernel
theorem d_Bc_bar_72 : decode c_Bc_bar 72 = .ok (.iconst 1, 1) := by decide +kernel
theorem d_Bc_bar_73 : decode c_Bc_bar 73 = .ok (.iadd, 1) := by decide +kernel
theorem d_Bc_bar_74 : decode c_Bc_bar 74 = .ok (.putfield 73, 3) := by decide +kernel
theorem d_Bc_bar_77 : decode c_Bc_bar 77 = .ok (.aload_n 0, 1) := by decide +kernel
theorem d_Bc_bar_78 : decode c_Bc_bar 78 = .ok (.getfield 41, 3) := by decide +kernel
theorem d_Bc_bar_81 : decode c_Bc_bar 81 = .ok (.invokevirtual 96, 3) := by decide +kernel
theorem d_Bc_bar_84 : decode c_Bc_bar 84 = .ok (.aload_n 0, 1) := by decide +kernel
theorem d_Bc_bar_85 : decode c_Bc_bar 85 = .ok (.getfield 73, 3) := by decide +kernel
theorem d_Bc_bar_88 : decode c_Bc_bar 88 = .ok (.iconst 1, 1) := by decide +kernel
theorem d_Bc_bar_89 : decode c_Bc_bar 89 = .ok (.isub, 1) := by decide +kernel
theorem d_Bc_bar_90 : decode c_Bc_bar 90 = .ok (.ireturn, 1) := by decide +kernel
theorem d_Bc_leg_0 : decode c_Bc_leg 0 = .ok (.aload_n 0, 1) := by decide +kernel
theorem d_Bc_leg_1 : decode c_Bc_leg 1 = .ok (.iload_n 1, 1) := by decide +kernel
theorem d_Bc_leg_2 : decode c_Bc_leg 2 = .ok (.invokevirtual 102, 3) := by decide +kernel
theorem d_Bc_leg_5 : decode c_Bc_leg 5 = .ok (.astore 5, 2) := by decide +kernel
theorem d_Bc_leg_7 : decode c_Bc_leg 7 = .ok (.aload 5, 2) := by decide +kernel
theorem d_Bc_leg_9 : decode c_Bc_leg 9 = .ok (.ifnull 33, 3) := by decide +kernel
theorem d_Bc_leg_12 : decode c_Bc_leg 12 = .ok (.iload_n 2, 1) := by decide +kernel
theorem d_Bc_leg_13 : decode c_Bc_leg 13 = .ok (.ifCond .lt 29, 3) := by decide +kernel
theorem d_Bc_leg_16 : decode c_Bc_leg 16 = .ok (.iload_n 2, 1) := by decide +kernel
theorem d_Bc_leg_17 : decode c_Bc_leg 17 = .ok (.aload 5, 2) := by decide +kernel
theorem d_Bc_leg_19 : decode c_Bc_leg 19 = .ok (.getfield 106, 3) := by decide +kernel
theorem d_Bc_leg_22 : decode c_Bc_leg 22 = .ok (.getfield 110, 3) := by decide +kernel
theorem d_Bc_leg_25 : decode c_Bc_leg 25 = .ok (.if_icmp .ge 17, 3) := by decide +kernel
theorem d_Bc_leg_28 : decode c_Bc_leg 28 = .ok (.lload_n 3, 1) := by decide +kernel
theorem d_Bc_leg_29 : decode c_Bc_leg 29 = .ok (.lconst 1, 1) := by decide +kernel
theorem d_Bc_leg_30 : decode c_Bc_leg 30 = .ok (.lcmp, 1) := by decide +kernel
theorem d_Bc_leg_31 : decode c_Bc_leg 31 = .ok (.ifCond .lt 11, 3) := by decide +kernel
theorem d_Bc_leg_34 : decode c_Bc_leg 34 = .ok (.lload_n 3, 1) := by decide +kernel
theorem d_Bc_leg_35 : decode c_Bc_leg 35 = .ok (.ldc2_w 113, 3) := by decide +kernel
theorem d_Bc_leg_38 : decode c_Bc_leg 38 = .ok (.lcmp, 1) := by decide +kernel
theorem d_Bc_leg_39 : decode c_Bc_leg 39 = .ok (.ifCond .le 5, 3) := by decide +kernel
theorem d_Bc_leg_42 : decode c_Bc_leg 42 = .ok (.iconst 0, 1) := by decide +kernel
theorem d_Bc_leg_43 : decode c_Bc_leg 43 = .ok (.ireturn, 1) := by decide +kernel
theorem d_Bc_leg_44 : decode c_Bc_leg 44 = .ok (.aload 5, 2) := by decide +kernel
theorem d_Bc_leg_46 : decode c_Bc_leg 46 = .ok (.getfield 115, 3) := by decide +kernel
theorem d_Bc_leg_49 : decode c_Bc_leg 49 = .ok (.iload_n 2, 1) := by decide +kernel
theorem d_Bc_leg_50 : decode c_Bc_leg 50 = .ok (.lload_n 3, 1) := by decide +kernel
theorem d_Bc_leg_51 : decode c_Bc_leg 51 = .ok (.l2i, 1) := by decide +kernel
theorem d_Bc_leg_52 : decode c_Bc_leg 52 = .ok (.iastore, 1) := by decide +kernel
theorem d_Bc_leg_53 : decode c_Bc_leg 53 = .ok (.aload_n 0, 1) := by decide +kernel
theorem d_Bc_leg_54 : decode c_Bc_leg 54 = .ok (.getfield 41, 3) := by decide +kernel
theorem d_Bc_leg_57 : decode c_Bc_leg 57 = .ok (.invokevirtual 96, 3) := by decide +kernel
theorem d_Bc_leg_60 : decode c_Bc_leg 60 = .ok (.iconst 1, 1) := by decide +kernel
theorem d_Bc_leg_61 : decode c_Bc_leg 61 = .ok (.ireturn, 1) := by decide +kernel
theorem d_Bc_length_0 : decode c_Bc_length 0 = .ok (.aload_n 0, 1) := by decide +kernel
theorem d_Bc_length_1 : decode c_Bc_length 1 = .ok (.iload_n 1, 1) := by decide +kernel
theorem d_Bc_length_2 : decode c_Bc_length 2 = .ok (.invokevirtual 102, 3) := by decide +kernel
theorem d_Bc_length_5 : decode c_Bc_length 5 = .ok (.astore_n 3, 1) := by decide +kernel
theorem d_Bc_length_6 : decode c_Bc_length 6 = .ok (.aload_n 3, 1) := by decide +kernel
theorem d_Bc_length_7 : decode c_Bc_length 7 = .ok (.ifnonnull 7, 3) := by decide +kernel
theorem d_Bc_length_10 : decode c_Bc_length 10 = .ok (.ldc2_w 117, 3) := by decide +kernel
theorem d_Bc_length_13 : decode c_Bc_length 13 = .ok (.lreturn, 1) := by decide +kernel
theorem d_Bc_length_14 : decode c_Bc_length 14 = .ok (.iload_n 2, 1) := by decide +kernel
theorem d_Bc_length_15 : decode c_Bc_length 15 = .ok (.tableswitch 64 0 4 #[33, 40, 46, 52, 58], 33) := by decide +kernel
theorem d_Bc_length_48 : decode c_Bc_length 48 = .ok (.aload_n 0, 1) := by decide +kernel
theorem d_Bc_length_49 : decode c_Bc_length 49 = .ok (.aload_n 3, 1) := by decide +kernel
theorem d_Bc_length_50 : decode c_Bc_length 50 = .ok (.invokevirtual 119, 3) := by decide +kernel
theorem d_Bc_length_53 : decode c_Bc_length 53 = .ok (.i2l, 1) := by decide +kernel
theorem d_Bc_length_54 : decode c_Bc_length 54 = .ok (.lreturn, 1) := by decide +kernel
theorem d_Bc_length_55 : decode c_Bc_length 55 = .ok (.aload_n 3, 1) := by decide +kernel
theorem d_Bc_length_56 : decode c_Bc_length 56 = .ok (.getfield 123, 3) := by decide +kernel
theorem d_Bc_length_59 : decode c_Bc_length 59 = .ok (.i2l, 1) := by decide +kernel
theorem d_Bc_length_60 : decode c_Bc_length 60 = .ok (.lreturn, 1) := by decide +kernel
theorem d_Bc_length_61 : decode c_Bc_length 61 = .ok (.aload_n 3, 1) := by decide +kernel
theorem d_Bc_length_62 : decode c_Bc_length 62 = .ok (.invokevirtual 126, 3) := by decide +kernel
theorem d_Bc_length_65 : decode c_Bc_length 65 = .ok (.i2l, 1) := by decide +kernel
theorem d_Bc_length_66 : decode c_Bc_length 66 = .ok (.lreturn, 1) := by decide +kernel
theorem d_Bc_length_67 : decode c_Bc_length 67 = .ok (.aload_n 3, 1) := by decide +kernel
theorem d_Bc_length_68 : decode c_Bc_length 68 = .ok (.getfield 129, 3) := by decide +kernel
theorem d_Bc_length_71 : decode c_Bc_length 71 = .ok (.i2l, 1) := by decide +kernel
theorem d_Bc_length_72 : decode c_Bc_length 72 = .ok (.lreturn, 1) := by decide +kernel
theorem d_Bc_length_73 : decode c_Bc_length 73 = .ok (.aload_n 3, 1) := by decide +kernel
theorem d_Bc_length_74 : decode c_Bc_length 74 = .ok (.getfield 132, 3) := by decide +kernel
theorem d_Bc_length_77 : decode c_Bc_length 77 = .ok (.i2l, 1) := by decide +kernel
theorem d_Bc_length_78 : decode c_Bc_length 78 = .ok (.lreturn, 1) := by decide +kernel
theorem d_Bc_length_79 : decode c_Bc_length 79 = .ok (.ldc2_w 117, 3) := by decide +kernel
theorem d_Bc_length_82 : decode c_Bc_length 82 = .ok (.lreturn, 1) := by decide +kernel
theorem d_Bc_stock_0 : decode c_Bc_stock 0 = .ok (.iload_n 1, 1) := by decide +kernel
theorem d_Bc_stock_1 : decode c_Bc_stock 1 = .ok (.invokestatic 91, 3) := by decide +kernel
theorem d_Bc_stock_4 : decode c_Bc_stock 4 = .ok (.ifCond .eq 17, 3) := by decide +kernel
theorem d_Bc_stock_7 : decode c_Bc_stock 7 = .ok (.lload_n 2, 1) := by decide +kernel
theorem d_Bc_stock_8 : decode c_Bc_stock 8 = .ok (.lconst 1, 1) := by decide +kernel
theorem d_Bc_stock_9 : decode c_Bc_stock 9 = .ok (.lcmp, 1) := by decide +kernel
theorem d_Bc_stock_10 : decode c_Bc_stock 10 = .ok (.ifCond .lt 11, 3) := by decide +kernel
theorem d_Bc_stock_13 : decode c_Bc_stock 13 = .ok (.lload_n 2, 1) := by decide +kernel
theorem d_Bc_stock_14 : decode c_Bc_stock 14 = .ok (.ldc2_w 135, 3) := by decide +kernel
theorem d_Bc_stock_17 : decode c_Bc_stock 17 = .ok (.lcmp, 1) := by decide +kernel
theorem d_Bc_stock_18 : decode c_Bc_stock 18 = .ok (.ifCond .le 5, 3) := by decide +kernel
theorem d_Bc_stock_21 : decode c_Bc_stock 21 = .ok (.iconst 0, 1) := by decide +kernel
theorem d_Bc_stock_22 : decode c_Bc_stock 22 = .ok (.ireturn, 1) := by decide +kernel
theorem d_Bc_stock_23 : decode c_Bc_stock 23 = .ok (.iload 4, 2) := by decide +kernel
theorem d_Bc_stock_25 : decode c_Bc_stock 25 = .ok (.ifCond .lt 10, 3) := by decide +kernel
theorem d_Bc_stock_28 : decode c_Bc_stock 28 = .ok (.iload 4, 2) := by decide +kernel
theorem d_Bc_stock_30 : decode c_Bc_stock 30 = .ok (.bipush 20, 2) := by decide +kernel
theorem d_Bc_stock_32 : decode c_Bc_stock 32 = .ok (.if_icmp .le 5, 3) := by decide +kernel
theorem d_Bc_stock_35 : decode c_Bc_stock 35 = .ok (.iconst 0, 1) := by decide +kernel
theorem d_Bc_stock_36 : decode c_Bc_stock 36 = .ok (.ireturn, 1) := by decide +kernel
theorem d_Bc_stock_37 : decode c_Bc_stock 37 = .ok (.aload_n 0, 1) := by decide +kernel
theorem d_Bc_stock_38 : decode c_Bc_stock 38 = .ok (.getfield 34, 3) := by decide +kernel
theorem d_Bc_stock_41 : decode c_Bc_stock 41 = .ok (.iload_n 1, 1) := by decide +kernel
theorem d_Bc_stock_42 : decode c_Bc_stock 42 = .ok (.iconst 4, 1) := by decide +kernel
theorem d_Bc_stock_43 : decode c_Bc_stock 43 = .ok (.isub, 1) := by decide +kernel
theorem d_Bc_stock_44 : decode c_Bc_stock 44 = .ok (.aaload, 1) := by decide +kernel
theorem d_Bc_stock_45 : decode c_Bc_stock 45 = .ok (.astore 5, 2) := by decide +kernel
theorem d_Bc_stock_47 : decode c_Bc_stock 47 = .ok (.aload 5, 2) := by decide +kernel
theorem d_Bc_stock_49 : decode c_Bc_stock 49 = .ok (.ifnonnull 22, 3) := by decide +kernel
theorem d_Bc_stock_52 : decode c_Bc_stock 52 = .ok (.new 32, 3) := by decide +kernel
theorem d_Bc_stock_55 : decode c_Bc_stock 55 = .ok (.dup, 1) := by decide +kernel
theorem d_Bc_stock_56 : decode c_Bc_stock 56 = .ok (.invokespecial 137, 3) := by decide +kernel
theorem d_Bc_stock_59 : decode c_Bc_stock 59 = .ok (.astore 5, 2) := by decide +kernel
theorem d_Bc_stock_61 : decode c_Bc_stock 61 = .ok (.aload_n 0, 1) := by decide +kernel
theorem d_Bc_stock_62 : decode c_Bc_stock 62 = .ok (.getfield 34, 3) := by decide +kernel
theorem d_Bc_stock_65 : decode c_Bc_stock 65 = .ok (.iload_n 1, 1) := by decide +kernel
theorem d_Bc_stock_66 : decode c_Bc_stock 66 = .ok (.iconst 4, 1) := by decide +kernel
theorem d_Bc_stock_67 : decode c_Bc_stock 67 = .ok (.isub, 1) := by decide +kernel
theorem d_Bc_stock_68 : decode c_Bc_stock 68 = .ok (.aload 5, 2) := by decide +kernel
theorem d_Bc_stock_70 : decode c_Bc_stock 70 = .ok (.aastore, 1) := by decide +kernel
theorem d_Bc_stock_71 : decode c_Bc_stock 71 = .ok (.aload 5, 2) := by decide +kernel
theorem d_Bc_stock_73 : decode c_Bc_stock 73 = .ok (.lload_n 2, 1) := by decide +kernel
theorem d_Bc_stock_74 : decode c_Bc_stock 74 = .ok (.l2i, 1) := by decide +kernel
theorem d_Bc_stock_75 : decode c_Bc_stock 75 = .ok (.iload 4, 2) := by decide +kernel
theorem d_Bc_stock_77 : decode c_Bc_stock 77 = .ok (.invokevirtual 138, 3) := by decide +kernel
theorem d_Bc_stock_80 : decode c_Bc_stock 80 = .ok (.ifCond .ne 5, 3) := by decide +kernel
theorem d_Bc_stock_83 : decode c_Bc_stock 83 = .ok (.iconst 0, 1) := by decide +kernel
theorem d_Bc_stock_84 : decode c_Bc_stock 84 = .ok (.ireturn, 1) := by decide +kernel
theorem d_Bc_stock_85 : decode c_Bc_stock 85 = .ok (.aload_n 0, 1) := by decide +kernel
theorem d_Bc_stock_86 : decode c_Bc_stock 86 = .ok (.getfield 41, 3) := by decide +kernel
theorem d_Bc_stock_89 : decode c_Bc_stock 89 = .ok (.invokevirtual 96, 3) := by decide +kernel
theorem d_Bc_stock_92 : decode c_Bc_stock 92 = .ok (.iconst 1, 1) := by decide +kernel
theorem d_Bc_stock_93 : decode c_Bc_stock 93 = .ok (.ireturn, 1) := by decide +kernel
theorem d_Bc_run_0 : decode c_Bc_run 0 = .ok (.lload_n 1, 1) := by decide +kernel
theorem d_Bc_run_1 : decode c_Bc_run 1 = .ok (.lconst 0, 1) := by decide +kernel
theorem d_Bc_run_2 : decode c_Bc_run 2 = .ok (.lcmp, 1) := by decide +kernel
theorem d_Bc_run_3 : decode c_Bc_run 3 = .ok (.ifCond .lt 11, 3) := by decide +kernel
theorem d_Bc_run_6 : decode c_Bc_run 6 = .ok (.lload_n 1, 1) := by decide +kernel
theorem d_Bc_run_7 : decode c_Bc_run 7 = .ok (.ldc2_w 142, 3) := by decide +kernel
theorem d_Bc_run_10 : decode c_Bc_run 10 = .ok (.lcmp, 1) := by decide +kernel
theorem d_Bc_run_11 : decode c_Bc_run 11 = .ok (.ifCond .le 5, 3) := by decide +kernel
theorem d_Bc_run_14 : decode c_Bc_run 14 = .ok (.iconst (-1), 1) := by decide +kernel
theorem d_Bc_run_15 : decode c_Bc_run 15 = .ok (.ireturn, 1) := by decide +kernel
theorem d_Bc_run_16 : decode c_Bc_run 16 = .ok (.aload_n 0, 1) := by decide +kernel
theorem d_Bc_run_17 : decode c_Bc_run 17 = .ok (.getfield 41, 3) := by decide +kernel
theorem d_Bc_run_20 : decode c_Bc_run 20 = .ok (.invokevirtual 96, 3) := by decide +kernel
theorem d_Bc_run_23 : decode c_Bc_run 23 = .ok (.iconst 4, 1) := by decide +kernel
theorem d_Bc_run_24 : decode c_Bc_run 24 = .ok (.istore_n 3, 1) := by decide +kernel
theorem d_Bc_run_25 : decode c_Bc_run 25 = .ok (.iload_n 3, 1) := by decide +kernel
theorem d_Bc_run_26 : decode c_Bc_run 26 = .ok (.bipush 40, 2) := by decide +kernel
theorem d_Bc_run_28 : decode c_Bc_run 28 = .ok (.if_icmp .gt 28, 3) := by decide +kernel
theorem d_Bc_run_31 : decode c_Bc_run 31 = .ok (.aload_n 0, 1) := by decide +kernel
theorem d_Bc_run_32 : decode c_Bc_run 32 = .ok (.iload_n 3, 1) := by decide +kernel
theorem d_Bc_run_33 : decode c_Bc_run 33 = .ok (.lload_n 1, 1) := by decide +kernel
theorem d_Bc_run_34 : decode c_Bc_run 34 = .ok (.l2i, 1) := by decide +kernel
theorem d_Bc_run_35 : decode c_Bc_run 35 = .ok (.invokevirtual 144, 3) := by decide +kernel
theorem d_Bc_run_38 : decode c_Bc_run 38 = .ok (.ifCond .ne 12, 3) := by decide +kernel
theorem d_Bc_run_41 : decode c_Bc_run 41 = .ok (.aload_n 0, 1) := by decide +kernel
theorem d_Bc_run_42 : decode c_Bc_run 42 = .ok (.getfield 41, 3) := by decide +kernel
theorem d_Bc_run_45 : decode c_Bc_run 45 = .ok (.invokevirtual 96, 3) := by decide +kernel
theorem d_Bc_run_48 : decode c_Bc_run 48 = .ok (.iconst (-1), 1) := by decide +kernel
theorem d_Bc_run_49 : decode c_Bc_run 49 = .ok (.ireturn, 1) := by decide +kernel
theorem d_Bc_run_50 : decode c_Bc_run 50 = .ok (.iinc 3 1, 3) := by decide +kernel
theorem d_Bc_run_53 : decode c_Bc_run 53 = .ok (.goto (-28), 3) := by decide +kernel
theorem d_Bc_run_56 : decode c_Bc_run 56 = .ok (.aload_n 0, 1) := by decide +kernel
theorem d_Bc_run_57 : decode c_Bc_run 57 = .ok (.getfield 41, 3) := by decide +kernel
theorem d_Bc_run_60 : decode c_Bc_run 60 = .ok (.iconst 1, 1) := by decide +kernel
theorem d_Bc_run_61 : decode c_Bc_run 61 = .ok (.putfield 147, 3) := by decide +kernel
theorem d_Bc_run_64 : decode c_Bc_run 64 = .ok (.aload_n 0, 1) := by decide +kernel
theorem d_Bc_run_65 : decode c_Bc_run 65 = .ok (.getfield 41, 3) := by decide +kernel
theorem d_Bc_run_68 : decode c_Bc_run 68 = .ok (.getfield 151, 3) := by decide +kernel
theorem d_Bc_run_71 : decode c_Bc_run 71 = .ok (.ireturn, 1) := by decide +kernel
theorem d_Bc_loss_0 : decode c_Bc_loss 0 = .ok (.aload_n 0, 1) := by decide +kernel
theorem d_Bc_loss_1 : decode c_Bc_loss 1 = .ok (.getfield 41, 3) := by decide +kernel
theorem d_Bc_loss_4 : decode c_Bc_loss 4 = .ok (.getfield 147, 3) := by decide +kernel
theorem d_Bc_loss_7 : decode c_Bc_loss 7 = .ok (.ifCond .ne 7, 3) := by decide +kernel
theorem d_Bc_loss_10 : decode c_Bc_loss 10 = .ok (.ldc2_w 117, 3) := by decide +kernel
theorem d_Bc_loss_13 : decode c_Bc_loss 13 = .ok (.lreturn, 1) := by decide +kernel
theorem d_Bc_loss_14 : decode c_Bc_loss 14 = .ok (.iload_n 1, 1) := by decide +kernel
theorem d_Bc_loss_15 : decode c_Bc_loss 15 = .ok (.tableswitch 60 0 2 #[25, 42, 51], 25) := by decide +kernel
theorem d_Bc_loss_40 : decode c_Bc_loss 40 = .ok (.aload_n 0, 1) := by decide +kernel
theorem d_Bc_loss_41 : decode c_Bc_loss 41 = .ok (.getfield 41, 3) := by decide +kernel
theorem d_Bc_loss_44 : decode c_Bc_loss 44 = .ok (.invokevirtual 152, 3) := by decide +kernel
theorem d_Bc_loss_47 : decode c_Bc_loss 47 = .ok (.aload_n 0, 1) := by decide +kernel
theorem d_Bc_loss_48 : decode c_Bc_loss 48 = .ok (.getfield 41, 3) := by decide +kernel
theorem d_Bc_loss_51 : decode c_Bc_loss 51 = .ok (.invokevirtual 155, 3) := by decide +kernel
theorem d_Bc_loss_54 : decode c_Bc_loss 54 = .ok (.isub, 1) := by decide +kernel
theorem d_Bc_loss_55 : decode c_Bc_loss 55 = .ok (.i2l, 1) := by decide +kernel
theorem d_Bc_loss_56 : decode c_Bc_loss 56 = .ok (.lreturn, 1) := by decide +kernel
theorem d_Bc_loss_57 : decode c_Bc_loss 57 = .ok (.aload_n 0, 1) := by decide +kernel
theorem d_Bc_loss_58 : decode c_Bc_loss 58 = .ok (.getfield 41, 3) := by decide +kernel
theorem d_Bc_loss_61 : decode c_Bc_loss 61 = .ok (.invokevirtual 152, 3) := by decide +kernel
theorem d_Bc_loss_64 : decode c_Bc_loss 64 = .ok (.i2l, 1) := by decide +kernel
theorem d_Bc_loss_65 : decode c_Bc_loss 65 = .ok (.lreturn, 1) := by decide +kernel
theorem d_Bc_loss_66 : decode c_Bc_loss 66 = .ok (.aload_n 0, 1) := by decide +kernel
theorem d_Bc_loss_67 : decode c_Bc_loss 67 = .ok (.getfield 41, 3) := by decide +kernel
theorem d_Bc_loss_70 : decode c_Bc_loss 70 = .ok (.invokevirtual 155, 3) := by decide +kernel
theorem d_Bc_loss_73 : decode c_Bc_loss 73 = .ok (.i2l, 1) := by decide +kernel
theorem d_Bc_loss_74 : decode c_Bc_loss 74 = .ok (.lreturn, 1) := by decide +kernel
theorem d_Bc_loss_75 : decode c_Bc_loss 75 = .ok (.ldc2_w 117, 3) := by decide +kernel
theorem d_Bc_loss_78 : decode c_Bc_loss 78 = .ok (.lreturn, 1) := by decide +kernel
theorem d_Bc_bound_0 : decode c_Bc_bound 0 = .ok (.aload_n 0, 1) := by decide +kernel
theorem d_Bc_bound_1 : decode c_Bc_bound 1 = .ok (.getfield 41, 3) := by decide +kernel
theorem d_Bc_bound_4 : decode c_Bc_bound 4 = .ok (.getfield 147, 3) := by decide +kernel
theorem d_Bc_bound_7 : decode c_Bc_bound 7 = .ok (.ifCond .ne 7, 3) := by decide +kernel
theorem d_Bc_bound_10 : decode c_Bc_bound 10 = .ok (.ldc2_w 117, 3) := by decide +kernel
theorem d_Bc_bound_13 : decode c_Bc_bound 13 = .ok (.lreturn, 1) := by decide +kernel
theorem d_Bc_bound_14 : decode c_Bc_bound 14 = .ok (.iload_n 1, 1) := by decide +kernel
theorem d_Bc_bound_15 : decode c_Bc_bound 15 = .ok (.lookupswitch 43 #[(0, 25), (1, 34)], 25) := by decide +kernel
theorem d_Bc_bound_40 : decode c_Bc_bound 40 = .ok (.aload_n 0, 1) := by decide +kernel
theorem d_Bc_bound_41 : decode c_Bc_bound 41 = .ok (.getfield 41, 3) := by decide +kernel
theorem d_Bc_bound_44 : decode c_Bc_bound 44 = .ok (.invokevirtual 155, 3) := by decide +kernel
theorem d_Bc_bound_47 : decode c_Bc_bound 47 = .ok (.i2l, 1) := by decide +kernel
theorem d_Bc_bound_48 : decode c_Bc_bound 48 = .ok (.lreturn, 1) := by decide +kernel
theorem d_Bc_bound_49 : decode c_Bc_bound 49 = .ok (.aload_n 0, 1) := by decide +kernel
theorem d_Bc_bound_50 : decode c_Bc_bound 50 = .ok (.getfield 41, 3) := by decide +kernel
theorem d_Bc_bound_53 : decode c_Bc_bound 53 = .ok (.getfield 158, 3) := by decide +kernel
theorem d_Bc_bound_56 : decode c_Bc_bound 56 = .ok (.i2l, 1) := by decide +kernel
theorem d_Bc_bound_57 : decode c_Bc_bound 57 = .ok (.lreturn, 1) := by decide +kernel
theorem d_Bc_bound_58 : decode c_Bc_bound 58 = .ok (.ldc2_w 117, 3) := by decide +kernel
theorem d_Bc_bound_61 : decode c_Bc_bound 61 = .ok (.lreturn, 1) := by decide +kernel
theorem d_Bc_proved_0 : decode c_Bc_proved 0 = .ok (.aload_n 0, 1) := by decide +kernel
theorem d_Bc_proved_1 : decode c_Bc_proved 1 = .ok (.getfield 41, 3) := by decide +kernel
theorem d_Bc_proved_4 : decode c_Bc_proved 4 = .ok (.getfield 147, 3) := by decide +kernel
theorem d_Bc_proved_7 : decode c_Bc_proved 7 = .ok (.ifCond .eq 24, 3) := by decide +kernel
theorem d_Bc_proved_10 : decode c_Bc_proved 10 = .ok (.aload_n 0, 1) := by decide +kernel
theorem d_Bc_proved_11 : decode c_Bc_proved 11 = .ok (.getfield 41, 3) := by decide +kernel
theorem d_Bc_proved_14 : decode c_Bc_proved 14 = .ok (.getfield 158, 3) := by decide +kernel
theorem d_Bc_proved_17 : decode c_Bc_proved 17 = .ok (.aload_n 0, 1) := by decide +kernel
theorem d_Bc_proved_18 : decode c_Bc_proved 18 = .ok (.getfield 41, 3) := by decide +kernel
theorem d_Bc_proved_21 : decode c_Bc_proved 21 = .ok (.getfield 161, 3) := by decide +kernel
theorem d_Bc_proved_24 : decode c_Bc_proved 24 = .ok (.if_icmp .ne 7, 3) := by decide +kernel
theorem d_Bc_proved_27 : decode c_Bc_proved 27 = .ok (.iconst 1, 1) := by decide +kernel
theorem d_Bc_proved_28 : decode c_Bc_proved 28 = .ok (.goto 4, 3) := by decide +kernel
theorem d_Bc_proved_31 : decode c_Bc_proved 31 = .ok (.iconst 0, 1) := by decide +kernel
theorem d_Bc_proved_32 : decode c_Bc_proved 32 = .ok (.ireturn, 1) := by decide +kernel
theorem d_Bc_pattern_0 : decode c_Bc_pattern 0 = .ok (.aload_n 0, 1) := by decide +kernel
theorem d_Bc_pattern_1 : decode c_Bc_pattern 1 = .ok (.getfield 41, 3) := by decide +kernel
theorem d_Bc_pattern_4 : decode c_Bc_pattern 4 = .ok (.getfield 147, 3) := by decide +kernel
theorem d_Bc_pattern_7 : decode c_Bc_pattern 7 = .ok (.ifCond .eq 18, 3) := by decide +kernel
theorem d_Bc_pattern_10 : decode c_Bc_pattern 10 = .ok (.iload_n 1, 1) := by decide +kernel
theorem d_Bc_pattern_11 : decode c_Bc_pattern 11 = .ok (.ifCond .lt 14, 3) := by decide +kernel
theorem d_Bc_pattern_14 : decode c_Bc_pattern 14 = .ok (.iload_n 1, 1) := by decide +kernel
theorem d_Bc_pattern_15 : decode c_Bc_pattern 15 = .ok (.aload_n 0, 1) := by decide +kernel
theorem d_Bc_pattern_16 : decode c_Bc_pattern 16 = .ok (.getfield 41, 3) := by decide +kernel
theorem d_Bc_pattern_19 : decode c_Bc_pattern 19 = .ok (.getfield 151, 3) := by decide +kernel
theorem d_Bc_pattern_22 : decode c_Bc_pattern 22 = .ok (.if_icmp .lt 5, 3) := by decide +kernel
theorem d_Bc_pattern_25 : decode c_Bc_pattern 25 = .ok (.iconst (-1), 1) := by decide +kernel
theorem d_Bc_pattern_26 : decode c_Bc_pattern 26 = .ok (.ireturn, 1) := by decide +kernel
theorem d_Bc_pattern_27 : decode c_Bc_pattern 27 = .ok (.iload_n 2, 1) := by decide +kernel
theorem d_Bc_pattern_28 : decode c_Bc_pattern 28 = .ok (.tableswitch 58 0 2 #[28, 38, 48], 28) := by decide +kernel
theorem d_Bc_pattern_56 : decode c_Bc_pattern 56 = .ok (.aload_n 0, 1) := by decide +kernel
theorem d_Bc_pattern_57 : decode c_Bc_pattern 57 = .ok (.getfield 41, 3) := by decide +kernel
theorem d_Bc_pattern_60 : decode c_Bc_pattern 60 = .ok (.getfield 164, 3) := by decide +kernel
theorem d_Bc_pattern_63 : decode c_Bc_pattern 63 = .ok (.iload_n 1, 1) := by decide +kernel
theorem d_Bc_pattern_64 : decode c_Bc_pattern 64 = .ok (.iaload, 1) := by decide +kernel
theorem d_Bc_pattern_65 : decode c_Bc_pattern 65 = .ok (.ireturn, 1) := by decide +kernel
theorem d_Bc_pattern_66 : decode c_Bc_pattern 66 = .ok (.aload_n 0, 1) := by decide +kernel
theorem d_Bc_pattern_67 : decode c_Bc_pattern 67 = .ok (.getfield 41, 3) := by decide +kernel
theorem d_Bc_pattern_70 : decode c_Bc_pattern 70 = .ok (.getfield 167, 3) := by decide +kernel
theorem d_Bc_pattern_73 : decode c_Bc_pattern 73 = .ok (.iload_n 1, 1) := by decide +kernel
theorem d_Bc_pattern_74 : decode c_Bc_pattern 74 = .ok (.iaload, 1) := by decide +kernel
theorem d_Bc_pattern_75 : decode c_Bc_pattern 75 = .ok (.ireturn, 1) := by decide +kernel
theorem d_Bc_pattern_76 : decode c_Bc_pattern 76 = .ok (.aload_n 0, 1) := by decide +kernel
theorem d_Bc_pattern_77 : decode c_Bc_pattern 77 = .ok (.getfield 41, 3) := by decide +kernel
theorem d_Bc_pattern_80 : decode c_Bc_pattern 80 = .ok (.getfield 170, 3) := by decide +kernel
theorem d_Bc_pattern_83 : decode c_Bc_pattern 83 = .ok (.iload_n 1, 1) := by decide +kernel
theorem d_Bc_pattern_84 : decode c_Bc_pattern 84 = .ok (.iaload, 1) := by decide +kernel
theorem d_Bc_pattern_85 : decode c_Bc_pattern 85 = .ok (.ireturn, 1) := by decide +kernel
theorem d_Bc_pattern_86 : decode c_Bc_pattern 86 = .ok (.iload_n 2, 1) := by decide +kernel
theorem d_Bc_pattern_87 : decode c_Bc_pattern 87 = .ok (.iconst 3, 1) := by decide +kernel
theorem d_Bc_pattern_88 : decode c_Bc_pattern 88 = .ok (.if_icmp .ge 7, 3) := by decide +kernel
theorem d_Bc_pattern_91 : decode c_Bc_pattern 91 = .ok (.iconst (-1), 1) := by decide +kernel
theorem d_Bc_pattern_92 : decode c_Bc_pattern 92 = .ok (.goto 14, 3) := by decide +kernel
theorem d_Bc_pattern_95 : decode c_Bc_pattern 95 = .ok (.aload_n 0, 1) := by decide +kernel
theorem d_Bc_pattern_96 : decode c_Bc_pattern 96 = .ok (.getfield 41, 3) := by decide +kernel
theorem d_Bc_pattern_99 : decode c_Bc_pattern 99 = .ok (.iload_n 1, 1) := by decide +kernel
theorem d_Bc_pattern_100 : decode c_Bc_pattern 100 = .ok (.iload_n 2, 1) := by decide +kernel
theorem d_Bc_pattern_101 : decode c_Bc_pattern 101 = .ok (.iconst 3, 1) := by decide +kernel
theorem d_Bc_pattern_102 : decode c_Bc_pattern 102 = .ok (.isub, 1) := by decide +kernel
theorem d_Bc_pattern_103 : decode c_Bc_pattern 103 = .ok (.invokevirtual 173, 3) := by decide +kernel
theorem d_Bc_pattern_106 : decode c_Bc_pattern 106 = .ok (.ireturn, 1) := by decide +kernel
theorem d_Bc_place_0 : decode c_Bc_place 0 = .ok (.aload_n 0, 1) := by decide +kernel
theorem d_Bc_place_1 : decode c_Bc_place 1 = .ok (.iload_n 1, 1) := by decide +kernel
theorem d_Bc_place_2 : decode c_Bc_place 2 = .ok (.invokevirtual 102, 3) := by decide +kernel
theorem d_Bc_place_5 : decode c_Bc_place 5 = .ok (.astore 8, 2) := by decide +kernel
theorem d_Bc_place_7 : decode c_Bc_place 7 = .ok (.aload 8, 2) := by decide +kernel
theorem d_Bc_place_9 : decode c_Bc_place 9 = .ok (.ifnull 26, 3) := by decide +kernel
theorem d_Bc_place_12 : decode c_Bc_place 12 = .ok (.lload_n 2, 1) := by decide +kernel
theorem d_Bc_place_13 : decode c_Bc_place 13 = .ok (.invokestatic 177, 3) := by decide +kernel
theorem d_Bc_place_16 : decode c_Bc_place 16 = .ok (.ifCond .eq 19, 3) := by decide +kernel
theorem d_Bc_place_19 : decode c_Bc_place 19 = .ok (.lload 4, 2) := by decide +kernel
theorem d_Bc_place_21 : decode c_Bc_place 21 = .ok (.invokestatic 177, 3) := by decide +kernel
theorem d_Bc_place_24 : decode c_Bc_place 24 = .ok (.ifCond .eq 11, 3) := by decide +kernel
theorem d_Bc_place_27 : decode c_Bc_place 27 = .ok (.lload 6, 2) := by decide +kernel
theorem d_Bc_place_29 : decode c_Bc_place 29 = .ok (.invokestatic 177, 3) := by decide +kernel
theorem d_Bc_place_32 : decode c_Bc_place 32 = .ok (.ifCond .ne 5, 3) := by decide +kernel
theorem d_Bc_place_35 : decode c_Bc_place 35 = .ok (.iconst 0, 1) := by decide +kernel
theorem d_Bc_place_36 : decode c_Bc_place 36 = .ok (.ireturn, 1) := by decide +kernel
theorem d_Bc_place_37 : decode c_Bc_place 37 = .ok (.aload 8, 2) := by decide +kernel
theorem d_Bc_place_39 : decode c_Bc_place 39 = .ok (.lload_n 2, 1) := by decide +kernel
theorem d_Bc_place_40 : decode c_Bc_place 40 = .ok (.l2i, 1) := by decide +kernel
theorem d_Bc_place_41 : decode c_Bc_place 41 = .ok (.putfield 181, 3) := by decide +kernel
theorem d_Bc_place_44 : decode c_Bc_place 44 = .ok (.aload 8, 2) := by decide +kernel
theorem d_Bc_place_46 : decode c_Bc_place 46 = .ok (.lload 4, 2) := by decide +kernel
theorem d_Bc_place_48 : decode c_Bc_place 48 = .ok (.l2i, 1) := by decide +kernel
theorem d_Bc_place_49 : decode c_Bc_place 49 = .ok (.putfield 184, 3) := by decide +kernel
theorem d_Bc_place_52 : decode c_Bc_place 52 = .ok (.aload 8, 2) := by decide +kernel
theorem d_Bc_place_54 : decode c_Bc_place 54 = .ok (.lload 6, 2) := by decide +kernel
theorem d_Bc_place_56 : decode c_Bc_place 56 = .ok (.l2i, 1) := by decide +kernel
theorem d_Bc_place_57 : decode c_Bc_place 57 = .ok (.putfield 187, 3) := by decide +kernel
theorem d_Bc_place_60 : decode c_Bc_place 60 = .ok (.aload 8, 2) := by decide +kernel
theorem d_Bc_place_62 : decode c_Bc_place 62 = .ok (.iconst 1, 1) := by decide +kernel
theorem d_Bc_place_63 : decode c_Bc_place 63 = .ok (.putfield 190, 3) := by decide +kernel
theorem d_Bc_place_66 : decode c_Bc_place 66 = .ok (.iconst 1, 1) := by decide +kernel
theorem d_Bc_place_67 : decode c_Bc_place 67 = .ok (.ireturn, 1) := by decide +kernel
theorem d_Bc_command_0 : decode c_Bc_command 0 = .ok (.aload_n 0, 1) := by decide +kernel
theorem d_Bc_command_1 : decode c_Bc_command 1 = .ok (.iload_n 1, 1) := by decide +kernel
theorem d_Bc_command_2 : decode c_Bc_command 2 = .ok (.invokevirtual 102, 3) := by decide +kernel
theorem d_Bc_command_5 : decode c_Bc_command 5 = .ok (.astore_n 3, 1) := by decide +kernel
theorem d_Bc_command_6 : decode c_Bc_command 6 = .ok (.aload_n 3, 1) := by decide +kernel
theorem d_Bc_command_7 : decode c_Bc_command 7 = .ok (.ifnull 14, 3) := by decide +kernel
theorem d_Bc_command_10 : decode c_Bc_command 10 = .ok (.aload_n 3, 1) := by decide +kernel
theorem d_Bc_command_11 : decode c_Bc_command 11 = .ok (.invokevirtual 193, 3) := by decide +kernel
theorem d_Bc_command_14 : decode c_Bc_command 14 = .ok (.ifCond .eq 7, 3) := by decide +kernel
theorem d_Bc_command_17 : decode c_Bc_command 17 = .ok (.iload_n 2, 1) := by decide +kernel
theorem d_Bc_command_18 : decode c_Bc_command 18 = .ok (.ifCond .ge 5, 3) := by decide +kernel
theorem d_Bc_command_21 : decode c_Bc_command 21 = .ok (.iconst (-1), 1) := by decide +kernel
theorem d_Bc_command_22 : decode c_Bc_command 22 = .ok (.ireturn, 1) := by decide +kernel
theorem d_Bc_command_23 : decode c_Bc_command 23 = .ok (.aload_n 0, 1) := by decide +kernel
theorem d_Bc_command_24 : decode c_Bc_command 24 = .ok (.getfield 62, 3) := by decide +kernel
theorem d_Bc_command_27 : decode c_Bc_command 27 = .ok (.aload_n 3, 1) := by decide +kernel
theorem d_Bc_command_28 : decode c_Bc_command 28 = .ok (.invokevirtual 197, 3) := by decide +kernel
theorem d_Bc_command_31 : decode c_Bc_command 31 = .ok (.iload_n 2, 1) := by decide +kernel
theorem d_Bc_command_32 : decode c_Bc_command 32 = .ok (.iconst 2, 1) := by decide +kernel
theorem d_Bc_command_33 : decode c_Bc_command 33 = .ok (.idiv, 1) := by decide +kernel
theorem d_Bc_command_34 : decode c_Bc_command 34 = .ok (.istore 4, 2) := by decide +kernel
theorem d_Bc_command_36 : decode c_Bc_command 36 = .ok (.iload 4, 2) := by decide +kernel
theorem d_Bc_command_38 : decode c_Bc_command 38 = .ok (.aload_n 0, 1) := by decide +kernel
theorem d_Bc_command_39 : decode c_Bc_command 39 = .ok (.getfield 62, 3) := by decide +kernel
theorem d_Bc_command_42 : decode c_Bc_command 42 = .ok (.getfield 201, 3) := by decide +kernel
theorem d_Bc_command_45 : decode c_Bc_command 45 = .ok (.if_icmp .lt 5, 3) := by decide +kernel
theorem d_Bc_command_48 : decode c_Bc_command 48 = .ok (.iconst (-1), 1) := by decide +kernel
theorem d_Bc_command_49 : decode c_Bc_command 49 = .ok (.ireturn, 1) := by decide +kernel
theorem d_Bc_command_50 : decode c_Bc_command 50 = .ok (.iload_n 2, 1) := by decide +kernel
theorem d_Bc_command_51 : decode c_Bc_command 51 = .ok (.iconst 2, 1) := by decide +kernel
theorem d_Bc_command_52 : decode c_Bc_command 52 = .ok (.irem, 1) := by decide +kernel
theorem d_Bc_command_53 : decode c_Bc_command 53 = .ok (.ifCond .ne 16, 3) := by decide +kernel
theorem d_Bc_command_56 : decode c_Bc_command 56 = .ok (.aload_n 0, 1) := by decide +kernel
theorem d_Bc_command_57 : decode c_Bc_command 57 = .ok (.getfield 62, 3) := by decide +kernel
theorem d_Bc_command_60 : decode c_Bc_command 60 = .ok (.getfield 204, 3) := by decide +kernel
theorem d_Bc_command_63 : decode c_Bc_command 63 = .ok (.iload 4, 2) := by decide +kernel
theorem d_Bc_command_65 : decode c_Bc_command 65 = .ok (.iaload, 1) := by decide +kernel
theorem d_Bc_command_66 : decode c_Bc_command 66 = .ok (.goto 13, 3) := by decide +kernel
theorem d_Bc_command_69 : decode c_Bc_command 69 = .ok (.aload_n 0, 1) := by decide +kernel
theorem d_Bc_command_70 : decode c_Bc_command 70 = .ok (.getfield 62, 3) := by decide +kernel
theorem d_Bc_command_73 : decode c_Bc_command 73 = .ok (.getfield 207, 3) := by decide +kernel
theorem d_Bc_command_76 : decode c_Bc_command 76 = .ok (.iload 4, 2) := by decide +kernel
theorem d_Bc_command_78 : decode c_Bc_command 78 = .ok (.iaload, 1) := by decide +kernel
theorem d_Bc_command_79 : decode c_Bc_command 79 = .ok (.ireturn, 1) := by decide +kernel
theorem d_Bc_clash_0 : decode c_Bc_clash 0 = .ok (.aload_n 0, 1) := by decide +kernel
theorem d_Bc_clash_1 : decode c_Bc_clash 1 = .ok (.iload_n 1, 1) := by decide +kernel
theorem d_Bc_clash_2 : decode c_Bc_clash 2 = .ok (.invokevirtual 102, 3) := by decide +kernel
theorem d_Bc_clash_5 : decode c_Bc_clash 5 = .ok (.astore_n 3, 1) := by decide +kernel
theorem d_Bc_clash_6 : decode c_Bc_clash 6 = .ok (.aload_n 0, 1) := by decide +kernel
theorem d_Bc_clash_7 : decode c_Bc_clash 7 = .ok (.iload_n 2, 1) := by decide +kernel
theorem d_Bc_clash_8 : decode c_Bc_clash 8 = .ok (.invokevirtual 102, 3) := by decide +kernel
theorem d_Bc_clash_11 : decode c_Bc_clash 11 = .ok (.astore 4, 2) := by decide +kernel
theorem d_Bc_clash_13 : decode c_Bc_clash 13 = .ok (.aload_n 3, 1) := by decide +kernel
theorem d_Bc_clash_14 : decode c_Bc_clash 14 = .ok (.ifnull 13, 3) := by decide +kernel
theorem d_Bc_clash_17 : decode c_Bc_clash 17 = .ok (.aload 4, 2) := by decide +kernel
theorem d_Bc_clash_19 : decode c_Bc_clash 19 = .ok (.ifnull 8, 3) := by decide +kernel
theorem d_Bc_clash_22 : decode c_Bc_clash 22 = .ok (.iload_n 1, 1) := by decide +kernel
theorem d_Bc_clash_23 : decode c_Bc_clash 23 = .ok (.iload_n 2, 1) := by decide +kernel
theorem d_Bc_clash_24 : decode c_Bc_clash 24 = .ok (.if_icmp .ne 5, 3) := by decide +kernel
theorem d_Bc_clash_27 : decode c_Bc_clash 27 = .ok (.iconst (-1), 1) := by decide +kernel
theorem d_Bc_clash_28 : decode c_Bc_clash 28 = .ok (.ireturn, 1) := by decide +kernel
theorem d_Bc_clash_29 : decode c_Bc_clash 29 = .ok (.aload_n 3, 1) := by decide +kernel
theorem d_Bc_clash_30 : decode c_Bc_clash 30 = .ok (.getfield 190, 3) := by decide +kernel
theorem d_Bc_clash_33 : decode c_Bc_clash 33 = .ok (.ifCond .eq 26, 3) := by decide +kernel
theorem d_Bc_clash_36 : decode c_Bc_clash 36 = .ok (.aload 4, 2) := by decide +kernel
theorem d_Bc_clash_38 : decode c_Bc_clash 38 = .ok (.getfield 190, 3) := by decide +kernel
theorem d_Bc_clash_41 : decode c_Bc_clash 41 = .ok (.ifCond .eq 18, 3) := by decide +kernel
theorem d_Bc_clash_44 : decode c_Bc_clash 44 = .ok (.aload_n 3, 1) := by decide +kernel
theorem d_Bc_clash_45 : decode c_Bc_clash 45 = .ok (.invokevirtual 193, 3) := by decide +kernel
theorem d_Bc_clash_48 : decode c_Bc_clash 48 = .ok (.ifCond .eq 11, 3) := by decide +kernel
theorem d_Bc_clash_51 : decode c_Bc_clash 51 = .ok (.aload 4, 2) := by decide +kernel
theorem d_Bc_clash_53 : decode c_Bc_clash 53 = .ok (.invokevirtual 193, 3) := by decide +kernel
theorem d_Bc_clash_56 : decode c_Bc_clash 56 = .ok (.ifCond .ne 5, 3) := by decide +kernel
theorem d_Bc_clash_59 : decode c_Bc_clash 59 = .ok (.iconst (-1), 1) := by decide +kernel
theorem d_Bc_clash_60 : decode c_Bc_clash 60 = .ok (.ireturn, 1) := by decide +kernel
theorem d_Bc_clash_61 : decode c_Bc_clash 61 = .ok (.aload_n 0, 1) := by decide +kernel
theorem d_Bc_clash_62 : decode c_Bc_clash 62 = .ok (.getfield 62, 3) := by decide +kernel
theorem d_Bc_clash_65 : decode c_Bc_clash 65 = .ok (.aload_n 3, 1) := by decide +kernel
theorem d_Bc_clash_66 : decode c_Bc_clash 66 = .ok (.invokevirtual 197, 3) := by decide +kernel
theorem d_Bc_clash_69 : decode c_Bc_clash 69 = .ok (.aload_n 0, 1) := by decide +kernel
theorem d_Bc_clash_70 : decode c_Bc_clash 70 = .ok (.getfield 66, 3) := by decide +kernel
theorem d_Bc_clash_73 : decode c_Bc_clash 73 = .ok (.aload 4, 2) := by decide +kernel
theorem d_Bc_clash_75 : decode c_Bc_clash 75 = .ok (.invokevirtual 197, 3) := by decide +kernel
theorem d_Bc_clash_78 : decode c_Bc_clash 78 = .ok (.aload_n 3, 1) := by decide +kernel
theorem d_Bc_clash_79 : decode c_Bc_clash 79 = .ok (.getfield 129, 3) := by decide +kernel
theorem d_Bc_clash_82 : decode c_Bc_clash 82 = .ok (.aload 4, 2) := by decide +kernel
theorem d_Bc_clash_84 : decode c_Bc_clash 84 = .ok (.getfield 129, 3) := by decide +kernel
theorem d_Bc_clash_87 : decode c_Bc_clash 87 = .ok (.iadd, 1) := by decide +kernel
theorem d_Bc_clash_88 : decode c_Bc_clash 88 = .ok (.i2l, 1) := by decide +kernel
theorem d_Bc_clash_89 : decode c_Bc_clash 89 = .ok (.lstore 5, 2) := by decide +kernel
theorem d_Bc_clash_91 : decode c_Bc_clash 91 = .ok (.aload_n 3, 1) := by decide +kernel
theorem d_Bc_clash_92 : decode c_Bc_clash 92 = .ok (.getfield 187, 3) := by decide +kernel
theorem d_Bc_clash_95 : decode c_Bc_clash 95 = .ok (.aload 4, 2) := by decide +kernel
theorem d_Bc_clash_97 : decode c_Bc_clash 97 = .ok (.getfield 187, 3) := by decide +kernel
theorem d_Bc_clash_100 : decode c_Bc_clash 100 = .ok (.isub, 1) := by decide +kernel
theorem d_Bc_clash_101 : decode c_Bc_clash 101 = .ok (.i2l, 1) := by decide +kernel
theorem d_Bc_clash_102 : decode c_Bc_clash 102 = .ok (.lstore 7, 2) := by decide +kernel
theorem d_Bc_clash_104 : decode c_Bc_clash 104 = .ok (.lload 5, 2) := by decide +kernel
theorem d_Bc_clash_106 : decode c_Bc_clash 106 = .ok (.lload 5, 2) := by decide +kernel
theorem d_Bc_clash_108 : decode c_Bc_clash 108 = .ok (.lmul, 1) := by decide +kernel
theorem d_Bc_clash_109 : decode c_Bc_clash 109 = .ok (.ldc2_w 210, 3) := by decide +kernel
theorem d_Bc_clash_112 : decode c_Bc_clash 112 = .ok (.lload 7, 2) := by decide +kernel
theorem d_Bc_clash_114 : decode c_Bc_clash 114 = .ok (.lmul, 1) := by decide +kernel
theorem d_Bc_clash_115 : decode c_Bc_clash 115 = .ok (.lload 7, 2) := by decide +kernel
theorem d_Bc_clash_117 : decode c_Bc_clash 117 = .ok (.lmul, 1) := by decide +kernel
theorem d_Bc_clash_118 : decode c_Bc_clash 118 = .ok (.lsub, 1) := by decide +kernel
theorem d_Bc_clash_119 : decode c_Bc_clash 119 = .ok (.lstore 9, 2) := by decide +kernel
theorem d_Bc_clash_121 : decode c_Bc_clash 121 = .ok (.ldc2_w 210, 3) := by decide +kernel
theorem d_Bc_clash_124 : decode c_Bc_clash 124 = .ok (.aload_n 0, 1) := by decide +kernel
theorem d_Bc_clash_125 : decode c_Bc_clash 125 = .ok (.getfield 62, 3) := by decide +kernel
theorem d_Bc_clash_128 : decode c_Bc_clash 128 = .ok (.aload_n 0, 1) := by decide +kernel
theorem d_Bc_clash_129 : decode c_Bc_clash 129 = .ok (.getfield 66, 3) := by decide +kernel
theorem d_Bc_clash_132 : decode c_Bc_clash 132 = .ok (.invokevirtual 212, 3) := by decide +kernel
theorem d_Bc_clash_135 : decode c_Bc_clash 135 = .ok (.lmul, 1) := by decide +kernel
theorem d_Bc_clash_136 : decode c_Bc_clash 136 = .ok (.lload 9, 2) := by decide +kernel
theorem d_Bc_clash_138 : decode c_Bc_clash 138 = .ok (.lcmp, 1) := by decide +kernel
theorem d_Bc_clash_139 : decode c_Bc_clash 139 = .ok (.ifCond .ge 7, 3) := by decide +kernel
theorem d_Bc_clash_142 : decode c_Bc_clash 142 = .ok (.iconst 1, 1) := by decide +kernel
theorem d_Bc_clash_143 : decode c_Bc_clash 143 = .ok (.goto 4, 3) := by decide +kernel
theorem d_Bc_clash_146 : decode c_Bc_clash 146 = .ok (.iconst 0, 1) := by decide +kernel
theorem d_Bc_clash_147 : decode c_Bc_clash 147 = .ok (.ireturn, 1) := by decide +kernel
theorem d_Bc_lap_0 : decode c_Bc_lap 0 = .ok (.aload_n 0, 1) := by decide +kernel
theorem d_Bc_lap_1 : decode c_Bc_lap 1 = .ok (.iload_n 1, 1) := by decide +kernel
theorem d_Bc_lap_2 : decode c_Bc_lap 2 = .ok (.invokevirtual 102, 3) := by decide +kernel
theorem d_Bc_lap_5 : decode c_Bc_lap 5 = .ok (.astore 4, 2) := by decide +kernel
theorem d_Bc_lap_7 : decode c_Bc_lap 7 = .ok (.aload 4, 2) := by decide +kernel
theorem d_Bc_lap_9 : decode c_Bc_lap 9 = .ok (.ifnull 17, 3) := by decide +kernel
theorem d_Bc_lap_12 : decode c_Bc_lap 12 = .ok (.lload_n 2, 1) := by decide +kernel
theorem d_Bc_lap_13 : decode c_Bc_lap 13 = .ok (.lconst 0, 1) := by decide +kernel
theorem d_Bc_lap_14 : decode c_Bc_lap 14 = .ok (.lcmp, 1) := by decide +kernel
theorem d_Bc_lap_15 : decode c_Bc_lap 15 = .ok (.ifCond .lt 11, 3) := by decide +kernel
theorem d_Bc_lap_18 : decode c_Bc_lap 18 = .ok (.lload_n 2, 1) := by decide +kernel
theorem d_Bc_lap_19 : decode c_Bc_lap 19 = .ok (.ldc2_w 216, 3) := by decide +kernel
theorem d_Bc_lap_22 : decode c_Bc_lap 22 = .ok (.lcmp, 1) := by decide +kernel
theorem d_Bc_lap_23 : decode c_Bc_lap 23 = .ok (.ifCond .le 5, 3) := by decide +kernel
theorem d_Bc_lap_26 : decode c_Bc_lap 26 = .ok (.iconst (-1), 1) := by decide +kernel
theorem d_Bc_lap_27 : decode c_Bc_lap 27 = .ok (.ireturn, 1) := by decide +kernel
theorem d_Bc_lap_28 : decode c_Bc_lap 28 = .ok (.aload_n 0, 1) := by decide +kernel
theorem d_Bc_lap_29 : decode c_Bc_lap 29 = .ok (.getfield 34, 3) := by decide +kernel
theorem d_Bc_lap_32 : decode c_Bc_lap 32 = .ok (.aload 4, 2) := by decide +kernel
theorem d_Bc_lap_34 : decode c_Bc_lap 34 = .ok (.getfield 129, 3) := by decide +kernel
theorem d_Bc_lap_37 : decode c_Bc_lap 37 = .ok (.iconst 4, 1) := by decide +kernel
theorem d_Bc_lap_38 : decode c_Bc_lap 38 = .ok (.isub, 1) := by decide +kernel
theorem d_Bc_lap_39 : decode c_Bc_lap 39 = .ok (.aaload, 1) := by decide +kernel
theorem d_Bc_lap_40 : decode c_Bc_lap 40 = .ok (.astore 5, 2) := by decide +kernel
theorem d_Bc_lap_42 : decode c_Bc_lap 42 = .ok (.aload 5, 2) := by decide +kernel
theorem d_Bc_lap_44 : decode c_Bc_lap 44 = .ok (.ifnonnull 5, 3) := by decide +kernel
theorem d_Bc_lap_47 : decode c_Bc_lap 47 = .ok (.iconst (-1), 1) := by decide +kernel
theorem d_Bc_lap_48 : decode c_Bc_lap 48 = .ok (.ireturn, 1) := by decide +kernel
theorem d_Bc_lap_49 : decode c_Bc_lap 49 = .ok (.aload 5, 2) := by decide +kernel
theorem d_Bc_lap_51 : decode c_Bc_lap 51 = .ok (.invokevirtual 218, 3) := by decide +kernel
theorem d_Bc_lap_54 : decode c_Bc_lap 54 = .ok (.istore 6, 2) := by decide +kernel
theorem d_Bc_lap_56 : decode c_Bc_lap 56 = .ok (.iload 6, 2) := by decide +kernel
theorem d_Bc_lap_58 : decode c_Bc_lap 58 = .ok (.lload_n 2, 1) := by decide +kernel
theorem d_Bc_lap_59 : decode c_Bc_lap 59 = .ok (.l2i, 1) := by decide +kernel
theorem d_Bc_lap_60 : decode c_Bc_lap 60 = .ok (.isub, 1) := by decide +kernel
theorem d_Bc_lap_61 : decode c_Bc_lap 61 = .ok (.istore 7, 2) := by decide +kernel
theorem d_Bc_lap_63 : decode c_Bc_lap 63 = .ok (.iload 7, 2) := by decide +kernel
theorem d_Bc_lap_65 : decode c_Bc_lap 65 = .ok (.iconst 1, 1) := by decide +kernel
theorem d_Bc_lap_66 : decode c_Bc_lap 66 = .ok (.if_icmp .ge 5, 3) := by decide +kernel
theorem d_Bc_lap_69 : decode c_Bc_lap 69 = .ok (.iconst (-1), 1) := by decide +kernel
theorem d_Bc_lap_70 : decode c_Bc_lap 70 = .ok (.ireturn, 1) := by decide +kernel
theorem d_Bc_lap_71 : decode c_Bc_lap 71 = .ok (.aload_n 0, 1) := by decide +kernel
theorem d_Bc_lap_72 : decode c_Bc_lap 72 = .ok (.aload 4, 2) := by decide +kernel
theorem d_Bc_lap_74 : decode c_Bc_lap 74 = .ok (.invokevirtual 119, 3) := by decide +kernel
theorem d_Bc_lap_77 : decode c_Bc_lap 77 = .ok (.iload 6, 2) := by decide +kernel
theorem d_Bc_lap_79 : decode c_Bc_lap 79 = .ok (.isub, 1) := by decide +kernel
theorem d_Bc_lap_80 : decode c_Bc_lap 80 = .ok (.istore 8, 2) := by decide +kernel
theorem d_Bc_lap_82 : decode c_Bc_lap 82 = .ok (.iload 8, 2) := by decide +kernel
theorem d_Bc_lap_84 : decode c_Bc_lap 84 = .ok (.ifCond .gt 7, 3) := by decide +kernel
theorem d_Bc_lap_87 : decode c_Bc_lap 87 = .ok (.iconst 0, 1) := by decide +kernel
theorem d_Bc_lap_88 : decode c_Bc_lap 88 = .ok (.goto 13, 3) := by decide +kernel
theorem d_Bc_lap_91 : decode c_Bc_lap 91 = .ok (.iload 8, 2) := by decide +kernel
theorem d_Bc_lap_93 : decode c_Bc_lap 93 = .ok (.iload 7, 2) := by decide +kernel
theorem d_Bc_lap_95 : decode c_Bc_lap 95 = .ok (.iadd, 1) := by decide +kernel
theorem d_Bc_lap_96 : decode c_Bc_lap 96 = .ok (.iconst 1, 1) := by decide +kernel
theorem d_Bc_lap_97 : decode c_Bc_lap 97 = .ok (.isub, 1) := by decide +kernel
theorem d_Bc_lap_98 : decode c_Bc_lap 98 = .ok (.iload 7, 2) := by decide +kernel
theorem d_Bc_lap_100 : decode c_Bc_lap 100 = .ok (.idiv, 1) := by decide +kernel
theorem d_Bc_lap_101 : decode c_Bc_lap 101 = .ok (.ireturn, 1) := by decide +kernel
theorem d_Bc_weight_0 : decode c_Bc_weight 0 = .ok (.aload_n 0, 1) := by decide +kernel
theorem d_Bc_weight_1 : decode c_Bc_weight 1 = .ok (.iload_n 1, 1) := by decide +kernel
theorem d_Bc_weight_2 : decode c_Bc_weight 2 = .ok (.invokevirtual 102, 3) := by decide +kernel
theorem d_Bc_weight_5 : decode c_Bc_weight 5 = .ok (.astore_n 3, 1) := by decide +kernel
theorem d_Bc_weight_6 : decode c_Bc_weight 6 = .ok (.aload_n 3, 1) := by decide +kernel
theorem d_Bc_weight_7 : decode c_Bc_weight 7 = .ok (.ifnonnull 7, 3) := by decide +kernel
theorem d_Bc_weight_10 : decode c_Bc_weight 10 = .ok (.ldc2_w 117, 3) := by decide +kernel
theorem d_Bc_weight_13 : decode c_Bc_weight 13 = .ok (.lreturn, 1) := by decide +kernel
theorem d_Bc_weight_14 : decode c_Bc_weight 14 = .ok (.aload_n 3, 1) := by decide +kernel
theorem d_Bc_weight_15 : decode c_Bc_weight 15 = .ok (.getfield 129, 3) := by decide +kernel
theorem d_Bc_weight_18 : decode c_Bc_weight 18 = .ok (.i2l, 1) := by decide +kernel
theorem d_Bc_weight_19 : decode c_Bc_weight 19 = .ok (.aload_n 3, 1) := by decide +kernel
theorem d_Bc_weight_20 : decode c_Bc_weight 20 = .ok (.getfield 129, 3) := by decide +kernel
theorem d_Bc_weight_23 : decode c_Bc_weight 23 = .ok (.i2l, 1) := by decide +kernel
theorem d_Bc_weight_24 : decode c_Bc_weight 24 = .ok (.lmul, 1) := by decide +kernel
theorem d_Bc_weight_25 : decode c_Bc_weight 25 = .ok (.aload_n 0, 1) := by decide +kernel
theorem d_Bc_weight_26 : decode c_Bc_weight 26 = .ok (.aload_n 3, 1) := by decide +kernel
theorem d_Bc_weight_27 : decode c_Bc_weight 27 = .ok (.invokevirtual 119, 3) := by decide +kernel
theorem d_Bc_weight_30 : decode c_Bc_weight 30 = .ok (.i2l, 1) := by decide +kernel
theorem d_Bc_weight_31 : decode c_Bc_weight 31 = .ok (.lmul, 1) := by decide +kernel
theorem d_Bc_weight_32 : decode c_Bc_weight 32 = .ok (.aload_n 3, 1) := by decide +kernel
theorem d_Bc_weight_33 : decode c_Bc_weight 33 = .ok (.getfield 123, 3) := by decide +kernel
theorem d_Bc_weight_36 : decode c_Bc_weight 36 = .ok (.i2l, 1) := by decide +kernel
theorem d_Bc_weight_37 : decode c_Bc_weight 37 = .ok (.lmul, 1) := by decide +kernel
theorem d_Bc_weight_38 : decode c_Bc_weight 38 = .ok (.lstore 4, 2) := by decide +kernel
theorem d_Bc_weight_40 : decode c_Bc_weight 40 = .ok (.lload 4, 2) := by decide +kernel
theorem d_Bc_weight_42 : decode c_Bc_weight 42 = .ok (.invokestatic 221, 3) := by decide +kernel
theorem d_Bc_weight_45 : decode c_Bc_weight 45 = .ok (.istore 6, 2) := by decide +kernel
theorem d_Bc_weight_47 : decode c_Bc_weight 47 = .ok (.iload_n 2, 1) := by decide +kernel
theorem d_Bc_weight_48 : decode c_Bc_weight 48 = .ok (.lookupswitch 43 #[(0, 28), (1, 35)], 28) := by decide +kernel
theorem d_Bc_weight_76 : decode c_Bc_weight 76 = .ok (.lload 4, 2) := by decide +kernel
theorem d_Bc_weight_78 : decode c_Bc_weight 78 = .ok (.iload 6, 2) := by decide +kernel
theorem d_Bc_weight_80 : decode c_Bc_weight 80 = .ok (.i2l, 1) := by decide +kernel
theorem d_Bc_weight_81 : decode c_Bc_weight 81 = .ok (.ldiv, 1) := by decide +kernel
theorem d_Bc_weight_82 : decode c_Bc_weight 82 = .ok (.lreturn, 1) := by decide +kernel
theorem d_Bc_weight_83 : decode c_Bc_weight 83 = .ok (.sipush 162, 3) := by decide +kernel
theorem d_Bc_weight_86 : decode c_Bc_weight 86 = .ok (.iload 6, 2) := by decide +kernel
theorem d_Bc_weight_88 : decode c_Bc_weight 88 = .ok (.idiv, 1) := by decide +kernel
theorem d_Bc_weight_89 : decode c_Bc_weight 89 = .ok (.i2l, 1) := by decide +kernel
theorem d_Bc_weight_90 : decode c_Bc_weight 90 = .ok (.lreturn, 1) := by decide +kernel
theorem d_Bc_weight_91 : decode c_Bc_weight 91 = .ok (.ldc2_w 117, 3) := by decide +kernel
theorem d_Bc_weight_94 : decode c_Bc_weight 94 = .ok (.lreturn, 1) := by decide +kernel
theorem d_Bc_tag_0 : decode c_Bc_tag 0 = .ok (.aload_n 0, 1) := by decide +kernel
theorem d_Bc_tag_1 : decode c_Bc_tag 1 = .ok (.iload_n 1, 1) := by decide +kernel
theorem d_Bc_tag_2 : decode c_Bc_tag 2 = .ok (.invokevirtual 102, 3) := by decide +kernel
theorem d_Bc_tag_5 : decode c_Bc_tag 5 = .ok (.astore_n 3, 1) := by decide +kernel
theorem d_Bc_tag_6 : decode c_Bc_tag 6 = .ok (.aload_n 3, 1) := by decide +kernel
theorem d_Bc_tag_7 : decode c_Bc_tag 7 = .ok (.ifnonnull 7, 3) := by decide +kernel
theorem d_Bc_tag_10 : decode c_Bc_tag 10 = .ok (.iconst (-1), 1) := by decide +kernel
theorem d_Bc_tag_11 : decode c_Bc_tag 11 = .ok (.goto 8, 3) := by decide +kernel
theorem d_Bc_tag_14 : decode c_Bc_tag 14 = .ok (.aload_n 3, 1) := by decide +kernel
theorem d_Bc_tag_15 : decode c_Bc_tag 15 = .ok (.iload_n 2, 1) := by decide +kernel
theorem d_Bc_tag_16 : decode c_Bc_tag 16 = .ok (.invokevirtual 225, 3) := by decide +kernel
theorem d_Bc_tag_19 : decode c_Bc_tag 19 = .ok (.ireturn, 1) := by decide +kernel
theorem d_Bc_differs_0 : decode c_Bc_differs 0 = .ok (.aload_n 0, 1) := by decide +kernel
theorem d_Bc_differs_1 : decode c_Bc_differs 1 = .ok (.iload_n 1, 1) := by decide +kernel
theorem d_Bc_differs_2 : decode c_Bc_differs 2 = .ok (.invokevirtual 102, 3) := by decide +kernel
theorem d_Bc_differs_5 : decode c_Bc_differs 5 = .ok (.astore 4, 2) := by decide +kernel
theorem d_Bc_differs_7 : decode c_Bc_differs 7 = .ok (.aload_n 0, 1) := by decide +kernel
theorem d_Bc_differs_8 : decode c_Bc_differs 8 = .ok (.iload_n 2, 1) := by decide +kernel
theorem d_Bc_differs_9 : decode c_Bc_differs 9 = .ok (.invokevirtual 102, 3) := by decide +kernel
theorem d_Bc_differs_12 : decode c_Bc_differs 12 = .ok (.astore 5, 2) := by decide +kernel
theorem d_Bc_differs_14 : decode c_Bc_differs 14 = .ok (.aload 4, 2) := by decide +kernel
theorem d_Bc_differs_16 : decode c_Bc_differs 16 = .ok (.ifnull 12, 3) := by decide +kernel
theorem d_Bc_differs_19 : decode c_Bc_differs 19 = .ok (.aload 5, 2) := by decide +kernel
theorem d_Bc_differs_21 : decode c_Bc_differs 21 = .ok (.ifnull 7, 3) := by decide +kernel
theorem d_Bc_differs_24 : decode c_Bc_differs 24 = .ok (.iload_n 3, 1) := by decide +kernel
theorem d_Bc_differs_25 : decode c_Bc_differs 25 = .ok (.ifCond .ge 5, 3) := by decide +kernel
theorem d_Bc_differs_28 : decode c_Bc_differs 28 = .ok (.iconst (-1), 1) := by decide +kernel
theorem d_Bc_differs_29 : decode c_Bc_differs 29 = .ok (.ireturn, 1) := by decide +kernel
theorem d_Bc_differs_30 : decode c_Bc_differs 30 = .ok (.iconst 0, 1) := by decide +kernel
theorem d_Bc_differs_31 : decode c_Bc_differs 31 = .ok (.istore 6, 2) := by decide +kernel
theorem d_Bc_differs_33 : decode c_Bc_differs 33 = .ok (.iconst 0, 1) := by decide +kernel
theorem d_Bc_differs_34 : decode c_Bc_differs 34 = .ok (.istore 7, 2) := by decide +kernel
theorem d_Bc_differs_36 : decode c_Bc_differs 36 = .ok (.iload 7, 2) := by decide +kernel
theorem d_Bc_differs_38 : decode c_Bc_differs 38 = .ok (.bipush 9, 2) := by decide +kernel
theorem d_Bc_differs_40 : decode c_Bc_differs 40 = .ok (.if_icmp .ge 38, 3) := by decide +kernel
theorem d_Bc_differs_43 : decode c_Bc_differs 43 = .ok (.aload 4, 2) := by decide +kernel
theorem d_Bc_differs_45 : decode c_Bc_differs 45 = .ok (.iload 7, 2) := by decide +kernel
theorem d_Bc_differs_47 : decode c_Bc_differs 47 = .ok (.invokevirtual 229, 3) := by decide +kernel
theorem d_Bc_differs_50 : decode c_Bc_differs 50 = .ok (.aload 5, 2) := by decide +kernel
theorem d_Bc_differs_52 : decode c_Bc_differs 52 = .ok (.iload 7, 2) := by decide +kernel
theorem d_Bc_differs_54 : decode c_Bc_differs 54 = .ok (.invokevirtual 229, 3) := by decide +kernel
theorem d_Bc_differs_57 : decode c_Bc_differs 57 = .ok (.if_icmp .eq 15, 3) := by decide +kernel
theorem d_Bc_differs_60 : decode c_Bc_differs 60 = .ok (.iload 6, 2) := by decide +kernel
theorem d_Bc_differs_62 : decode c_Bc_differs 62 = .ok (.iload_n 3, 1) := by decide +kernel
theorem d_Bc_differs_63 : decode c_Bc_differs 63 = .ok (.if_icmp .ne 6, 3) := by decide +kernel
theorem d_Bc_differs_66 : decode c_Bc_differs 66 = .ok (.iload 7, 2) := by decide +kernel
theorem d_Bc_differs_68 : decode c_Bc_differs 68 = .ok (.ireturn, 1) := by decide +kernel
theorem d_Bc_differs_69 : decode c_Bc_differs 69 = .ok (.iinc 6 1, 3) := by decide +kernel
theorem d_Bc_differs_72 : decode c_Bc_differs 72 = .ok (.iinc 7 1, 3) := by decide +kernel
theorem d_Bc_differs_75 : decode c_Bc_differs 75 = .ok (.goto (-39), 3) := by decide +kernel
theorem d_Bc_differs_78 : decode c_Bc_differs 78 = .ok (.iconst (-1), 1) := by decide +kernel
theorem d_Bc_differs_79 : decode c_Bc_differs 79 = .ok (.ireturn, 1) := by decide +kernel
theorem d_Bc_order_0 : decode c_Bc_order 0 = .ok (.iconst 0, 1) := by decide +kernel
theorem d_Bc_order_1 : decode c_Bc_order 1 = .ok (.istore_n 2, 1) := by decide +kernel
theorem d_Bc_order_2 : decode c_Bc_order 2 = .ok (.iload_n 2, 1) := by decide +kernel
theorem d_Bc_order_3 : decode c_Bc_order 3 = .ok (.aload_n 0, 1) := by decide +kernel
theorem d_Bc_order_4 : decode c_Bc_order 4 = .ok (.getfield 73, 3) := by decide +kernel
theorem d_Bc_order_7 : decode c_Bc_order 7 = .ok (.if_icmp .ge 20, 3) := by decide +kernel
theorem d_Bc_order_10 : decode c_Bc_order 10 = .ok (.aload_n 0, 1) := by decide +kernel
theorem d_Bc_order_11 : decode c_Bc_order 11 = .ok (.iload_n 2, 1) := by decide +kernel
theorem d_Bc_order_12 : decode c_Bc_order 12 = .ok (.invokevirtual 232, 3) := by decide +kernel
theorem d_Bc_order_15 : decode c_Bc_order 15 = .ok (.iload_n 1, 1) := by decide +kernel
theorem d_Bc_order_16 : decode c_Bc_order 16 = .ok (.if_icmp .ne 5, 3) := by decide +kernel
theorem d_Bc_order_19 : decode c_Bc_order 19 = .ok (.iload_n 2, 1) := by decide +kernel
theorem d_Bc_order_20 : decode c_Bc_order 20 = .ok (.ireturn, 1) := by decide +kernel
theorem d_Bc_order_21 : decode c_Bc_order 21 = .ok (.iinc 2 1, 3) := by decide +kernel
theorem d_Bc_order_24 : decode c_Bc_order 24 = .ok (.goto (-22), 3) := by decide +kernel
theorem d_Bc_order_27 : decode c_Bc_order 27 = .ok (.iconst (-1), 1) := by decide +kernel
theorem d_Bc_order_28 : decode c_Bc_order 28 = .ok (.ireturn, 1) := by decide +kernel
theorem d_Bc_isDiameter_0 : decode c_Bc_isDiameter 0 = .ok (.iload_n 0, 1) := by decide +kernel
theorem d_Bc_isDiameter_1 : decode c_Bc_isDiameter 1 = .ok (.iconst 4, 1) := by decide +kernel
theorem d_Bc_isDiameter_2 : decode c_Bc_isDiameter 2 = .ok (.if_icmp .lt 13, 3) := by decide +kernel
theorem d_Bc_isDiameter_5 : decode c_Bc_isDiameter 5 = .ok (.iload_n 0, 1) := by decide +kernel
theorem d_Bc_isDiameter_6 : decode c_Bc_isDiameter 6 = .ok (.bipush 40, 2) := by decide +kernel
theorem d_Bc_isDiameter_8 : decode c_Bc_isDiameter 8 = .ok (.if_icmp .gt 7, 3) := by decide +kernel
theorem d_Bc_isDiameter_11 : decode c_Bc_isDiameter 11 = .ok (.iconst 1, 1) := by decide +kernel
theorem d_Bc_isDiameter_12 : decode c_Bc_isDiameter 12 = .ok (.goto 4, 3) := by decide +kernel
theorem d_Bc_isDiameter_15 : decode c_Bc_isDiameter 15 = .ok (.iconst 0, 1) := by decide +kernel
theorem d_Bc_isDiameter_16 : decode c_Bc_isDiameter 16 = .ok (.ireturn, 1) := by decide +kernel
theorem d_Bc_isPlace_0 : decode c_Bc_isPlace 0 = .ok (.lload_n 0, 1) := by decide +kernel
theorem d_Bc_isPlace_1 : decode c_Bc_isPlace 1 = .ok (.ldc2_w 235, 3) := by decide +kernel
theorem d_Bc_isPlace_4 : decode c_Bc_isPlace 4 = .ok (.lcmp, 1) := by decide +kernel
theorem d_Bc_isPlace_5 : decode c_Bc_isPlace 5 = .ok (.ifCond .lt 15, 3) := by decide +kernel
theorem d_Bc_isPlace_8 : decode c_Bc_isPlace 8 = .ok (.lload_n 0, 1) := by decide +kernel
theorem d_Bc_isPlace_9 : decode c_Bc_isPlace 9 = .ok (.ldc2_w 237, 3) := by decide +kernel
theorem d_Bc_isPlace_12 : decode c_Bc_isPlace 12 = .ok (.lcmp, 1) := by decide +kernel
theorem d_Bc_isPlace_13 : decode c_Bc_isPlace 13 = .ok (.ifCond .gt 7, 3) := by decide +kernel
theorem d_Bc_isPlace_16 : decode c_Bc_isPlace 16 = .ok (.iconst 1, 1) := by decide +kernel
theorem d_Bc_isPlace_17 : decode c_Bc_isPlace 17 = .ok (.goto 4, 3) := by decide +kernel
theorem d_Bc_isPlace_20 : decode c_Bc_isPlace 20 = .ok (.iconst 0, 1) := by decide +kernel
theorem d_Bc_isPlace_21 : decode c_Bc_isPlace 21 = .ok (.ireturn, 1) := by decide +kernel
theorem d_Bc_lineAt_0 : decode c_Bc_lineAt 0 = .ok (.iload_n 1, 1) := by decide +kernel
theorem d_Bc_lineAt_1 : decode c_Bc_lineAt 1 = .ok (.ifCond .lt 20, 3) := by decide +kernel
theorem d_Bc_lineAt_4 : decode c_Bc_lineAt 4 = .ok (.iload_n 1, 1) := by decide +kernel
theorem d_Bc_lineAt_5 : decode c_Bc_lineAt 5 = .ok (.aload_n 0, 1) := by decide +kernel
theorem d_Bc_lineAt_6 : decode c_Bc_lineAt 6 = .ok (.getfield 73, 3) := by decide +kernel
theorem d_Bc_lineAt_9 : decode c_Bc_lineAt 9 = .ok (.if_icmp .ge 12, 3) := by decide +kernel
theorem d_Bc_lineAt_12 : decode c_Bc_lineAt 12 = .ok (.aload_n 0, 1) := by decide +kernel
theorem d_Bc_lineAt_13 : decode c_Bc_lineAt 13 = .ok (.getfield 24, 3) := by decide +kernel
theorem d_Bc_lineAt_16 : decode c_Bc_lineAt 16 = .ok (.iload_n 1, 1) := by decide +kernel
theorem d_Bc_lineAt_17 : decode c_Bc_lineAt 17 = .ok (.aaload, 1) := by decide +kernel
theorem d_Bc_lineAt_18 : decode c_Bc_lineAt 18 = .ok (.goto 4, 3) := by decide +kernel
theorem d_Bc_lineAt_21 : decode c_Bc_lineAt 21 = .ok (.aconst_null, 1) := by decide +kernel
theorem d_Bc_lineAt_22 : decode c_Bc_lineAt 22 = .ok (.areturn, 1) := by decide +kernel
theorem d_Bc_cutLength_0 : decode c_Bc_cutLength 0 = .ok (.aload_n 0, 1) := by decide +kernel
theorem d_Bc_cutLength_1 : decode c_Bc_cutLength 1 = .ok (.getfield 28, 3) := by decide +kernel
theorem d_Bc_cutLength_4 : decode c_Bc_cutLength 4 = .ok (.aload_n 1, 1) := by decide +kernel
theorem d_Bc_cutLength_5 : decode c_Bc_cutLength 5 = .ok (.getfield 129, 3) := by decide +kernel
theorem d_Bc_cutLength_8 : decode c_Bc_cutLength 8 = .ok (.iconst 4, 1) := by decide +kernel
theorem d_Bc_cutLength_9 : decode c_Bc_cutLength 9 = .ok (.isub, 1) := by decide +kernel
theorem d_Bc_cutLength_10 : decode c_Bc_cutLength 10 = .ok (.iaload, 1) := by decide +kernel
theorem d_Bc_cutLength_11 : decode c_Bc_cutLength 11 = .ok (.aload_n 1, 1) := by decide +kernel
theorem d_Bc_cutLength_12 : decode c_Bc_cutLength 12 = .ok (.getfield 106, 3) := by decide +kernel
theorem d_Bc_cutLength_15 : decode c_Bc_cutLength 15 = .ok (.getfield 239, 3) := by decide +kernel
theorem d_Bc_cutLength_18 : decode c_Bc_cutLength 18 = .ok (.imul, 1) := by decide +kernel
theorem d_Bc_cutLength_19 : decode c_Bc_cutLength 19 = .ok (.istore_n 2, 1) := by decide +kernel
theorem d_Bc_cutLength_20 : decode c_Bc_cutLength 20 = .ok (.iconst 0, 1) := by decide +kernel
theorem d_Bc_cutLength_21 : decode c_Bc_cutLength 21 = .ok (.aload_n 1, 1) := by decide +kernel
theorem d_Bc_cutLength_22 : decode c_Bc_cutLength 22 = .ok (.invokevirtual 126, 3) := by decide +kernel
theorem d_Bc_cutLength_25 : decode c_Bc_cutLength 25 = .ok (.iload_n 2, 1) := by decide +kernel
theorem d_Bc_cutLength_26 : decode c_Bc_cutLength 26 = .ok (.isub, 1) := by decide +kernel
theorem d_Bc_cutLength_27 : decode c_Bc_cutLength 27 = .ok (.invokestatic 242, 3) := by decide +kernel
theorem d_Bc_cutLength_30 : decode c_Bc_cutLength 30 = .ok (.ireturn, 1) := by decide +kernel
theorem d_Bc_cutDiameter_0 : decode c_Bc_cutDiameter 0 = .ok (.aload_n 0, 1) := by decide +kernel
theorem d_Bc_cutDiameter_1 : decode c_Bc_cutDiameter 1 = .ok (.getfield 41, 3) := by decide +kernel
theorem d_Bc_cutDiameter_4 : decode c_Bc_cutDiameter 4 = .ok (.getfield 247, 3) := by decide +kernel
theorem d_Bc_cutDiameter_7 : decode c_Bc_cutDiameter 7 = .ok (.istore_n 3, 1) := by decide +kernel
theorem d_Bc_cutDiameter_8 : decode c_Bc_cutDiameter 8 = .ok (.aload_n 0, 1) := by decide +kernel
theorem d_Bc_cutDiameter_9 : decode c_Bc_cutDiameter 9 = .ok (.iload_n 1, 1) := by decide +kernel
theorem d_Bc_cutDiameter_10 : decode c_Bc_cutDiameter 10 = .ok (.iload_n 3, 1) := by decide +kernel
theorem d_Bc_cutDiameter_11 : decode c_Bc_cutDiameter 11 = .ok (.invokevirtual 250, 3) := by decide +kernel
theorem d_Bc_cutDiameter_14 : decode c_Bc_cutDiameter 14 = .ok (.ifCond .ne 5, 3) := by decide +kernel
theorem d_Bc_cutDiameter_17 : decode c_Bc_cutDiameter 17 = .ok (.iconst 0, 1) := by decide +kernel
theorem d_Bc_cutDiameter_18 : decode c_Bc_cutDiameter 18 = .ok (.ireturn, 1) := by decide +kernel
theorem d_Bc_cutDiameter_19 : decode c_Bc_cutDiameter 19 = .ok (.aload_n 0, 1) := by decide +kernel
theorem d_Bc_cutDiameter_20 : decode c_Bc_cutDiameter 20 = .ok (.getfield 41, 3) := by decide +kernel
theorem d_Bc_cutDiameter_23 : decode c_Bc_cutDiameter 23 = .ok (.getfield 247, 3) := by decide +kernel
theorem d_Bc_cutDiameter_26 : decode c_Bc_cutDiameter 26 = .ok (.iload_n 3, 1) := by decide +kernel
theorem d_Bc_cutDiameter_27 : decode c_Bc_cutDiameter 27 = .ok (.isub, 1) := by decide +kernel
theorem d_Bc_cutDiameter_28 : decode c_Bc_cutDiameter 28 = .ok (.istore 4, 2) := by decide +kernel
theorem d_Bc_cutDiameter_30 : decode c_Bc_cutDiameter 30 = .ok (.iload 4, 2) := by decide +kernel
theorem d_Bc_cutDiameter_32 : decode c_Bc_cutDiameter 32 = .ok (.ifCond .ne 5, 3) := by decide +kernel
theorem d_Bc_cutDiameter_35 : decode c_Bc_cutDiameter 35 = .ok (.iconst 1, 1) := by decide +kernel
theorem d_Bc_cutDiameter_36 : decode c_Bc_cutDiameter 36 = .ok (.ireturn, 1) := by decide +kernel
theorem d_Bc_cutDiameter_37 : decode c_Bc_cutDiameter 37 = .ok (.aload_n 0, 1) := by decide +kernel
theorem d_Bc_cutDiameter_38 : decode c_Bc_cutDiameter 38 = .ok (.getfield 34, 3) := by decide +kernel
theorem d_Bc_cutDiameter_41 : decode c_Bc_cutDiameter 41 = .ok (.iload_n 1, 1) := by decide +kernel
theorem d_Bc_cutDiameter_42 : decode c_Bc_cutDiameter 42 = .ok (.iconst 4, 1) := by decide +kernel
theorem d_Bc_cutDiameter_43 : decode c_Bc_cutDiameter 43 = .ok (.isub, 1) := by decide +kernel
theorem d_Bc_cutDiameter_44 : decode c_Bc_cutDiameter 44 = .ok (.aaload, 1) := by decide +kernel
theorem d_Bc_cutDiameter_45 : decode c_Bc_cutDiameter 45 = .ok (.astore 5, 2) := by decide +kernel
theorem d_Bc_cutDiameter_47 : decode c_Bc_cutDiameter 47 = .ok (.aload 5, 2) := by decide +kernel
theorem d_Bc_cutDiameter_49 : decode c_Bc_cutDiameter 49 = .ok (.ifnonnull 5, 3) := by decide +kernel
theorem d_Bc_cutDiameter_52 : decode c_Bc_cutDiameter 52 = .ok (.iconst 0, 1) := by decide +kernel
theorem d_Bc_cutDiameter_53 : decode c_Bc_cutDiameter 53 = .ok (.ireturn, 1) := by decide +kernel
theorem d_Bc_cutDiameter_54 : decode c_Bc_cutDiameter 54 = .ok (.aload_n 0, 1) := by decide +kernel
theorem d_Bc_cutDiameter_55 : decode c_Bc_cutDiameter 55 = .ok (.getfield 41, 3) := by decide +kernel
theorem d_Bc_cutDiameter_58 : decode c_Bc_cutDiameter 58 = .ok (.dup, 1) := by decide +kernel
theorem d_Bc_cutDiameter_59 : decode c_Bc_cutDiameter 59 = .ok (.getfield 161, 3) := by decide +kernel
theorem d_Bc_cutDiameter_62 : decode c_Bc_cutDiameter 62 = .ok (.iconst 1, 1) := by decide +kernel
theorem d_Bc_cutDiameter_63 : decode c_Bc_cutDiameter 63 = .ok (.iadd, 1) := by decide +kernel
theorem d_Bc_cutDiameter_64 : decode c_Bc_cutDiameter 64 = .ok (.putfield 161, 3) := by decide +kernel
theorem d_Bc_cutDiameter_67 : decode c_Bc_cutDiameter 67 = .ok (.iload 4, 2) := by decide +kernel
theorem d_Bc_cutDiameter_69 : decode c_Bc_cutDiameter 69 = .ok (.iload_n 2, 1) := by decide +kernel
theorem d_Bc_cutDiameter_70 : decode c_Bc_cutDiameter 70 = .ok (.if_icmp .le 19, 3) := by decide +kernel
theorem d_Bc_cutDiameter_73 : decode c_Bc_cutDiameter 73 = .ok (.aload_n 0, 1) := by decide +kernel
theorem d_Bc_cutDiameter_74 : decode c_Bc_cutDiameter 74 = .ok (.getfield 55, 3) := by decide +kernel
theorem d_Bc_cutDiameter_77 : decode c_Bc_cutDiameter 77 = .ok (.aload_n 0, 1) := by decide +kernel
theorem d_Bc_cutDiameter_78 : decode c_Bc_cutDiameter 78 = .ok (.getfield 41, 3) := by decide +kernel
theorem d_Bc_cutDiameter_81 : decode c_Bc_cutDiameter 81 = .ok (.iload_n 3, 1) := by decide +kernel
theorem d_Bc_cutDiameter_82 : decode c_Bc_cutDiameter 82 = .ok (.iload_n 1, 1) := by decide +kernel
theorem d_Bc_cutDiameter_83 : decode c_Bc_cutDiameter 83 = .ok (.aload 5, 2) := by decide +kernel
theorem d_Bc_cutDiameter_85 : decode c_Bc_cutDiameter 85 = .ok (.invokevirtual 253, 3) := by decide +kernel
theorem d_Bc_cutDiameter_88 : decode c_Bc_cutDiameter 88 = .ok (.ireturn, 1) := by decide +kernel
theorem d_Bc_cutDiameter_89 : decode c_Bc_cutDiameter 89 = .ok (.aload_n 0, 1) := by decide +kernel
theorem d_Bc_cutDiameter_90 : decode c_Bc_cutDiameter 90 = .ok (.getfield 41, 3) := by decide +kernel
theorem d_Bc_cutDiameter_93 : decode c_Bc_cutDiameter 93 = .ok (.dup, 1) := by decide +kernel
theorem d_Bc_cutDiameter_94 : decode c_Bc_cutDiameter 94 = .ok (.getfield 158, 3) := by decide +kernel
theorem d_Bc_cutDiameter_97 : decode c_Bc_cutDiameter 97 = .ok (.iconst 1, 1) := by decide +kernel
theorem d_Bc_cutDiameter_98 : decode c_Bc_cutDiameter 98 = .ok (.iadd, 1) := by decide +kernel
theorem d_Bc_cutDiameter_99 : decode c_Bc_cutDiameter 99 = .ok (.putfield 158, 3) := by decide +kernel
theorem d_Bc_cutDiameter_102 : decode c_Bc_cutDiameter 102 = .ok (.aload_n 0, 1) := by decide +kernel
theorem d_Bc_cutDiameter_103 : decode c_Bc_cutDiameter 103 = .ok (.getfield 48, 3) := by decide +kernel
theorem d_Bc_cutDiameter_106 : decode c_Bc_cutDiameter 106 = .ok (.aload_n 0, 1) := by decide +kernel
theorem d_Bc_cutDiameter_107 : decode c_Bc_cutDiameter 107 = .ok (.getfield 41, 3) := by decide +kernel
theorem d_Bc_cutDiameter_110 : decode c_Bc_cutDiameter 110 = .ok (.iload_n 3, 1) := by decide +kernel
theorem d_Bc_cutDiameter_111 : decode c_Bc_cutDiameter 111 = .ok (.iload_n 1, 1) := by decide +kernel
theorem d_Bc_cutDiameter_112 : decode c_Bc_cutDiameter 112 = .ok (.aload 5, 2) := by decide +kernel
theorem d_Bc_cutDiameter_114 : decode c_Bc_cutDiameter 114 = .ok (.invokevirtual 257, 3) := by decide +kernel
theorem d_Bc_cutDiameter_117 : decode c_Bc_cutDiameter 117 = .ok (.ireturn, 1) := by decide +kernel
theorem d_Bc_gatherPieces_0 : decode c_Bc_gatherPieces 0 = .ok (.iconst 0, 1) := by decide +kernel
theorem d_Bc_gatherPieces_1 : decode c_Bc_gatherPieces 1 = .ok (.istore_n 3, 1) := by decide +kernel
theorem d_Bc_gatherPieces_2 : decode c_Bc_gatherPieces 2 = .ok (.iload_n 3, 1) := by decide +kernel
theorem d_Bc_gatherPieces_3 : decode c_Bc_gatherPieces 3 = .ok (.aload_n 0, 1) := by decide +kernel
theorem d_Bc_gatherPieces_4 : decode c_Bc_gatherPieces 4 = .ok (.getfield 73, 3) := by decide +kernel
theorem d_Bc_gatherPieces_7 : decode c_Bc_gatherPieces 7 = .ok (.if_icmp .ge 71, 3) := by decide +kernel
theorem d_Bc_gatherPieces_10 : decode c_Bc_gatherPieces 10 = .ok (.aload_n 0, 1) := by decide +kernel
theorem d_Bc_gatherPieces_11 : decode c_Bc_gatherPieces 11 = .ok (.getfield 24, 3) := by decide +kernel
theorem d_Bc_gatherPieces_14 : decode c_Bc_gatherPieces 14 = .ok (.iload_n 3, 1) := by decide +kernel
theorem d_Bc_gatherPieces_15 : decode c_Bc_gatherPieces 15 = .ok (.aaload, 1) := by decide +kernel
theorem d_Bc_gatherPieces_16 : decode c_Bc_gatherPieces 16 = .ok (.astore 4, 2) := by decide +kernel
theorem d_Bc_gatherPieces_18 : decode c_Bc_gatherPieces 18 = .ok (.aload 4, 2) := by decide +kernel
theorem d_Bc_gatherPieces_20 : decode c_Bc_gatherPieces 20 = .ok (.getfield 129, 3) := by decide +kernel
theorem d_Bc_gatherPieces_23 : decode c_Bc_gatherPieces 23 = .ok (.iload_n 1, 1) := by decide +kernel
theorem d_Bc_gatherPieces_24 : decode c_Bc_gatherPieces 24 = .ok (.if_icmp .ne 48, 3) := by decide +kernel
theorem d_Bc_gatherPieces_27 : decode c_Bc_gatherPieces 27 = .ok (.aload_n 0, 1) := by decide +kernel
theorem d_Bc_gatherPieces_28 : decode c_Bc_gatherPieces 28 = .ok (.aload 4, 2) := by decide +kernel
theorem d_Bc_gatherPieces_30 : decode c_Bc_gatherPieces 30 = .ok (.invokevirtual 119, 3) := by decide +kernel
theorem d_Bc_gatherPieces_33 : decode c_Bc_gatherPieces 33 = .ok (.istore 5, 2) := by decide +kernel
theorem d_Bc_gatherPieces_35 : decode c_Bc_gatherPieces 35 = .ok (.iload 5, 2) := by decide +kernel
theorem d_Bc_gatherPieces_37 : decode c_Bc_gatherPieces 37 = .ok (.ifCond .ne 5, 3) := by decide +kernel
theorem d_Bc_gatherPieces_40 : decode c_Bc_gatherPieces 40 = .ok (.iconst 0, 1) := by decide +kernel
theorem d_Bc_gatherPieces_41 : decode c_Bc_gatherPieces 41 = .ok (.ireturn, 1) := by decide +kernel
theorem d_Bc_gatherPieces_42 : decode c_Bc_gatherPieces 42 = .ok (.iconst 0, 1) := by decide +kernel
theorem d_Bc_gatherPieces_43 : decode c_Bc_gatherPieces 43 = .ok (.istore 6, 2) := by decide +kernel
theorem d_Bc_gatherPieces_45 : decode c_Bc_gatherPieces 45 = .ok (.iload 6, 2) := by decide +kernel
theorem d_Bc_gatherPieces_47 : decode c_Bc_gatherPieces 47 = .ok (.aload 4, 2) := by decide +kernel
theorem d_Bc_gatherPieces_49 : decode c_Bc_gatherPieces 49 = .ok (.getfield 123, 3) := by decide +kernel
theorem d_Bc_gatherPieces_52 : decode c_Bc_gatherPieces 52 = .ok (.if_icmp .ge 20, 3) := by decide +kernel
theorem d_Bc_gatherPieces_55 : decode c_Bc_gatherPieces 55 = .ok (.aload_n 0, 1) := by decide +kernel
theorem d_Bc_gatherPieces_56 : decode c_Bc_gatherPieces 56 = .ok (.getfield 41, 3) := by decide +kernel
theorem d_Bc_gatherPieces_59 : decode c_Bc_gatherPieces 59 = .ok (.iload_n 2, 1) := by decide +kernel
theorem d_Bc_gatherPieces_60 : decode c_Bc_gatherPieces 60 = .ok (.iload_n 3, 1) := by decide +kernel
theorem d_Bc_gatherPieces_61 : decode c_Bc_gatherPieces 61 = .ok (.iload 5, 2) := by decide +kernel
theorem d_Bc_gatherPieces_63 : decode c_Bc_gatherPieces 63 = .ok (.invokevirtual 258, 3) := by decide +kernel
theorem d_Bc_gatherPieces_66 : decode c_Bc_gatherPieces 66 = .ok (.iinc 6 1, 3) := by decide +kernel
theorem d_Bc_gatherPieces_69 : decode c_Bc_gatherPieces 69 = .ok (.goto (-24), 3) := by decide +kernel
theorem d_Bc_gatherPieces_72 : decode c_Bc_gatherPieces 72 = .ok (.iinc 3 1, 3) := by decide +kernel
theorem d_Bc_gatherPieces_75 : decode c_Bc_gatherPieces 75 = .ok (.goto (-73), 3) := by decide +kernel
theorem d_Bc_gatherPieces_78 : decode c_Bc_gatherPieces 78 = .ok (.iconst 1, 1) := by decide +kernel
theorem d_Bc_gatherPieces_79 : decode c_Bc_gatherPieces 79 = .ok (.ireturn, 1) := by decide +kernel
theorem d_Bc_greatestCommonWithDivisor_0 : decode c_Bc_greatestCommonWithDivisor 0 = .ok (.sipush 162, 3) := by decide +kernel
theorem d_Bc_greatestCommonWithDivisor_3 : decode c_Bc_greatestCommonWithDivisor 3 = .ok (.istore_n 2, 1) := by decide +kernel
theorem d_Bc_greatestCommonWithDivisor_4 : decode c_Bc_greatestCommonWithDivisor 4 = .ok (.iload_n 2, 1) := by decide +kernel
theorem d_Bc_greatestCommonWithDivisor_5 : decode c_Bc_greatestCommonWithDivisor 5 = .ok (.iconst 1, 1) := by decide +kernel
theorem d_Bc_greatestCommonWithDivisor_6 : decode c_Bc_greatestCommonWithDivisor 6 = .ok (.if_icmp .le 28, 3) := by decide +kernel
theorem d_Bc_greatestCommonWithDivisor_9 : decode c_Bc_greatestCommonWithDivisor 9 = .ok (.sipush 162, 3) := by decide +kernel
theorem d_Bc_greatestCommonWithDivisor_12 : decode c_Bc_greatestCommonWithDivisor 12 = .ok (.iload_n 2, 1) := by decide +kernel
theorem d_Bc_greatestCommonWithDivisor_13 : decode c_Bc_greatestCommonWithDivisor 13 = .ok (.irem, 1) := by decide +kernel
theorem d_Bc_greatestCommonWithDivisor_14 : decode c_Bc_greatestCommonWithDivisor 14 = .ok (.ifCond .ne 14, 3) := by decide +kernel
theorem d_Bc_greatestCommonWithDivisor_17 : decode c_Bc_greatestCommonWithDivisor 17 = .ok (.lload_n 0, 1) := by decide +kernel
theorem d_Bc_greatestCommonWithDivisor_18 : decode c_Bc_greatestCommonWithDivisor 18 = .ok (.iload_n 2, 1) := by decide +kernel
theorem d_Bc_greatestCommonWithDivisor_19 : decode c_Bc_greatestCommonWithDivisor 19 = .ok (.i2l, 1) := by decide +kernel
theorem d_Bc_greatestCommonWithDivisor_20 : decode c_Bc_greatestCommonWithDivisor 20 = .ok (.lrem, 1) := by decide +kernel
theorem d_Bc_greatestCommonWithDivisor_21 : decode c_Bc_greatestCommonWithDivisor 21 = .ok (.lconst 0, 1) := by decide +kernel
theorem d_Bc_greatestCommonWithDivisor_22 : decode c_Bc_greatestCommonWithDivisor 22 = .ok (.lcmp, 1) := by decide +kernel
theorem d_Bc_greatestCommonWithDivisor_23 : decode c_Bc_greatestCommonWithDivisor 23 = .ok (.ifCond .ne 5, 3) := by decide +kernel
theorem d_Bc_greatestCommonWithDivisor_26 : decode c_Bc_greatestCommonWithDivisor 26 = .ok (.iload_n 2, 1) := by decide +kernel
theorem d_Bc_greatestCommonWithDivisor_27 : decode c_Bc_greatestCommonWithDivisor 27 = .ok (.ireturn, 1) := by decide +kernel
theorem d_Bc_greatestCommonWithDivisor_28 : decode c_Bc_greatestCommonWithDivisor 28 = .ok (.iinc 2 (-1), 3) := by decide +kernel
theorem d_Bc_greatestCommonWithDivisor_31 : decode c_Bc_greatestCommonWithDivisor 31 = .ok (.goto (-27), 3) := by decide +kernel
theorem d_Bc_greatestCommonWithDivisor_34 : decode c_Bc_greatestCommonWithDivisor 34 = .ok (.iconst 1, 1) := by decide +kernel
theorem d_Bc_greatestCommonWithDivisor_35 : decode c_Bc_greatestCommonWithDivisor 35 = .ok (.ireturn, 1) := by decide +kernel
theorem d_Bc_linesBentBefore_0 : decode c_Bc_linesBentBefore 0 = .ok (.iconst 0, 1) := by decide +kernel
theorem d_Bc_linesBentBefore_1 : decode c_Bc_linesBentBefore 1 = .ok (.istore_n 2, 1) := by decide +kernel
theorem d_Bc_linesBentBefore_2 : decode c_Bc_linesBentBefore 2 = .ok (.iconst 0, 1) := by decide +kernel
theorem d_Bc_linesBentBefore_3 : decode c_Bc_linesBentBefore 3 = .ok (.istore_n 3, 1) := by decide +kernel
theorem d_Bc_linesBentBefore_4 : decode c_Bc_linesBentBefore 4 = .ok (.iload_n 3, 1) := by decide +kernel
theorem d_Bc_linesBentBefore_5 : decode c_Bc_linesBentBefore 5 = .ok (.aload_n 0, 1) := by decide +kernel
theorem d_Bc_linesBentBefore_6 : decode c_Bc_linesBentBefore 6 = .ok (.getfield 73, 3) := by decide +kernel
theorem d_Bc_linesBentBefore_9 : decode c_Bc_linesBentBefore 9 = .ok (.if_icmp .ge 21, 3) := by decide +kernel
theorem d_Bc_linesBentBefore_12 : decode c_Bc_linesBentBefore 12 = .ok (.aload_n 0, 1) := by decide +kernel
theorem d_Bc_linesBentBefore_13 : decode c_Bc_linesBentBefore 13 = .ok (.iload_n 3, 1) := by decide +kernel
theorem d_Bc_linesBentBefore_14 : decode c_Bc_linesBentBefore 14 = .ok (.iload_n 1, 1) := by decide +kernel
theorem d_Bc_linesBentBefore_15 : decode c_Bc_linesBentBefore 15 = .ok (.invokevirtual 262, 3) := by decide +kernel
theorem d_Bc_linesBentBefore_18 : decode c_Bc_linesBentBefore 18 = .ok (.ifCond .eq 6, 3) := by decide +kernel
theorem d_Bc_linesBentBefore_21 : decode c_Bc_linesBentBefore 21 = .ok (.iinc 2 1, 3) := by decide +kernel
theorem d_Bc_linesBentBefore_24 : decode c_Bc_linesBentBefore 24 = .ok (.iinc 3 1, 3) := by decide +kernel
theorem d_Bc_linesBentBefore_27 : decode c_Bc_linesBentBefore 27 = .ok (.goto (-23), 3) := by decide +kernel
theorem d_Bc_linesBentBefore_30 : decode c_Bc_linesBentBefore 30 = .ok (.iload_n 2, 1) := by decide +kernel
theorem d_Bc_linesBentBefore_31 : decode c_Bc_linesBentBefore 31 = .ok (.ireturn, 1) := by decide +kernel
theorem d_Bc_isBentBefore_0 : decode c_Bc_isBentBefore 0 = .ok (.aload_n 0, 1) := by decide +kernel
theorem d_Bc_isBentBefore_1 : decode c_Bc_isBentBefore 1 = .ok (.getfield 24, 3) := by decide +kernel
theorem d_Bc_isBentBefore_4 : decode c_Bc_isBentBefore 4 = .ok (.iload_n 1, 1) := by decide +kernel
theorem d_Bc_isBentBefore_5 : decode c_Bc_isBentBefore 5 = .ok (.aaload, 1) := by decide +kernel
theorem d_Bc_isBentBefore_6 : decode c_Bc_isBentBefore 6 = .ok (.astore_n 3, 1) := by decide +kernel
theorem d_Bc_isBentBefore_7 : decode c_Bc_isBentBefore 7 = .ok (.aload_n 0, 1) := by decide +kernel
theorem d_Bc_isBentBefore_8 : decode c_Bc_isBentBefore 8 = .ok (.getfield 24, 3) := by decide +kernel
theorem d_Bc_isBentBefore_11 : decode c_Bc_isBentBefore 11 = .ok (.iload_n 2, 1) := by decide +kernel
theorem d_Bc_isBentBefore_12 : decode c_Bc_isBentBefore 12 = .ok (.aaload, 1) := by decide +kernel
theorem d_Bc_isBentBefore_13 : decode c_Bc_isBentBefore 13 = .ok (.astore 4, 2) := by decide +kernel
theorem d_Bc_isBentBefore_15 : decode c_Bc_isBentBefore 15 = .ok (.aload_n 3, 1) := by decide +kernel
theorem d_Bc_isBentBefore_16 : decode c_Bc_isBentBefore 16 = .ok (.getfield 129, 3) := by decide +kernel
theorem d_Bc_isBentBefore_19 : decode c_Bc_isBentBefore 19 = .ok (.aload 4, 2) := by decide +kernel
theorem d_Bc_isBentBefore_21 : decode c_Bc_isBentBefore 21 = .ok (.getfield 129, 3) := by decide +kernel
theorem d_Bc_isBentBefore_24 : decode c_Bc_isBentBefore 24 = .ok (.if_icmp .eq 21, 3) := by decide +kernel
theorem d_Bc_isBentBefore_27 : decode c_Bc_isBentBefore 27 = .ok (.aload_n 3, 1) := by decide +kernel
theorem d_Bc_isBentBefore_28 : decode c_Bc_isBentBefore 28 = .ok (.getfield 129, 3) := by decide +kernel
theorem d_Bc_isBentBefore_31 : decode c_Bc_isBentBefore 31 = .ok (.aload 4, 2) := by decide +kernel
theorem d_Bc_isBentBefore_33 : decode c_Bc_isBentBefore 33 = .ok (.getfield 129, 3) := by decide +kernel
theorem d_Bc_isBentBefore_36 : decode c_Bc_isBentBefore 36 = .ok (.if_icmp .ge 7, 3) := by decide +kernel
theorem d_Bc_isBentBefore_39 : decode c_Bc_isBentBefore 39 = .ok (.iconst 1, 1) := by decide +kernel
theorem d_Bc_isBentBefore_40 : decode c_Bc_isBentBefore 40 = .ok (.goto 4, 3) := by decide +kernel
theorem d_Bc_isBentBefore_43 : decode c_Bc_isBentBefore 43 = .ok (.iconst 0, 1) := by decide +kernel
theorem d_Bc_isBentBefore_44 : decode c_Bc_isBentBefore 44 = .ok (.ireturn, 1) := by decide +kernel
theorem d_Bc_isBentBefore_45 : decode c_Bc_isBentBefore 45 = .ok (.aload_n 3, 1) := by decide +kernel
theorem d_Bc_isBentBefore_46 : decode c_Bc_isBentBefore 46 = .ok (.getfield 132, 3) := by decide +kernel
theorem d_Bc_isBentBefore_49 : decode c_Bc_isBentBefore 49 = .ok (.aload 4, 2) := by decide +kernel
theorem d_Bc_isBentBefore_51 : decode c_Bc_isBentBefore 51 = .ok (.getfield 132, 3) := by decide +kernel
theorem d_Bc_isBentBefore_54 : decode c_Bc_isBentBefore 54 = .ok (.if_icmp .eq 21, 3) := by decide +kernel
theorem d_Bc_isBentBefore_57 : decode c_Bc_isBentBefore 57 = .ok (.aload_n 3, 1) := by decide +kernel
theorem d_Bc_isBentBefore_58 : decode c_Bc_isBentBefore 58 = .ok (.getfield 132, 3) := by decide +kernel
theorem d_Bc_isBentBefore_61 : decode c_Bc_isBentBefore 61 = .ok (.aload 4, 2) := by decide +kernel
theorem d_Bc_isBentBefore_63 : decode c_Bc_isBentBefore 63 = .ok (.getfield 132, 3) := by decide +kernel
theorem d_Bc_isBentBefore_66 : decode c_Bc_isBentBefore 66 = .ok (.if_icmp .ge 7, 3) := by decide +kernel
theorem d_Bc_isBentBefore_69 : decode c_Bc_isBentBefore 69 = .ok (.iconst 1, 1) := by decide +kernel
theorem d_Bc_isBentBefore_70 : decode c_Bc_isBentBefore 70 = .ok (.goto 4, 3) := by decide +kernel
theorem d_Bc_isBentBefore_73 : decode c_Bc_isBentBefore 73 = .ok (.iconst 0, 1) := by decide +kernel
theorem d_Bc_isBentBefore_74 : decode c_Bc_isBentBefore 74 = .ok (.ireturn, 1) := by decide +kernel
theorem d_Bc_isBentBefore_75 : decode c_Bc_isBentBefore 75 = .ok (.iload_n 1, 1) := by decide +kernel
theorem d_Bc_isBentBefore_76 : decode c_Bc_isBentBefore 76 = .ok (.iload_n 2, 1) := by decide +kernel
theorem d_Bc_isBentBefore_77 : decode c_Bc_isBentBefore 77 = .ok (.if_icmp .ge 7, 3) := by decide +kernel
theorem d_Bc_isBentBefore_80 : decode c_Bc_isBentBefore 80 = .ok (.iconst 1, 1) := by decide +kernel
theorem d_Bc_isBentBefore_81 : decode c_Bc_isBentBefore 81 = .ok (.goto 4, 3) := by decide +kernel
theorem d_Bc_isBentBefore_84 : decode c_Bc_isBentBefore 84 = .ok (.iconst 0, 1) := by decide +kernel
theorem d_Bc_isBentBefore_85 : decode c_Bc_isBentBefore 85 = .ok (.ireturn, 1) := by decide +kernel
end
section
theorem d_Md_init_0 : decode c_Md_init 0 = .ok (.aload_n 0, 1) := by decide +kernel
theorem d_Md_init_1 : decode c_Md_init 1 = .ok (.invokespecial 1, 3) := by decide +kernel
theorem d_Md_init_4 : decode c_Md_init 4 = .ok (.aload_n 0, 1) := by decide +kernel
theorem d_Md_init_5 : decode c_Md_init 5 = .ok (.bipush 40, 2) := by decide +kernel
theorem d_Md_init_7 : decode c_Md_init 7 = .ok (.newarray .int, 2) := by decide +kernel
theorem d_Md_init_9 : decode c_Md_init 9 = .ok (.putfield 7, 3) := by decide +kernel
theorem d_Md_init_12 : decode c_Md_init 12 = .ok (.aload_n 0, 1) := by decide +kernel
theorem d_Md_init_13 : decode c_Md_init 13 = .ok (.bipush 10, 2) := by decide +kernel
theorem d_Md_init_15 : decode c_Md_init 15 = .ok (.newarray .int, 2) := by decide +kernel
theorem d_Md_init_17 : decode c_Md_init 17 = .ok (.putfield 13, 3) := by decide +kernel
theorem d_Md_init_20 : decode c_Md_init 20 = .ok (.aload_n 0, 1) := by decide +kernel
theorem d_Md_init_21 : decode c_Md_init 21 = .ok (.bipush 60, 2) := by decide +kernel
theorem d_Md_init_23 : decode c_Md_init 23 = .ok (.newarray .int, 2) := by decide +kernel
theorem d_Md_init_25 : decode c_Md_init 25 = .ok (.putfield 16, 3) := by decide +kernel
theorem d_Md_init_28 : decode c_Md_init 28 = .ok (.aload_n 0, 1) := by decide +kernel
theorem d_Md_init_29 : decode c_Md_init 29 = .ok (.bipush 41, 2) := by decide +kernel
theorem d_Md_init_31 : decode c_Md_init 31 = .ok (.newarray .long, 2) := by decide +kernel
theorem d_Md_init_33 : decode c_Md_init 33 = .ok (.putfield 19, 3) := by decide +kernel
theorem d_Md_init_36 : decode c_Md_init 36 = .ok (.aload_n 0, 1) := by decide +kernel
theorem d_Md_init_37 : decode c_Md_init 37 = .ok (.bipush 12, 2) := by decide +kernel
theorem d_Md_init_39 : decode c_Md_init 39 = .ok (.newarray .int, 2) := by decide +kernel
theorem d_Md_init_41 : decode c_Md_init 41 = .ok (.putfield 23, 3) := by decide +kernel
theorem d_Md_init_44 : decode c_Md_init 44 = .ok (.aload_n 0, 1) := by decide +kernel
theorem d_Md_init_45 : decode c_Md_init 45 = .ok (.bipush 12, 2) := by decide +kernel
theorem d_Md_init_47 : decode c_Md_init 47 = .ok (.newarray .int, 2) := by decide +kernel
theorem d_Md_init_49 : decode c_Md_init 49 = .ok (.putfield 26, 3) := by decide +kernel
theorem d_Md_init_52 : decode c_Md_init 52 = .ok (.aload_n 0, 1) := by decide +kernel
theorem d_Md_init_53 : decode c_Md_init 53 = .ok (.bipush 12, 2) := by decide +kernel
theorem d_Md_init_55 : decode c_Md_init 55 = .ok (.newarray .int, 2) := by decide +kernel
theorem d_Md_init_57 : decode c_Md_init 57 = .ok (.putfield 29, 3) := by decide +kernel
theorem d_Md_init_60 : decode c_Md_init 60 = .ok (.aload_n 0, 1) := by decide +kernel
theorem d_Md_init_61 : decode c_Md_init 61 = .ok (.bipush 72, 2) := by decide +kernel
theorem d_Md_init_63 : decode c_Md_init 63 = .ok (.newarray .long, 2) := by decide +kernel
theorem d_Md_init_65 : decode c_Md_init 65 = .ok (.putfield 32, 3) := by decide +kernel
theorem d_Md_init_68 : decode c_Md_init 68 = .ok (.aload_n 0, 1) := by decide +kernel
theorem d_Md_init_69 : decode c_Md_init 69 = .ok (.bipush 12, 2) := by decide +kernel
theorem d_Md_init_71 : decode c_Md_init 71 = .ok (.newarray .boolean, 2) := by decide +kernel
theorem d_Md_init_73 : decode c_Md_init 73 = .ok (.putfield 35, 3) := by decide +kernel
theorem d_Md_init_76 : decode c_Md_init 76 = .ok (.aload_n 0, 1) := by decide +kernel
theorem d_Md_init_77 : decode c_Md_init 77 = .ok (.bipush 12, 2) := by decide +kernel
theorem d_Md_init_79 : decode c_Md_init 79 = .ok (.newarray .long, 2) := by decide +kernel
theorem d_Md_init_81 : decode c_Md_init 81 = .ok (.putfield 39, 3) := by decide +kernel
theorem d_Md_init_84 : decode c_Md_init 84 = .ok (.aload_n 0, 1) := by decide +kernel
theorem d_Md_init_85 : decode c_Md_init 85 = .ok (.bipush 12, 2) := by decide +kernel
theorem d_Md_init_87 : decode c_Md_init 87 = .ok (.newarray .long, 2) := by decide +kernel
theorem d_Md_init_89 : decode c_Md_init 89 = .ok (.putfield 42, 3) := by decide +kernel
theorem d_Md_init_92 : decode c_Md_init 92 = .ok (.aload_n 0, 1) := by decide +kernel
theorem d_Md_init_93 : decode c_Md_init 93 = .ok (.bipush 12, 2) := by decide +kernel
theorem d_Md_init_95 : decode c_Md_init 95 = .ok (.newarray .long, 2) := by decide +kernel
theorem d_Md_init_97 : decode c_Md_init 97 = .ok (.putfield 45, 3) := by decide +kernel
theorem d_Md_init_100 : decode c_Md_init 100 = .ok (.aload_n 0, 1) := by decide +kernel
theorem d_Md_init_101 : decode c_Md_init 101 = .ok (.bipush 41, 2) := by decide +kernel
theorem d_Md_init_103 : decode c_Md_init 103 = .ok (.newarray .int, 2) := by decide +kernel
theorem d_Md_init_105 : decode c_Md_init 105 = .ok (.putfield 48, 3) := by decide +kernel
theorem d_Md_init_108 : decode c_Md_init 108 = .ok (.aload_n 0, 1) := by decide +kernel
theorem d_Md_init_109 : decode c_Md_init 109 = .ok (.bipush 123, 2) := by decide +kernel
theorem d_Md_init_111 : decode c_Md_init 111 = .ok (.newarray .long, 2) := by decide +kernel
theorem d_Md_init_113 : decode c_Md_init 113 = .ok (.putfield 51, 3) := by decide +kernel
theorem d_Md_init_116 : decode c_Md_init 116 = .ok (.aload_n 0, 1) := by decide +kernel
theorem d_Md_init_117 : decode c_Md_init 117 = .ok (.bipush 123, 2) := by decide +kernel
theorem d_Md_init_119 : decode c_Md_init 119 = .ok (.newarray .int, 2) := by decide +kernel
theorem d_Md_init_121 : decode c_Md_init 121 = .ok (.putfield 54, 3) := by decide +kernel
theorem d_Md_init_124 : decode c_Md_init 124 = .ok (.aload_n 0, 1) := by decide +kernel
theorem d_Md_init_125 : decode c_Md_init 125 = .ok (.iconst 3, 1) := by decide +kernel
theorem d_Md_init_126 : decode c_Md_init 126 = .ok (.newarray .int, 2) := by decide +kernel
theorem d_Md_init_128 : decode c_Md_init 128 = .ok (.putfield 57, 3) := by decide +kernel
theorem d_Md_init_131 : decode c_Md_init 131 = .ok (.aload_n 0, 1) := by decide +kernel
theorem d_Md_init_132 : decode c_Md_init 132 = .ok (.bipush 60, 2) := by decide +kernel
theorem d_Md_init_134 : decode c_Md_init 134 = .ok (.newarray .int, 2) := by decide +kernel
theorem d_Md_init_136 : decode c_Md_init 136 = .ok (.putfield 60, 3) := by decide +kernel
theorem d_Md_init_139 : decode c_Md_init 139 = .ok (.aload_n 0, 1) := by decide +kernel
theorem d_Md_init_140 : decode c_Md_init 140 = .ok (.bipush 60, 2) := by decide +kernel
theorem d_Md_init_142 : decode c_Md_init 142 = .ok (.newarray .long, 2) := by decide +kernel
theorem d_Md_init_144 : decode c_Md_init 144 = .ok (.putfield 63, 3) := by decide +kernel
theorem d_Md_init_147 : decode c_Md_init 147 = .ok (.aload_n 0, 1) := by decide +kernel
theorem d_Md_init_148 : decode c_Md_init 148 = .ok (.bipush 9, 2) := by decide +kernel
theorem d_Md_init_150 : decode c_Md_init 150 = .ok (.newarray .int, 2) := by decide +kernel
theorem d_Md_init_152 : decode c_Md_init 152 = .ok (.putfield 66, 3) := by decide +kernel
theorem d_Md_init_155 : decode c_Md_init 155 = .ok (.aload_n 0, 1) := by decide +kernel
theorem d_Md_init_156 : decode c_Md_init 156 = .ok (.bipush 9, 2) := by decide +kernel
theorem d_Md_init_158 : decode c_Md_init 158 = .ok (.newarray .int, 2) := by decide +kernel
theorem d_Md_init_160 : decode c_Md_init 160 = .ok (.putfield 69, 3) := by decide +kernel
theorem d_Md_init_163 : decode c_Md_init 163 = .ok (.aload_n 0, 1) := by decide +kernel
theorem d_Md_init_164 : decode c_Md_init 164 = .ok (.bipush 9, 2) := by decide +kernel
theorem d_Md_init_166 : decode c_Md_init 166 = .ok (.newarray .int, 2) := by decide +kernel
theorem d_Md_init_168 : decode c_Md_init 168 = .ok (.putfield 72, 3) := by decide +kernel
theorem d_Md_init_171 : decode c_Md_init 171 = .ok (.aload_n 0, 1) := by decide +kernel
theorem d_Md_init_172 : decode c_Md_init 172 = .ok (.bipush 9, 2) := by decide +kernel
theorem d_Md_init_174 : decode c_Md_init 174 = .ok (.newarray .int, 2) := by decide +kernel
theorem d_Md_init_176 : decode c_Md_init 176 = .ok (.putfield 75, 3) := by decide +kernel
theorem d_Md_init_179 : decode c_Md_init 179 = .ok (.aload_n 0, 1) := by decide +kernel
theorem d_Md_init_180 : decode c_Md_init 180 = .ok (.bipush 9, 2) := by decide +kernel
theorem d_Md_init_182 : decode c_Md_init 182 = .ok (.newarray .int, 2) := by decide +kernel
theorem d_Md_init_184 : decode c_Md_init 184 = .ok (.putfield 78, 3) := by decide +kernel
theorem d_Md_init_187 : decode c_Md_init 187 = .ok (.aload_n 0, 1) := by decide +kernel
theorem d_Md_init_188 : decode c_Md_init 188 = .ok (.bipush 60, 2) := by decide +kernel
theorem d_Md_init_190 : decode c_Md_init 190 = .ok (.newarray .int, 2) := by decide +kernel
theorem d_Md_init_192 : decode c_Md_init 192 = .ok (.putfield 81, 3) := by decide +kernel
theorem d_Md_init_195 : decode c_Md_init 195 = .ok (.aload_n 0, 1) := by decide +kernel
theorem d_Md_init_196 : decode c_Md_init 196 = .ok (.bipush 60, 2) := by decide +kernel
theorem d_Md_init_198 : decode c_Md_init 198 = .ok (.newarray .long, 2) := by decide +kernel
theorem d_Md_init_200 : decode c_Md_init 200 = .ok (.putfield 84, 3) := by decide +kernel
theorem d_Md_init_203 : decode c_Md_init 203 = .ok (.aload_n 0, 1) := by decide +kernel
theorem d_Md_init_204 : decode c_Md_init 204 = .ok (.bipush 60, 2) := by decide +kernel
theorem d_Md_init_206 : decode c_Md_init 206 = .ok (.newarray .int, 2) := by decide +kernel
theorem d_Md_init_208 : decode c_Md_init 208 = .ok (.putfield 87, 3) := by decide +kernel
theorem d_Md_init_211 : decode c_Md_init 211 = .ok (.aload_n 0, 1) := by decide +kernel
theorem d_Md_init_212 : decode c_Md_init 212 = .ok (.sipush 3600, 3) := by decide +kernel
theorem d_Md_init_215 : decode c_Md_init 215 = .ok (.newarray .int, 2) := by decide +kernel
theorem d_Md_init_217 : decode c_Md_init 217 = .ok (.putfield 90, 3) := by decide +kernel
theorem d_Md_init_220 : decode c_Md_init 220 = .ok (.aload_n 0, 1) := by decide +kernel
theorem d_Md_init_221 : decode c_Md_init 221 = .ok (.bipush 60, 2) := by decide +kernel
theorem d_Md_init_223 : decode c_Md_init 223 = .ok (.newarray .long, 2) := by decide +kernel
theorem d_Md_init_225 : decode c_Md_init 225 = .ok (.putfield 93, 3) := by decide +kernel
theorem d_Md_init_228 : decode c_Md_init 228 = .ok (.aload_n 0, 1) := by decide +kernel
theorem d_Md_init_229 : decode c_Md_init 229 = .ok (.bipush 12, 2) := by decide +kernel
theorem d_Md_init_231 : decode c_Md_init 231 = .ok (.newarray .long, 2) := by decide +kernel
theorem d_Md_init_233 : decode c_Md_init 233 = .ok (.putfield 96, 3) := by decide +kernel
theorem d_Md_init_236 : decode c_Md_init 236 = .ok (.aload_n 0, 1) := by decide +kernel
theorem d_Md_init_237 : decode c_Md_init 237 = .ok (.bipush 12, 2) := by decide +kernel
theorem d_Md_init_239 : decode c_Md_init 239 = .ok (.newarray .long, 2) := by decide +kernel
theorem d_Md_init_241 : decode c_Md_init 241 = .ok (.putfield 99, 3) := by decide +kernel
theorem d_Md_init_244 : decode c_Md_init 244 = .ok (.aload_n 0, 1) := by decide +kernel
theorem d_Md_init_245 : decode c_Md_init 245 = .ok (.bipush 12, 2) := by decide +kernel
theorem d_Md_init_247 : decode c_Md_init 247 = .ok (.newarray .boolean, 2) := by decide +kernel
theorem d_Md_init_249 : decode c_Md_init 249 = .ok (.putfield 102, 3) := by decide +kernel
theorem d_Md_init_252 : decode c_Md_init 252 = .ok (.aload_n 0, 1) := by decide +kernel
theorem d_Md_init_253 : decode c_Md_init 253 = .ok (.bipush 12, 2) := by decide +kernel
theorem d_Md_init_255 : decode c_Md_init 255 = .ok (.newarray .long, 2) := by decide +kernel
theorem d_Md_init_257 : decode c_Md_init 257 = .ok (.putfield 105, 3) := by decide +kernel
theorem d_Md_init_260 : decode c_Md_init 260 = .ok (.aload_n 0, 1) := by decide +kernel
theorem d_Md_init_261 : decode c_Md_init 261 = .ok (.bipush 12, 2) := by decide +kernel
theorem d_Md_init_263 : decode c_Md_init 263 = .ok (.newarray .long, 2) := by decide +kernel
theorem d_Md_init_265 : decode c_Md_init 265 = .ok (.putfield 108, 3) := by decide +kernel
theorem d_Md_init_268 : decode c_Md_init 268 = .ok (.aload_n 0, 1) := by decide +kernel
theorem d_Md_init_269 : decode c_Md_init 269 = .ok (.bipush 12, 2) := by decide +kernel
theorem d_Md_init_271 : decode c_Md_init 271 = .ok (.newarray .long, 2) := by decide +kernel
theorem d_Md_init_273 : decode c_Md_init 273 = .ok (.putfield 111, 3) := by decide +kernel
theorem d_Md_init_276 : decode c_Md_init 276 = .ok (.aload_n 0, 1) := by decide +kernel
theorem d_Md_init_277 : decode c_Md_init 277 = .ok (.bipush 12, 2) := by decide +kernel
theorem d_Md_init_279 : decode c_Md_init 279 = .ok (.newarray .long, 2) := by decide +kernel
theorem d_Md_init_281 : decode c_Md_init 281 = .ok (.putfield 114, 3) := by decide +kernel
theorem d_Md_init_284 : decode c_Md_init 284 = .ok (.aload_n 0, 1) := by decide +kernel
theorem d_Md_init_285 : decode c_Md_init 285 = .ok (.bipush 40, 2) := by decide +kernel
theorem d_Md_init_287 : decode c_Md_init 287 = .ok (.newarray .int, 2) := by decide +kernel
theorem d_Md_init_289 : decode c_Md_init 289 = .ok (.putfield 117, 3) := by decide +kernel
theorem d_Md_init_292 : decode c_Md_init 292 = .ok (.return_, 1) := by decide +kernel
theorem d_Md_isIn_0 : decode c_Md_isIn 0 = .ok (.lload_n 0, 1) := by decide +kernel
theorem d_Md_isIn_1 : decode c_Md_isIn 1 = .ok (.lload_n 2, 1) := by decide +kernel
theorem d_Md_isIn_2 : decode c_Md_isIn 2 = .ok (.lcmp, 1) := by decide +kernel
theorem d_Md_isIn_3 : decode c_Md_isIn 3 = .ok (.ifCond .lt 14, 3) := by decide +kernel
theorem d_Md_isIn_6 : decode c_Md_isIn 6 = .ok (.lload_n 0, 1) := by decide +kernel
theorem d_Md_isIn_7 : decode c_Md_isIn 7 = .ok (.lload 4, 2) := by decide +kernel
theorem d_Md_isIn_9 : decode c_Md_isIn 9 = .ok (.lcmp, 1) := by decide +kernel
theorem d_Md_isIn_10 : decode c_Md_isIn 10 = .ok (.ifCond .gt 7, 3) := by decide +kernel
theorem d_Md_isIn_13 : decode c_Md_isIn 13 = .ok (.iconst 1, 1) := by decide +kernel
theorem d_Md_isIn_14 : decode c_Md_isIn 14 = .ok (.goto 4, 3) := by decide +kernel
theorem d_Md_isIn_17 : decode c_Md_isIn 17 = .ok (.iconst 0, 1) := by decide +kernel
theorem d_Md_isIn_18 : decode c_Md_isIn 18 = .ok (.ireturn, 1) := by decide +kernel
theorem d_Md_isLine_0 : decode c_Md_isLine 0 = .ok (.iload_n 1, 1) := by decide +kernel
theorem d_Md_isLine_1 : decode c_Md_isLine 1 = .ok (.ifCond .lt 15, 3) := by decide +kernel
theorem d_Md_isLine_4 : decode c_Md_isLine 4 = .ok (.iload_n 1, 1) := by decide +kernel
theorem d_Md_isLine_5 : decode c_Md_isLine 5 = .ok (.aload_n 0, 1) := by decide +kernel
theorem d_Md_isLine_6 : decode c_Md_isLine 6 = .ok (.getfield 120, 3) := by decide +kernel
theorem d_Md_isLine_9 : decode c_Md_isLine 9 = .ok (.if_icmp .ge 7, 3) := by decide +kernel
theorem d_Md_isLine_12 : decode c_Md_isLine 12 = .ok (.iconst 1, 1) := by decide +kernel
theorem d_Md_isLine_13 : decode c_Md_isLine 13 = .ok (.goto 4, 3) := by decide +kernel
theorem d_Md_isLine_16 : decode c_Md_isLine 16 = .ok (.iconst 0, 1) := by decide +kernel
theorem d_Md_isLine_17 : decode c_Md_isLine 17 = .ok (.ireturn, 1) := by decide +kernel
theorem d_Md_unit_0 : decode c_Md_unit 0 = .ok (.iload_n 1, 1) := by decide +kernel
theorem d_Md_unit_1 : decode c_Md_unit 1 = .ok (.i2l, 1) := by decide +kernel
theorem d_Md_unit_2 : decode c_Md_unit 2 = .ok (.ldc2_w 124, 3) := by decide +kernel
theorem d_Md_unit_5 : decode c_Md_unit 5 = .ok (.ldc2_w 126, 3) := by decide +kernel
theorem d_Md_unit_8 : decode c_Md_unit 8 = .ok (.invokestatic 128, 3) := by decide +kernel
theorem d_Md_unit_11 : decode c_Md_unit 11 = .ok (.ifCond .eq 12, 3) := by decide +kernel
theorem d_Md_unit_14 : decode c_Md_unit 14 = .ok (.aload_n 0, 1) := by decide +kernel
theorem d_Md_unit_15 : decode c_Md_unit 15 = .ok (.getfield 132, 3) := by decide +kernel
theorem d_Md_unit_18 : decode c_Md_unit 18 = .ok (.bipush 40, 2) := by decide +kernel
theorem d_Md_unit_20 : decode c_Md_unit 20 = .ok (.if_icmp .ne 5, 3) := by decide +kernel
theorem d_Md_unit_23 : decode c_Md_unit 23 = .ok (.iconst 0, 1) := by decide +kernel
theorem d_Md_unit_24 : decode c_Md_unit 24 = .ok (.ireturn, 1) := by decide +kernel
theorem d_Md_unit_25 : decode c_Md_unit 25 = .ok (.aload_n 0, 1) := by decide +kernel
theorem d_Md_unit_26 : decode c_Md_unit 26 = .ok (.getfield 7, 3) := by decide +kernel
theorem d_Md_unit_29 : decode c_Md_unit 29 = .ok (.aload_n 0, 1) := by decide +kernel
theorem d_Md_unit_30 : decode c_Md_unit 30 = .ok (.getfield 132, 3) := by decide +kernel
theorem d_Md_unit_33 : decode c_Md_unit 33 = .ok (.iload_n 1, 1) := by decide +kernel
theorem d_Md_unit_34 : decode c_Md_unit 34 = .ok (.iastore, 1) := by decide +kernel
theorem d_Md_unit_35 : decode c_Md_unit 35 = .ok (.aload_n 0, 1) := by decide +kernel
theorem d_Md_unit_36 : decode c_Md_unit 36 = .ok (.dup, 1) := by decide +kernel
theorem d_Md_unit_37 : decode c_Md_unit 37 = .ok (.getfield 132, 3) := by decide +kernel
theorem d_Md_unit_40 : decode c_Md_unit 40 = .ok (.iconst 1, 1) := by decide +kernel
theorem d_Md_unit_41 : decode c_Md_unit 41 = .ok (.iadd, 1) := by decide +kernel
theorem d_Md_unit_42 : decode c_Md_unit 42 = .ok (.putfield 132, 3) := by decide +kernel
theorem d_Md_unit_45 : decode c_Md_unit 45 = .ok (.iconst 1, 1) := by decide +kernel
theorem d_Md_unit_46 : decode c_Md_unit 46 = .ok (.ireturn, 1) := by decide +kernel
theorem d_Md_bendOf_0 : decode c_Md_bendOf 0 = .ok (.iload_n 0, 1) := by decide +kernel
theorem d_Md_bendOf_1 : decode c_Md_bendOf 1 = .ok (.bipush 76, 2) := by decide +kernel
theorem d_Md_bendOf_3 : decode c_Md_bendOf 3 = .ok (.if_icmp .ne 7, 3) := by decide +kernel
theorem d_Md_bendOf_6 : decode c_Md_bendOf 6 = .ok (.iconst 1, 1) := by decide +kernel
theorem d_Md_bendOf_7 : decode c_Md_bendOf 7 = .ok (.goto 24, 3) := by decide +kernel
theorem d_Md_bendOf_10 : decode c_Md_bendOf 10 = .ok (.iload_n 0, 1) := by decide +kernel
theorem d_Md_bendOf_11 : decode c_Md_bendOf 11 = .ok (.bipush 82, 2) := by decide +kernel
theorem d_Md_bendOf_13 : decode c_Md_bendOf 13 = .ok (.if_icmp .ne 7, 3) := by decide +kernel
theorem d_Md_bendOf_16 : decode c_Md_bendOf 16 = .ok (.iconst 2, 1) := by decide +kernel
theorem d_Md_bendOf_17 : decode c_Md_bendOf 17 = .ok (.goto 14, 3) := by decide +kernel
theorem d_Md_bendOf_20 : decode c_Md_bendOf 20 = .ok (.iload_n 0, 1) := by decide +kernel
theorem d_Md_bendOf_21 : decode c_Md_bendOf 21 = .ok (.bipush 85, 2) := by decide +kernel
theorem d_Md_bendOf_23 : decode c_Md_bendOf 23 = .ok (.if_icmp .ne 7, 3) := by decide +kernel
theorem d_Md_bendOf_26 : decode c_Md_bendOf 26 = .ok (.iconst 3, 1) := by decide +kernel
theorem d_Md_bendOf_27 : decode c_Md_bendOf 27 = .ok (.goto 4, 3) := by decide +kernel
theorem d_Md_bendOf_30 : decode c_Md_bendOf 30 = .ok (.iconst 0, 1) := by decide +kernel
theorem d_Md_bendOf_31 : decode c_Md_bendOf 31 = .ok (.ireturn, 1) := by decide +kernel
theorem d_Md_shape_0 : decode c_Md_shape 0 = .ok (.aload_n 0, 1) := by decide +kernel
theorem d_Md_shape_1 : decode c_Md_shape 1 = .ok (.getfield 132, 3) := by decide +kernel
theorem d_Md_shape_4 : decode c_Md_shape 4 = .ok (.istore_n 1, 1) := by decide +kernel
theorem d_Md_shape_5 : decode c_Md_shape 5 = .ok (.aload_n 0, 1) := by decide +kernel
theorem d_Md_shape_6 : decode c_Md_shape 6 = .ok (.iconst 0, 1) := by decide +kernel
theorem d_Md_shape_7 : decode c_Md_shape 7 = .ok (.putfield 132, 3) := by decide +kernel
theorem d_Md_shape_10 : decode c_Md_shape 10 = .ok (.iconst 0, 1) := by decide +kernel
theorem d_Md_shape_11 : decode c_Md_shape 11 = .ok (.istore_n 2, 1) := by decide +kernel
theorem d_Md_shape_12 : decode c_Md_shape 12 = .ok (.iconst 1, 1) := by decide +kernel
theorem d_Md_shape_13 : decode c_Md_shape 13 = .ok (.istore_n 3, 1) := by decide +kernel
theorem d_Md_shape_14 : decode c_Md_shape 14 = .ok (.iload_n 2, 1) := by decide +kernel
theorem d_Md_shape_15 : decode c_Md_shape 15 = .ok (.iload_n 1, 1) := by decide +kernel
theorem d_Md_shape_16 : decode c_Md_shape 16 = .ok (.if_icmp .ge 77, 3) := by decide +kernel
theorem d_Md_shape_19 : decode c_Md_shape 19 = .ok (.iload_n 3, 1) := by decide +kernel
theorem d_Md_shape_20 : decode c_Md_shape 20 = .ok (.ifCond .eq 73, 3) := by decide +kernel
theorem d_Md_shape_23 : decode c_Md_shape 23 = .ok (.iload_n 2, 1) := by decide +kernel
theorem d_Md_shape_24 : decode c_Md_shape 24 = .ok (.iconst 2, 1) := by decide +kernel
theorem d_Md_shape_25 : decode c_Md_shape 25 = .ok (.irem, 1) := by decide +kernel
theorem d_Md_shape_26 : decode c_Md_shape 26 = .ok (.ifCond .ne 34, 3) := by decide +kernel
theorem d_Md_shape_29 : decode c_Md_shape 29 = .ok (.iload_n 2, 1) := by decide +kernel
theorem d_Md_shape_30 : decode c_Md_shape 30 = .ok (.iconst 2, 1) := by decide +kernel
theorem d_Md_shape_31 : decode c_Md_shape 31 = .ok (.idiv, 1) := by decide +kernel
theorem d_Md_shape_32 : decode c_Md_shape 32 = .ok (.bipush 6, 2) := by decide +kernel
theorem d_Md_shape_34 : decode c_Md_shape 34 = .ok (.if_icmp .ge 22, 3) := by decide +kernel
theorem d_Md_shape_37 : decode c_Md_shape 37 = .ok (.aload_n 0, 1) := by decide +kernel
theorem d_Md_shape_38 : decode c_Md_shape 38 = .ok (.getfield 7, 3) := by decide +kernel
theorem d_Md_shape_41 : decode c_Md_shape 41 = .ok (.iload_n 2, 1) := by decide +kernel
theorem d_Md_shape_42 : decode c_Md_shape 42 = .ok (.iaload, 1) := by decide +kernel
theorem d_Md_shape_43 : decode c_Md_shape 43 = .ok (.bipush 65, 2) := by decide +kernel
theorem d_Md_shape_45 : decode c_Md_shape 45 = .ok (.iload_n 2, 1) := by decide +kernel
theorem d_Md_shape_46 : decode c_Md_shape 46 = .ok (.iconst 2, 1) := by decide +kernel
theorem d_Md_shape_47 : decode c_Md_shape 47 = .ok (.idiv, 1) := by decide +kernel
theorem d_Md_shape_48 : decode c_Md_shape 48 = .ok (.iadd, 1) := by decide +kernel
theorem d_Md_shape_49 : decode c_Md_shape 49 = .ok (.if_icmp .ne 7, 3) := by decide +kernel
theorem d_Md_shape_52 : decode c_Md_shape 52 = .ok (.iconst 1, 1) := by decide +kernel
theorem d_Md_shape_53 : decode c_Md_shape 53 = .ok (.goto 24, 3) := by decide +kernel
theorem d_Md_shape_56 : decode c_Md_shape 56 = .ok (.iconst 0, 1) := by decide +kernel
theorem d_Md_shape_57 : decode c_Md_shape 57 = .ok (.goto 20, 3) := by decide +kernel
theorem d_Md_shape_60 : decode c_Md_shape 60 = .ok (.aload_n 0, 1) := by decide +kernel
theorem d_Md_shape_61 : decode c_Md_shape 61 = .ok (.getfield 7, 3) := by decide +kernel
theorem d_Md_shape_64 : decode c_Md_shape 64 = .ok (.iload_n 2, 1) := by decide +kernel
theorem d_Md_shape_65 : decode c_Md_shape 65 = .ok (.iaload, 1) := by decide +kernel
theorem d_Md_shape_66 : decode c_Md_shape 66 = .ok (.invokestatic 135, 3) := by decide +kernel
theorem d_Md_shape_69 : decode c_Md_shape 69 = .ok (.ifCond .le 7, 3) := by decide +kernel
theorem d_Md_shape_72 : decode c_Md_shape 72 = .ok (.iconst 1, 1) := by decide +kernel
theorem d_Md_shape_73 : decode c_Md_shape 73 = .ok (.goto 4, 3) := by decide +kernel
theorem d_Md_shape_76 : decode c_Md_shape 76 = .ok (.iconst 0, 1) := by decide +kernel
theorem d_Md_shape_77 : decode c_Md_shape 77 = .ok (.istore_n 3, 1) := by decide +kernel
theorem d_Md_shape_78 : decode c_Md_shape 78 = .ok (.iload_n 2, 1) := by decide +kernel
theorem d_Md_shape_79 : decode c_Md_shape 79 = .ok (.iload_n 3, 1) := by decide +kernel
theorem d_Md_shape_80 : decode c_Md_shape 80 = .ok (.ifCond .eq 7, 3) := by decide +kernel
theorem d_Md_shape_83 : decode c_Md_shape 83 = .ok (.iconst 1, 1) := by decide +kernel
theorem d_Md_shape_84 : decode c_Md_shape 84 = .ok (.goto 4, 3) := by decide +kernel
theorem d_Md_shape_87 : decode c_Md_shape 87 = .ok (.iconst 0, 1) := by decide +kernel
theorem d_Md_shape_88 : decode c_Md_shape 88 = .ok (.iadd, 1) := by decide +kernel
theorem d_Md_shape_89 : decode c_Md_shape 89 = .ok (.istore_n 2, 1) := by decide +kernel
theorem d_Md_shape_90 : decode c_Md_shape 90 = .ok (.goto (-76), 3) := by decide +kernel
theorem d_Md_shape_93 : decode c_Md_shape 93 = .ok (.iload_n 3, 1) := by decide +kernel
theorem d_Md_shape_94 : decode c_Md_shape 94 = .ok (.ifCond .eq 18, 3) := by decide +kernel
theorem d_Md_shape_97 : decode c_Md_shape 97 = .ok (.iload_n 1, 1) := by decide +kernel
theorem d_Md_shape_98 : decode c_Md_shape 98 = .ok (.iconst 2, 1) := by decide +kernel
theorem d_Md_shape_99 : decode c_Md_shape 99 = .ok (.irem, 1) := by decide +kernel
theorem d_Md_shape_100 : decode c_Md_shape 100 = .ok (.ifCond .eq 12, 3) := by decide +kernel
theorem d_Md_shape_103 : decode c_Md_shape 103 = .ok (.aload_n 0, 1) := by decide +kernel
theorem d_Md_shape_104 : decode c_Md_shape 104 = .ok (.getfield 139, 3) := by decide +kernel
theorem d_Md_shape_107 : decode c_Md_shape 107 = .ok (.bipush 10, 2) := by decide +kernel
theorem d_Md_shape_109 : decode c_Md_shape 109 = .ok (.if_icmp .ne 7, 3) := by decide +kernel
theorem d_Md_shape_112 : decode c_Md_shape 112 = .ok (.iconst (-1), 1) := by decide +kernel
theorem d_Md_shape_113 : decode c_Md_shape 113 = .ok (.iload_n 2, 1) := by decide +kernel
theorem d_Md_shape_114 : decode c_Md_shape 114 = .ok (.isub, 1) := by decide +kernel
theorem d_Md_shape_115 : decode c_Md_shape 115 = .ok (.ireturn, 1) := by decide +kernel
theorem d_Md_shape_116 : decode c_Md_shape 116 = .ok (.aload_n 0, 1) := by decide +kernel
theorem d_Md_shape_117 : decode c_Md_shape 117 = .ok (.getfield 13, 3) := by decide +kernel
theorem d_Md_shape_120 : decode c_Md_shape 120 = .ok (.aload_n 0, 1) := by decide +kernel
theorem d_Md_shape_121 : decode c_Md_shape 121 = .ok (.getfield 139, 3) := by decide +kernel
theorem d_Md_shape_124 : decode c_Md_shape 124 = .ok (.iload_n 1, 1) := by decide +kernel
theorem d_Md_shape_125 : decode c_Md_shape 125 = .ok (.iconst 1, 1) := by decide +kernel
theorem d_Md_shape_126 : decode c_Md_shape 126 = .ok (.iadd, 1) := by decide +kernel
theorem d_Md_shape_127 : decode c_Md_shape 127 = .ok (.iconst 2, 1) := by decide +kernel
theorem d_Md_shape_128 : decode c_Md_shape 128 = .ok (.idiv, 1) := by decide +kernel
theorem d_Md_shape_129 : decode c_Md_shape 129 = .ok (.iastore, 1) := by decide +kernel
theorem d_Md_shape_130 : decode c_Md_shape 130 = .ok (.iconst 1, 1) := by decide +kernel
theorem d_Md_shape_131 : decode c_Md_shape 131 = .ok (.istore 4, 2) := by decide +kernel
theorem d_Md_shape_133 : decode c_Md_shape 133 = .ok (.iload 4, 2) := by decide +kernel
theorem d_Md_shape_135 : decode c_Md_shape 135 = .ok (.iload_n 1, 1) := by decide +kernel
theorem d_Md_shape_136 : decode c_Md_shape 136 = .ok (.if_icmp .ge 36, 3) := by decide +kernel
theorem d_Md_shape_139 : decode c_Md_shape 139 = .ok (.aload_n 0, 1) := by decide +kernel
theorem d_Md_shape_140 : decode c_Md_shape 140 = .ok (.getfield 16, 3) := by decide +kernel
theorem d_Md_shape_143 : decode c_Md_shape 143 = .ok (.bipush 6, 2) := by decide +kernel
theorem d_Md_shape_145 : decode c_Md_shape 145 = .ok (.aload_n 0, 1) := by decide +kernel
theorem d_Md_shape_146 : decode c_Md_shape 146 = .ok (.getfield 139, 3) := by decide +kernel
theorem d_Md_shape_149 : decode c_Md_shape 149 = .ok (.imul, 1) := by decide +kernel
theorem d_Md_shape_150 : decode c_Md_shape 150 = .ok (.iload 4, 2) := by decide +kernel
theorem d_Md_shape_152 : decode c_Md_shape 152 = .ok (.iconst 2, 1) := by decide +kernel
theorem d_Md_shape_153 : decode c_Md_shape 153 = .ok (.idiv, 1) := by decide +kernel
theorem d_Md_shape_154 : decode c_Md_shape 154 = .ok (.iadd, 1) := by decide +kernel
theorem d_Md_shape_155 : decode c_Md_shape 155 = .ok (.aload_n 0, 1) := by decide +kernel
theorem d_Md_shape_156 : decode c_Md_shape 156 = .ok (.getfield 7, 3) := by decide +kernel
theorem d_Md_shape_159 : decode c_Md_shape 159 = .ok (.iload 4, 2) := by decide +kernel
theorem d_Md_shape_161 : decode c_Md_shape 161 = .ok (.iaload, 1) := by decide +kernel
theorem d_Md_shape_162 : decode c_Md_shape 162 = .ok (.invokestatic 135, 3) := by decide +kernel
theorem d_Md_shape_165 : decode c_Md_shape 165 = .ok (.iastore, 1) := by decide +kernel
theorem d_Md_shape_166 : decode c_Md_shape 166 = .ok (.iinc 4 2, 3) := by decide +kernel
theorem d_Md_shape_169 : decode c_Md_shape 169 = .ok (.goto (-36), 3) := by decide +kernel
theorem d_Md_shape_172 : decode c_Md_shape 172 = .ok (.aload_n 0, 1) := by decide +kernel
theorem d_Md_shape_173 : decode c_Md_shape 173 = .ok (.dup, 1) := by decide +kernel
theorem d_Md_shape_174 : decode c_Md_shape 174 = .ok (.getfield 139, 3) := by decide +kernel
theorem d_Md_shape_177 : decode c_Md_shape 177 = .ok (.iconst 1, 1) := by decide +kernel
theorem d_Md_shape_178 : decode c_Md_shape 178 = .ok (.iadd, 1) := by decide +kernel
theorem d_Md_shape_179 : decode c_Md_shape 179 = .ok (.putfield 139, 3) := by decide +kernel
theorem d_Md_shape_182 : decode c_Md_shape 182 = .ok (.aload_n 0, 1) := by decide +kernel
theorem d_Md_shape_183 : decode c_Md_shape 183 = .ok (.getfield 139, 3) := by decide +kernel
theorem d_Md_shape_186 : decode c_Md_shape 186 = .ok (.iconst 1, 1) := by decide +kernel
theorem d_Md_shape_187 : decode c_Md_shape 187 = .ok (.isub, 1) := by decide +kernel
theorem d_Md_shape_188 : decode c_Md_shape 188 = .ok (.ireturn, 1) := by decide +kernel
theorem d_Md_rule_0 : decode c_Md_rule 0 = .ok (.iload_n 1, 1) := by decide +kernel
theorem d_Md_rule_1 : decode c_Md_rule 1 = .ok (.i2l, 1) := by decide +kernel
theorem d_Md_rule_2 : decode c_Md_rule 2 = .ok (.ldc2_w 142, 3) := by decide +kernel
theorem d_Md_rule_5 : decode c_Md_rule 5 = .ok (.ldc2_w 144, 3) := by decide +kernel
theorem d_Md_rule_8 : decode c_Md_rule 8 = .ok (.invokestatic 128, 3) := by decide +kernel
theorem d_Md_rule_11 : decode c_Md_rule 11 = .ok (.ifCond .eq 14, 3) := by decide +kernel
theorem d_Md_rule_14 : decode c_Md_rule 14 = .ok (.lload_n 2, 1) := by decide +kernel
theorem d_Md_rule_15 : decode c_Md_rule 15 = .ok (.lconst 0, 1) := by decide +kernel
theorem d_Md_rule_16 : decode c_Md_rule 16 = .ok (.ldc2_w 146, 3) := by decide +kernel
theorem d_Md_rule_19 : decode c_Md_rule 19 = .ok (.invokestatic 128, 3) := by decide +kernel
theorem d_Md_rule_22 : decode c_Md_rule 22 = .ok (.ifCond .ne 5, 3) := by decide +kernel
theorem d_Md_rule_25 : decode c_Md_rule 25 = .ok (.iconst 0, 1) := by decide +kernel
theorem d_Md_rule_26 : decode c_Md_rule 26 = .ok (.ireturn, 1) := by decide +kernel
theorem d_Md_rule_27 : decode c_Md_rule 27 = .ok (.aload_n 0, 1) := by decide +kernel
theorem d_Md_rule_28 : decode c_Md_rule 28 = .ok (.getfield 19, 3) := by decide +kernel
theorem d_Md_rule_31 : decode c_Md_rule 31 = .ok (.iload_n 1, 1) := by decide +kernel
theorem d_Md_rule_32 : decode c_Md_rule 32 = .ok (.lload_n 2, 1) := by decide +kernel
theorem d_Md_rule_33 : decode c_Md_rule 33 = .ok (.lastore, 1) := by decide +kernel
theorem d_Md_rule_34 : decode c_Md_rule 34 = .ok (.aload_n 0, 1) := by decide +kernel
theorem d_Md_rule_35 : decode c_Md_rule 35 = .ok (.iconst 0, 1) := by decide +kernel
theorem d_Md_rule_36 : decode c_Md_rule 36 = .ok (.putfield 148, 3) := by decide +kernel
theorem d_Md_rule_39 : decode c_Md_rule 39 = .ok (.iconst 1, 1) := by decide +kernel
theorem d_Md_rule_40 : decode c_Md_rule 40 = .ok (.ireturn, 1) := by decide +kernel
theorem d_Md_bar_0 : decode c_Md_bar 0 = .ok (.iload_n 1, 1) := by decide +kernel
theorem d_Md_bar_1 : decode c_Md_bar 1 = .ok (.ifCond .lt 46, 3) := by decide +kernel
theorem d_Md_bar_4 : decode c_Md_bar 4 = .ok (.iload_n 1, 1) := by decide +kernel
theorem d_Md_bar_5 : decode c_Md_bar 5 = .ok (.aload_n 0, 1) := by decide +kernel
theorem d_Md_bar_6 : decode c_Md_bar 6 = .ok (.getfield 139, 3) := by decide +kernel
theorem d_Md_bar_9 : decode c_Md_bar 9 = .ok (.if_icmp .ge 38, 3) := by decide +kernel
theorem d_Md_bar_12 : decode c_Md_bar 12 = .ok (.iload_n 2, 1) := by decide +kernel
theorem d_Md_bar_13 : decode c_Md_bar 13 = .ok (.i2l, 1) := by decide +kernel
theorem d_Md_bar_14 : decode c_Md_bar 14 = .ok (.ldc2_w 142, 3) := by decide +kernel
theorem d_Md_bar_17 : decode c_Md_bar 17 = .ok (.ldc2_w 144, 3) := by decide +kernel
theorem d_Md_bar_20 : decode c_Md_bar 20 = .ok (.invokestatic 128, 3) := by decide +kernel
theorem d_Md_bar_23 : decode c_Md_bar 23 = .ok (.ifCond .eq 24, 3) := by decide +kernel
theorem d_Md_bar_26 : decode c_Md_bar 26 = .ok (.iload_n 3, 1) := by decide +kernel
theorem d_Md_bar_27 : decode c_Md_bar 27 = .ok (.i2l, 1) := by decide +kernel
theorem d_Md_bar_28 : decode c_Md_bar 28 = .ok (.lconst 1, 1) := by decide +kernel
theorem d_Md_bar_29 : decode c_Md_bar 29 = .ok (.ldc2_w 152, 3) := by decide +kernel
theorem d_Md_bar_32 : decode c_Md_bar 32 = .ok (.invokestatic 128, 3) := by decide +kernel
theorem d_Md_bar_35 : decode c_Md_bar 35 = .ok (.ifCond .eq 12, 3) := by decide +kernel
theorem d_Md_bar_38 : decode c_Md_bar 38 = .ok (.aload_n 0, 1) := by decide +kernel
theorem d_Md_bar_39 : decode c_Md_bar 39 = .ok (.getfield 120, 3) := by decide +kernel
theorem d_Md_bar_42 : decode c_Md_bar 42 = .ok (.bipush 12, 2) := by decide +kernel
theorem d_Md_bar_44 : decode c_Md_bar 44 = .ok (.if_icmp .ne 5, 3) := by decide +kernel
theorem d_Md_bar_47 : decode c_Md_bar 47 = .ok (.iconst (-1), 1) := by decide +kernel
theorem d_Md_bar_48 : decode c_Md_bar 48 = .ok (.ireturn, 1) := by decide +kernel
theorem d_Md_bar_49 : decode c_Md_bar 49 = .ok (.aload_n 0, 1) := by decide +kernel
theorem d_Md_bar_50 : decode c_Md_bar 50 = .ok (.getfield 23, 3) := by decide +kernel
theorem d_Md_bar_53 : decode c_Md_bar 53 = .ok (.aload_n 0, 1) := by decide +kernel
theorem d_Md_bar_54 : decode c_Md_bar 54 = .ok (.getfield 120, 3) := by decide +kernel
theorem d_Md_bar_57 : decode c_Md_bar 57 = .ok (.iload_n 1, 1) := by decide +kernel
theorem d_Md_bar_58 : decode c_Md_bar 58 = .ok (.iastore, 1) := by decide +kernel
theorem d_Md_bar_59 : decode c_Md_bar 59 = .ok (.aload_n 0, 1) := by decide +kernel
theorem d_Md_bar_60 : decode c_Md_bar 60 = .ok (.getfield 26, 3) := by decide +kernel
theorem d_Md_bar_63 : decode c_Md_bar 63 = .ok (.aload_n 0, 1) := by decide +kernel
theorem d_Md_bar_64 : decode c_Md_bar 64 = .ok (.getfield 120, 3) := by decide +kernel
theorem d_Md_bar_67 : decode c_Md_bar 67 = .ok (.iload_n 2, 1) := by decide +kernel
theorem d_Md_bar_68 : decode c_Md_bar 68 = .ok (.iastore, 1) := by decide +kernel
theorem d_Md_bar_69 : decode c_Md_bar 69 = .ok (.aload_n 0, 1) := by decide +kernel
theorem d_Md_bar_70 : decode c_Md_bar 70 = .ok (.getfield 29, 3) := by decide +kernel
theorem d_Md_bar_73 : decode c_Md_bar 73 = .ok (.aload_n 0, 1) := by decide +kernel
theorem d_Md_bar_74 : decode c_Md_bar 74 = .ok (.getfield 120, 3) := by decide +kernel
theorem d_Md_bar_77 : decode c_Md_bar 77 = .ok (.iload_n 3, 1) := by decide +kernel
theorem d_Md_bar_78 : decode c_Md_bar 78 = .ok (.iastore, 1) := by decide +kernel
theorem d_Md_bar_79 : decode c_Md_bar 79 = .ok (.aload_n 0, 1) := by decide +kernel
theorem d_Md_bar_80 : decode c_Md_bar 80 = .ok (.dup, 1) := by decide +kernel
theorem d_Md_bar_81 : decode c_Md_bar 81 = .ok (.getfield 120, 3) := by decide +kernel
theorem d_Md_bar_84 : decode c_Md_bar 84 = .ok (.iconst 1, 1) := by decide +kernel
theorem d_Md_bar_85 : decode c_Md_bar 85 = .ok (.iadd, 1) := by decide +kernel
theorem d_Md_bar_86 : decode c_Md_bar 86 = .ok (.putfield 120, 3) := by decide +kernel
theorem d_Md_bar_89 : decode c_Md_bar 89 = .ok (.aload_n 0, 1) := by decide +kernel
theorem d_Md_bar_90 : decode c_Md_bar 90 = .ok (.iconst 0, 1) := by decide +kernel
theorem d_Md_bar_91 : decode c_Md_bar 91 = .ok (.putfield 148, 3) := by decide +kernel
theorem d_Md_bar_94 : decode c_Md_bar 94 = .ok (.aload_n 0, 1) := by decide +kernel
theorem d_Md_bar_95 : decode c_Md_bar 95 = .ok (.getfield 120, 3) := by decide +kernel
theorem d_Md_bar_98 : decode c_Md_bar 98 = .ok (.iconst 1, 1) := by decide +kernel
theorem d_Md_bar_99 : decode c_Md_bar 99 = .ok (.isub, 1) := by decide +kernel
theorem d_Md_bar_100 : decode c_Md_bar 100 = .ok (.ireturn, 1) := by decide +kernel
theorem d_Md_leg_0 : decode c_Md_leg 0 = .ok (.aload_n 0, 1) := by decide +kernel
theorem d_Md_leg_1 : decode c_Md_leg 1 = .ok (.iload_n 1, 1) := by decide +kernel
theorem d_Md_leg_2 : decode c_Md_leg 2 = .ok (.invokevirtual 154, 3) := by decide +kernel
theorem d_Md_leg_5 : decode c_Md_leg 5 = .ok (.ifCond .eq 33, 3) := by decide +kernel
theorem d_Md_leg_8 : decode c_Md_leg 8 = .ok (.iload_n 2, 1) := by decide +kernel
theorem d_Md_leg_9 : decode c_Md_leg 9 = .ok (.ifCond .lt 29, 3) := by decide +kernel
theorem d_Md_leg_12 : decode c_Md_leg 12 = .ok (.iload_n 2, 1) := by decide +kernel
theorem d_Md_leg_13 : decode c_Md_leg 13 = .ok (.aload_n 0, 1) := by decide +kernel
theorem d_Md_leg_14 : decode c_Md_leg 14 = .ok (.getfield 13, 3) := by decide +kernel
theorem d_Md_leg_17 : decode c_Md_leg 17 = .ok (.aload_n 0, 1) := by decide +kernel
theorem d_Md_leg_18 : decode c_Md_leg 18 = .ok (.getfield 23, 3) := by decide +kernel
theorem d_Md_leg_21 : decode c_Md_leg 21 = .ok (.iload_n 1, 1) := by decide +kernel
theorem d_Md_leg_22 : decode c_Md_leg 22 = .ok (.iaload, 1) := by decide +kernel
theorem d_Md_leg_23 : decode c_Md_leg 23 = .ok (.iaload, 1) := by decide +kernel
theorem d_Md_leg_24 : decode c_Md_leg 24 = .ok (.if_icmp .ge 14, 3) := by decide +kernel
theorem d_Md_leg_27 : decode c_Md_leg 27 = .ok (.lload_n 3, 1) := by decide +kernel
theorem d_Md_leg_28 : decode c_Md_leg 28 = .ok (.lconst 1, 1) := by decide +kernel
theorem d_Md_leg_29 : decode c_Md_leg 29 = .ok (.ldc2_w 158, 3) := by decide +kernel
theorem d_Md_leg_32 : decode c_Md_leg 32 = .ok (.invokestatic 128, 3) := by decide +kernel
theorem d_Md_leg_35 : decode c_Md_leg 35 = .ok (.ifCond .ne 5, 3) := by decide +kernel
theorem d_Md_leg_38 : decode c_Md_leg 38 = .ok (.iconst 0, 1) := by decide +kernel
theorem d_Md_leg_39 : decode c_Md_leg 39 = .ok (.ireturn, 1) := by decide +kernel
theorem d_Md_leg_40 : decode c_Md_leg 40 = .ok (.aload_n 0, 1) := by decide +kernel
theorem d_Md_leg_41 : decode c_Md_leg 41 = .ok (.getfield 32, 3) := by decide +kernel
theorem d_Md_leg_44 : decode c_Md_leg 44 = .ok (.bipush 6, 2) := by decide +kernel
theorem d_Md_leg_46 : decode c_Md_leg 46 = .ok (.iload_n 1, 1) := by decide +kernel
theorem d_Md_leg_47 : decode c_Md_leg 47 = .ok (.imul, 1) := by decide +kernel
theorem d_Md_leg_48 : decode c_Md_leg 48 = .ok (.iload_n 2, 1) := by decide +kernel
theorem d_Md_leg_49 : decode c_Md_leg 49 = .ok (.iadd, 1) := by decide +kernel
theorem d_Md_leg_50 : decode c_Md_leg 50 = .ok (.lload_n 3, 1) := by decide +kernel
theorem d_Md_leg_51 : decode c_Md_leg 51 = .ok (.lastore, 1) := by decide +kernel
theorem d_Md_leg_52 : decode c_Md_leg 52 = .ok (.aload_n 0, 1) := by decide +kernel
theorem d_Md_leg_53 : decode c_Md_leg 53 = .ok (.iconst 0, 1) := by decide +kernel
theorem d_Md_leg_54 : decode c_Md_leg 54 = .ok (.putfield 148, 3) := by decide +kernel
theorem d_Md_leg_57 : decode c_Md_leg 57 = .ok (.iconst 1, 1) := by decide +kernel
theorem d_Md_leg_58 : decode c_Md_leg 58 = .ok (.ireturn, 1) := by decide +kernel
theorem d_Md_stock_0 : decode c_Md_stock 0 = .ok (.iload_n 1, 1) := by decide +kernel
theorem d_Md_stock_1 : decode c_Md_stock 1 = .ok (.i2l, 1) := by decide +kernel
theorem d_Md_stock_2 : decode c_Md_stock 2 = .ok (.ldc2_w 142, 3) := by decide +kernel
theorem d_Md_stock_5 : decode c_Md_stock 5 = .ok (.ldc2_w 144, 3) := by decide +kernel
theorem d_Md_stock_8 : decode c_Md_stock 8 = .ok (.invokestatic 128, 3) := by decide +kernel
theorem d_Md_stock_11 : decode c_Md_stock 11 = .ok (.ifCond .eq 37, 3) := by decide +kernel
theorem d_Md_stock_14 : decode c_Md_stock 14 = .ok (.lload_n 2, 1) := by decide +kernel
theorem d_Md_stock_15 : decode c_Md_stock 15 = .ok (.lconst 1, 1) := by decide +kernel
theorem d_Md_stock_16 : decode c_Md_stock 16 = .ok (.ldc2_w 160, 3) := by decide +kernel
theorem d_Md_stock_19 : decode c_Md_stock 19 = .ok (.invokestatic 128, 3) := by decide +kernel
theorem d_Md_stock_22 : decode c_Md_stock 22 = .ok (.ifCond .eq 26, 3) := by decide +kernel
theorem d_Md_stock_25 : decode c_Md_stock 25 = .ok (.iload 4, 2) := by decide +kernel
theorem d_Md_stock_27 : decode c_Md_stock 27 = .ok (.i2l, 1) := by decide +kernel
theorem d_Md_stock_28 : decode c_Md_stock 28 = .ok (.lconst 0, 1) := by decide +kernel
theorem d_Md_stock_29 : decode c_Md_stock 29 = .ok (.ldc2_w 162, 3) := by decide +kernel
theorem d_Md_stock_32 : decode c_Md_stock 32 = .ok (.invokestatic 128, 3) := by decide +kernel
theorem d_Md_stock_35 : decode c_Md_stock 35 = .ok (.ifCond .eq 13, 3) := by decide +kernel
theorem d_Md_stock_38 : decode c_Md_stock 38 = .ok (.aload_n 0, 1) := by decide +kernel
theorem d_Md_stock_39 : decode c_Md_stock 39 = .ok (.getfield 48, 3) := by decide +kernel
theorem d_Md_stock_42 : decode c_Md_stock 42 = .ok (.iload_n 1, 1) := by decide +kernel
theorem d_Md_stock_43 : decode c_Md_stock 43 = .ok (.iaload, 1) := by decide +kernel
theorem d_Md_stock_44 : decode c_Md_stock 44 = .ok (.iconst 3, 1) := by decide +kernel
theorem d_Md_stock_45 : decode c_Md_stock 45 = .ok (.if_icmp .ne 5, 3) := by decide +kernel
theorem d_Md_stock_48 : decode c_Md_stock 48 = .ok (.iconst 0, 1) := by decide +kernel
theorem d_Md_stock_49 : decode c_Md_stock 49 = .ok (.ireturn, 1) := by decide +kernel
theorem d_Md_stock_50 : decode c_Md_stock 50 = .ok (.aload_n 0, 1) := by decide +kernel
theorem d_Md_stock_51 : decode c_Md_stock 51 = .ok (.getfield 51, 3) := by decide +kernel
theorem d_Md_stock_54 : decode c_Md_stock 54 = .ok (.iconst 3, 1) := by decide +kernel
theorem d_Md_stock_55 : decode c_Md_stock 55 = .ok (.iload_n 1, 1) := by decide +kernel
theorem d_Md_stock_56 : decode c_Md_stock 56 = .ok (.imul, 1) := by decide +kernel
theorem d_Md_stock_57 : decode c_Md_stock 57 = .ok (.aload_n 0, 1) := by decide +kernel
theorem d_Md_stock_58 : decode c_Md_stock 58 = .ok (.getfield 48, 3) := by decide +kernel
theorem d_Md_stock_61 : decode c_Md_stock 61 = .ok (.iload_n 1, 1) := by decide +kernel
theorem d_Md_stock_62 : decode c_Md_stock 62 = .ok (.iaload, 1) := by decide +kernel
theorem d_Md_stock_63 : decode c_Md_stock 63 = .ok (.iadd, 1) := by decide +kernel
theorem d_Md_stock_64 : decode c_Md_stock 64 = .ok (.lload_n 2, 1) := by decide +kernel
theorem d_Md_stock_65 : decode c_Md_stock 65 = .ok (.lastore, 1) := by decide +kernel
theorem d_Md_stock_66 : decode c_Md_stock 66 = .ok (.aload_n 0, 1) := by decide +kernel
theorem d_Md_stock_67 : decode c_Md_stock 67 = .ok (.getfield 54, 3) := by decide +kernel
theorem d_Md_stock_70 : decode c_Md_stock 70 = .ok (.iconst 3, 1) := by decide +kernel
theorem d_Md_stock_71 : decode c_Md_stock 71 = .ok (.iload_n 1, 1) := by decide +kernel
theorem d_Md_stock_72 : decode c_Md_stock 72 = .ok (.imul, 1) := by decide +kernel
theorem d_Md_stock_73 : decode c_Md_stock 73 = .ok (.aload_n 0, 1) := by decide +kernel
theorem d_Md_stock_74 : decode c_Md_stock 74 = .ok (.getfield 48, 3) := by decide +kernel
theorem d_Md_stock_77 : decode c_Md_stock 77 = .ok (.iload_n 1, 1) := by decide +kernel
theorem d_Md_stock_78 : decode c_Md_stock 78 = .ok (.iaload, 1) := by decide +kernel
theorem d_Md_stock_79 : decode c_Md_stock 79 = .ok (.iadd, 1) := by decide +kernel
theorem d_Md_stock_80 : decode c_Md_stock 80 = .ok (.iload 4, 2) := by decide +kernel
theorem d_Md_stock_82 : decode c_Md_stock 82 = .ok (.iastore, 1) := by decide +kernel
theorem d_Md_stock_83 : decode c_Md_stock 83 = .ok (.aload_n 0, 1) := by decide +kernel
theorem d_Md_stock_84 : decode c_Md_stock 84 = .ok (.getfield 48, 3) := by decide +kernel
theorem d_Md_stock_87 : decode c_Md_stock 87 = .ok (.iload_n 1, 1) := by decide +kernel
theorem d_Md_stock_88 : decode c_Md_stock 88 = .ok (.dup2, 1) := by decide +kernel
theorem d_Md_stock_89 : decode c_Md_stock 89 = .ok (.iaload, 1) := by decide +kernel
theorem d_Md_stock_90 : decode c_Md_stock 90 = .ok (.iconst 1, 1) := by decide +kernel
theorem d_Md_stock_91 : decode c_Md_stock 91 = .ok (.iadd, 1) := by decide +kernel
theorem d_Md_stock_92 : decode c_Md_stock 92 = .ok (.iastore, 1) := by decide +kernel
theorem d_Md_stock_93 : decode c_Md_stock 93 = .ok (.aload_n 0, 1) := by decide +kernel
theorem d_Md_stock_94 : decode c_Md_stock 94 = .ok (.iconst 0, 1) := by decide +kernel
theorem d_Md_stock_95 : decode c_Md_stock 95 = .ok (.putfield 148, 3) := by decide +kernel
theorem d_Md_stock_98 : decode c_Md_stock 98 = .ok (.iconst 1, 1) := by decide +kernel
theorem d_Md_stock_99 : decode c_Md_stock 99 = .ok (.ireturn, 1) := by decide +kernel
theorem d_Md_sumOf_0 : decode c_Md_sumOf 0 = .ok (.lconst 0, 1) := by decide +kernel
theorem d_Md_sumOf_1 : decode c_Md_sumOf 1 = .ok (.lstore_n 2, 1) := by decide +kernel
theorem d_Md_sumOf_2 : decode c_Md_sumOf 2 = .ok (.iconst 0, 1) := by decide +kernel
theorem d_Md_sumOf_3 : decode c_Md_sumOf 3 = .ok (.istore 4, 2) := by decide +kernel
theorem d_Md_sumOf_5 : decode c_Md_sumOf 5 = .ok (.iload 4, 2) := by decide +kernel
theorem d_Md_sumOf_7 : decode c_Md_sumOf 7 = .ok (.bipush 6, 2) := by decide +kernel
theorem d_Md_sumOf_9 : decode c_Md_sumOf 9 = .ok (.if_icmp .ge 24, 3) := by decide +kernel
theorem d_Md_sumOf_12 : decode c_Md_sumOf 12 = .ok (.lload_n 2, 1) := by decide +kernel
theorem d_Md_sumOf_13 : decode c_Md_sumOf 13 = .ok (.aload_n 0, 1) := by decide +kernel
theorem d_Md_sumOf_14 : decode c_Md_sumOf 14 = .ok (.getfield 32, 3) := by decide +kernel
theorem d_Md_sumOf_17 : decode c_Md_sumOf 17 = .ok (.bipush 6, 2) := by decide +kernel
theorem d_Md_sumOf_19 : decode c_Md_sumOf 19 = .ok (.iload_n 1, 1) := by decide +kernel
theorem d_Md_sumOf_20 : decode c_Md_sumOf 20 = .ok (.imul, 1) := by decide +kernel
theorem d_Md_sumOf_21 : decode c_Md_sumOf 21 = .ok (.iload 4, 2) := by decide +kernel
theorem d_Md_sumOf_23 : decode c_Md_sumOf 23 = .ok (.iadd, 1) := by decide +kernel
theorem d_Md_sumOf_24 : decode c_Md_sumOf 24 = .ok (.laload, 1) := by decide +kernel
theorem d_Md_sumOf_25 : decode c_Md_sumOf 25 = .ok (.ladd, 1) := by decide +kernel
theorem d_Md_sumOf_26 : decode c_Md_sumOf 26 = .ok (.lstore_n 2, 1) := by decide +kernel
theorem d_Md_sumOf_27 : decode c_Md_sumOf 27 = .ok (.iinc 4 1, 3) := by decide +kernel
theorem d_Md_sumOf_30 : decode c_Md_sumOf 30 = .ok (.goto (-25), 3) := by decide +kernel
theorem d_Md_sumOf_33 : decode c_Md_sumOf 33 = .ok (.lload_n 2, 1) := by decide +kernel
theorem d_Md_sumOf_34 : decode c_Md_sumOf 34 = .ok (.lreturn, 1) := by decide +kernel
theorem d_Md_lengthOf_0 : decode c_Md_lengthOf 0 = .ok (.aload_n 0, 1) := by decide +kernel
theorem d_Md_lengthOf_1 : decode c_Md_lengthOf 1 = .ok (.iload_n 1, 1) := by decide +kernel
theorem d_Md_lengthOf_2 : decode c_Md_lengthOf 2 = .ok (.invokevirtual 164, 3) := by decide +kernel
theorem d_Md_lengthOf_5 : decode c_Md_lengthOf 5 = .ok (.lstore_n 2, 1) := by decide +kernel
theorem d_Md_lengthOf_6 : decode c_Md_lengthOf 6 = .ok (.iconst 0, 1) := by decide +kernel
theorem d_Md_lengthOf_7 : decode c_Md_lengthOf 7 = .ok (.istore 4, 2) := by decide +kernel
theorem d_Md_lengthOf_9 : decode c_Md_lengthOf 9 = .ok (.iload 4, 2) := by decide +kernel
theorem d_Md_lengthOf_11 : decode c_Md_lengthOf 11 = .ok (.iconst 1, 1) := by decide +kernel
theorem d_Md_lengthOf_12 : decode c_Md_lengthOf 12 = .ok (.iadd, 1) := by decide +kernel
theorem d_Md_lengthOf_13 : decode c_Md_lengthOf 13 = .ok (.aload_n 0, 1) := by decide +kernel
theorem d_Md_lengthOf_14 : decode c_Md_lengthOf 14 = .ok (.getfield 13, 3) := by decide +kernel
theorem d_Md_lengthOf_17 : decode c_Md_lengthOf 17 = .ok (.aload_n 0, 1) := by decide +kernel
theorem d_Md_lengthOf_18 : decode c_Md_lengthOf 18 = .ok (.getfield 23, 3) := by decide +kernel
theorem d_Md_lengthOf_21 : decode c_Md_lengthOf 21 = .ok (.iload_n 1, 1) := by decide +kernel
theorem d_Md_lengthOf_22 : decode c_Md_lengthOf 22 = .ok (.iaload, 1) := by decide +kernel
theorem d_Md_lengthOf_23 : decode c_Md_lengthOf 23 = .ok (.iaload, 1) := by decide +kernel
theorem d_Md_lengthOf_24 : decode c_Md_lengthOf 24 = .ok (.if_icmp .ge 56, 3) := by decide +kernel
theorem d_Md_lengthOf_27 : decode c_Md_lengthOf 27 = .ok (.aload_n 0, 1) := by decide +kernel
theorem d_Md_lengthOf_28 : decode c_Md_lengthOf 28 = .ok (.getfield 16, 3) := by decide +kernel
theorem d_Md_lengthOf_31 : decode c_Md_lengthOf 31 = .ok (.bipush 6, 2) := by decide +kernel
theorem d_Md_lengthOf_33 : decode c_Md_lengthOf 33 = .ok (.aload_n 0, 1) := by decide +kernel
theorem d_Md_lengthOf_34 : decode c_Md_lengthOf 34 = .ok (.getfield 23, 3) := by decide +kernel
theorem d_Md_lengthOf_37 : decode c_Md_lengthOf 37 = .ok (.iload_n 1, 1) := by decide +kernel
theorem d_Md_lengthOf_38 : decode c_Md_lengthOf 38 = .ok (.iaload, 1) := by decide +kernel
theorem d_Md_lengthOf_39 : decode c_Md_lengthOf 39 = .ok (.imul, 1) := by decide +kernel
theorem d_Md_lengthOf_40 : decode c_Md_lengthOf 40 = .ok (.iload 4, 2) := by decide +kernel
theorem d_Md_lengthOf_42 : decode c_Md_lengthOf 42 = .ok (.iadd, 1) := by decide +kernel
theorem d_Md_lengthOf_43 : decode c_Md_lengthOf 43 = .ok (.iaload, 1) := by decide +kernel
theorem d_Md_lengthOf_44 : decode c_Md_lengthOf 44 = .ok (.istore 5, 2) := by decide +kernel
theorem d_Md_lengthOf_46 : decode c_Md_lengthOf 46 = .ok (.lload_n 2, 1) := by decide +kernel
theorem d_Md_lengthOf_47 : decode c_Md_lengthOf 47 = .ok (.aload_n 0, 1) := by decide +kernel
theorem d_Md_lengthOf_48 : decode c_Md_lengthOf 48 = .ok (.getfield 19, 3) := by decide +kernel
theorem d_Md_lengthOf_51 : decode c_Md_lengthOf 51 = .ok (.aload_n 0, 1) := by decide +kernel
theorem d_Md_lengthOf_52 : decode c_Md_lengthOf 52 = .ok (.getfield 26, 3) := by decide +kernel
theorem d_Md_lengthOf_55 : decode c_Md_lengthOf 55 = .ok (.iload_n 1, 1) := by decide +kernel
theorem d_Md_lengthOf_56 : decode c_Md_lengthOf 56 = .ok (.iaload, 1) := by decide +kernel
theorem d_Md_lengthOf_57 : decode c_Md_lengthOf 57 = .ok (.laload, 1) := by decide +kernel
theorem d_Md_lengthOf_58 : decode c_Md_lengthOf 58 = .ok (.iload 5, 2) := by decide +kernel
theorem d_Md_lengthOf_60 : decode c_Md_lengthOf 60 = .ok (.iconst 3, 1) := by decide +kernel
theorem d_Md_lengthOf_61 : decode c_Md_lengthOf 61 = .ok (.if_icmp .ne 9, 3) := by decide +kernel
theorem d_Md_lengthOf_64 : decode c_Md_lengthOf 64 = .ok (.ldc2_w 168, 3) := by decide +kernel
theorem d_Md_lengthOf_67 : decode c_Md_lengthOf 67 = .ok (.goto 4, 3) := by decide +kernel
theorem d_Md_lengthOf_70 : decode c_Md_lengthOf 70 = .ok (.lconst 1, 1) := by decide +kernel
theorem d_Md_lengthOf_71 : decode c_Md_lengthOf 71 = .ok (.lmul, 1) := by decide +kernel
theorem d_Md_lengthOf_72 : decode c_Md_lengthOf 72 = .ok (.lsub, 1) := by decide +kernel
theorem d_Md_lengthOf_73 : decode c_Md_lengthOf 73 = .ok (.lstore_n 2, 1) := by decide +kernel
theorem d_Md_lengthOf_74 : decode c_Md_lengthOf 74 = .ok (.iinc 4 1, 3) := by decide +kernel
theorem d_Md_lengthOf_77 : decode c_Md_lengthOf 77 = .ok (.goto (-68), 3) := by decide +kernel
theorem d_Md_lengthOf_80 : decode c_Md_lengthOf 80 = .ok (.lload_n 2, 1) := by decide +kernel
theorem d_Md_lengthOf_81 : decode c_Md_lengthOf 81 = .ok (.lconst 0, 1) := by decide +kernel
theorem d_Md_lengthOf_82 : decode c_Md_lengthOf 82 = .ok (.lcmp, 1) := by decide +kernel
theorem d_Md_lengthOf_83 : decode c_Md_lengthOf 83 = .ok (.ifCond .ge 7, 3) := by decide +kernel
theorem d_Md_lengthOf_86 : decode c_Md_lengthOf 86 = .ok (.lconst 0, 1) := by decide +kernel
theorem d_Md_lengthOf_87 : decode c_Md_lengthOf 87 = .ok (.goto 4, 3) := by decide +kernel
theorem d_Md_lengthOf_90 : decode c_Md_lengthOf 90 = .ok (.lload_n 2, 1) := by decide +kernel
theorem d_Md_lengthOf_91 : decode c_Md_lengthOf 91 = .ok (.lreturn, 1) := by decide +kernel
theorem d_Md_length_0 : decode c_Md_length 0 = .ok (.aload_n 0, 1) := by decide +kernel
theorem d_Md_length_1 : decode c_Md_length 1 = .ok (.iload_n 1, 1) := by decide +kernel
theorem d_Md_length_2 : decode c_Md_length 2 = .ok (.invokevirtual 154, 3) := by decide +kernel
theorem d_Md_length_5 : decode c_Md_length 5 = .ok (.ifCond .eq 12, 3) := by decide +kernel
theorem d_Md_length_8 : decode c_Md_length 8 = .ok (.iload_n 2, 1) := by decide +kernel
theorem d_Md_length_9 : decode c_Md_length 9 = .ok (.ifCond .lt 8, 3) := by decide +kernel
theorem d_Md_length_12 : decode c_Md_length 12 = .ok (.iload_n 2, 1) := by decide +kernel
theorem d_Md_length_13 : decode c_Md_length 13 = .ok (.iconst 4, 1) := by decide +kernel
theorem d_Md_length_14 : decode c_Md_length 14 = .ok (.if_icmp .le 7, 3) := by decide +kernel
theorem d_Md_length_17 : decode c_Md_length 17 = .ok (.ldc2_w 170, 3) := by decide +kernel
theorem d_Md_length_20 : decode c_Md_length 20 = .ok (.lreturn, 1) := by decide +kernel
theorem d_Md_length_21 : decode c_Md_length 21 = .ok (.iload_n 2, 1) := by decide +kernel
theorem d_Md_length_22 : decode c_Md_length 22 = .ok (.ifCond .ne 11, 3) := by decide +kernel
theorem d_Md_length_25 : decode c_Md_length 25 = .ok (.aload_n 0, 1) := by decide +kernel
theorem d_Md_length_26 : decode c_Md_length 26 = .ok (.iload_n 1, 1) := by decide +kernel
theorem d_Md_length_27 : decode c_Md_length 27 = .ok (.invokevirtual 172, 3) := by decide +kernel
theorem d_Md_length_30 : decode c_Md_length 30 = .ok (.goto 53, 3) := by decide +kernel
theorem d_Md_length_33 : decode c_Md_length 33 = .ok (.iload_n 2, 1) := by decide +kernel
theorem d_Md_length_34 : decode c_Md_length 34 = .ok (.iconst 1, 1) := by decide +kernel
theorem d_Md_length_35 : decode c_Md_length 35 = .ok (.if_icmp .ne 13, 3) := by decide +kernel
theorem d_Md_length_38 : decode c_Md_length 38 = .ok (.aload_n 0, 1) := by decide +kernel
theorem d_Md_length_39 : decode c_Md_length 39 = .ok (.getfield 29, 3) := by decide +kernel
theorem d_Md_length_42 : decode c_Md_length 42 = .ok (.iload_n 1, 1) := by decide +kernel
theorem d_Md_length_43 : decode c_Md_length 43 = .ok (.iaload, 1) := by decide +kernel
theorem d_Md_length_44 : decode c_Md_length 44 = .ok (.i2l, 1) := by decide +kernel
theorem d_Md_length_45 : decode c_Md_length 45 = .ok (.goto 38, 3) := by decide +kernel
theorem d_Md_length_48 : decode c_Md_length 48 = .ok (.iload_n 2, 1) := by decide +kernel
theorem d_Md_length_49 : decode c_Md_length 49 = .ok (.iconst 2, 1) := by decide +kernel
theorem d_Md_length_50 : decode c_Md_length 50 = .ok (.if_icmp .ne 11, 3) := by decide +kernel
theorem d_Md_length_53 : decode c_Md_length 53 = .ok (.aload_n 0, 1) := by decide +kernel
theorem d_Md_length_54 : decode c_Md_length 54 = .ok (.iload_n 1, 1) := by decide +kernel
theorem d_Md_length_55 : decode c_Md_length 55 = .ok (.invokevirtual 164, 3) := by decide +kernel
theorem d_Md_length_58 : decode c_Md_length 58 = .ok (.goto 25, 3) := by decide +kernel
theorem d_Md_length_61 : decode c_Md_length 61 = .ok (.iload_n 2, 1) := by decide +kernel
theorem d_Md_length_62 : decode c_Md_length 62 = .ok (.iconst 3, 1) := by decide +kernel
theorem d_Md_length_63 : decode c_Md_length 63 = .ok (.if_icmp .ne 13, 3) := by decide +kernel
theorem d_Md_length_66 : decode c_Md_length 66 = .ok (.aload_n 0, 1) := by decide +kernel
theorem d_Md_length_67 : decode c_Md_length 67 = .ok (.getfield 26, 3) := by decide +kernel
theorem d_Md_length_70 : decode c_Md_length 70 = .ok (.iload_n 1, 1) := by decide +kernel
theorem d_Md_length_71 : decode c_Md_length 71 = .ok (.iaload, 1) := by decide +kernel
theorem d_Md_length_72 : decode c_Md_length 72 = .ok (.i2l, 1) := by decide +kernel
theorem d_Md_length_73 : decode c_Md_length 73 = .ok (.goto 10, 3) := by decide +kernel
theorem d_Md_length_76 : decode c_Md_length 76 = .ok (.aload_n 0, 1) := by decide +kernel
theorem d_Md_length_77 : decode c_Md_length 77 = .ok (.getfield 23, 3) := by decide +kernel
theorem d_Md_length_80 : decode c_Md_length 80 = .ok (.iload_n 1, 1) := by decide +kernel
theorem d_Md_length_81 : decode c_Md_length 81 = .ok (.iaload, 1) := by decide +kernel
theorem d_Md_length_82 : decode c_Md_length 82 = .ok (.i2l, 1) := by decide +kernel
theorem d_Md_length_83 : decode c_Md_length 83 = .ok (.lreturn, 1) := by decide +kernel
theorem d_Md_findPieces_0 : decode c_Md_findPieces 0 = .ok (.aload_n 0, 1) := by decide +kernel
theorem d_Md_findPieces_1 : decode c_Md_findPieces 1 = .ok (.iconst 0, 1) := by decide +kernel
theorem d_Md_findPieces_2 : decode c_Md_findPieces 2 = .ok (.putfield 175, 3) := by decide +kernel
theorem d_Md_findPieces_5 : decode c_Md_findPieces 5 = .ok (.iconst 0, 1) := by decide +kernel
theorem d_Md_findPieces_6 : decode c_Md_findPieces 6 = .ok (.istore_n 2, 1) := by decide +kernel
theorem d_Md_findPieces_7 : decode c_Md_findPieces 7 = .ok (.iload_n 2, 1) := by decide +kernel
theorem d_Md_findPieces_8 : decode c_Md_findPieces 8 = .ok (.aload_n 0, 1) := by decide +kernel
theorem d_Md_findPieces_9 : decode c_Md_findPieces 9 = .ok (.getfield 120, 3) := by decide +kernel
theorem d_Md_findPieces_12 : decode c_Md_findPieces 12 = .ok (.if_icmp .ge 134, 3) := by decide +kernel
theorem d_Md_findPieces_15 : decode c_Md_findPieces 15 = .ok (.iconst 0, 1) := by decide +kernel
theorem d_Md_findPieces_16 : decode c_Md_findPieces 16 = .ok (.istore_n 3, 1) := by decide +kernel
theorem d_Md_findPieces_17 : decode c_Md_findPieces 17 = .ok (.iload_n 3, 1) := by decide +kernel
theorem d_Md_findPieces_18 : decode c_Md_findPieces 18 = .ok (.aload_n 0, 1) := by decide +kernel
theorem d_Md_findPieces_19 : decode c_Md_findPieces 19 = .ok (.getfield 29, 3) := by decide +kernel
theorem d_Md_findPieces_22 : decode c_Md_findPieces 22 = .ok (.iload_n 2, 1) := by decide +kernel
theorem d_Md_findPieces_23 : decode c_Md_findPieces 23 = .ok (.iaload, 1) := by decide +kernel
theorem d_Md_findPieces_24 : decode c_Md_findPieces 24 = .ok (.if_icmp .ge 116, 3) := by decide +kernel
theorem d_Md_findPieces_27 : decode c_Md_findPieces 27 = .ok (.aload_n 0, 1) := by decide +kernel
theorem d_Md_findPieces_28 : decode c_Md_findPieces 28 = .ok (.getfield 26, 3) := by decide +kernel
theorem d_Md_findPieces_31 : decode c_Md_findPieces 31 = .ok (.iload_n 2, 1) := by decide +kernel
theorem d_Md_findPieces_32 : decode c_Md_findPieces 32 = .ok (.iaload, 1) := by decide +kernel
theorem d_Md_findPieces_33 : decode c_Md_findPieces 33 = .ok (.iload_n 1, 1) := by decide +kernel
theorem d_Md_findPieces_34 : decode c_Md_findPieces 34 = .ok (.if_icmp .ne 106, 3) := by decide +kernel
theorem d_Md_findPieces_37 : decode c_Md_findPieces 37 = .ok (.aload_n 0, 1) := by decide +kernel
theorem d_Md_findPieces_38 : decode c_Md_findPieces 38 = .ok (.getfield 175, 3) := by decide +kernel
theorem d_Md_findPieces_41 : decode c_Md_findPieces 41 = .ok (.istore 4, 2) := by decide +kernel
theorem d_Md_findPieces_43 : decode c_Md_findPieces 43 = .ok (.iload 4, 2) := by decide +kernel
theorem d_Md_findPieces_45 : decode c_Md_findPieces 45 = .ok (.ifCond .le 59, 3) := by decide +kernel
theorem d_Md_findPieces_48 : decode c_Md_findPieces 48 = .ok (.aload_n 0, 1) := by decide +kernel
theorem d_Md_findPieces_49 : decode c_Md_findPieces 49 = .ok (.getfield 63, 3) := by decide +kernel
theorem d_Md_findPieces_52 : decode c_Md_findPieces 52 = .ok (.iload 4, 2) := by decide +kernel
theorem d_Md_findPieces_54 : decode c_Md_findPieces 54 = .ok (.iconst 1, 1) := by decide +kernel
theorem d_Md_findPieces_55 : decode c_Md_findPieces 55 = .ok (.isub, 1) := by decide +kernel
theorem d_Md_findPieces_56 : decode c_Md_findPieces 56 = .ok (.laload, 1) := by decide +kernel
theorem d_Md_findPieces_57 : decode c_Md_findPieces 57 = .ok (.aload_n 0, 1) := by decide +kernel
theorem d_Md_findPieces_58 : decode c_Md_findPieces 58 = .ok (.iload_n 2, 1) := by decide +kernel
theorem d_Md_findPieces_59 : decode c_Md_findPieces 59 = .ok (.invokevirtual 172, 3) := by decide +kernel
theorem d_Md_findPieces_62 : decode c_Md_findPieces 62 = .ok (.lcmp, 1) := by decide +kernel
theorem d_Md_findPieces_63 : decode c_Md_findPieces 63 = .ok (.ifCond .ge 41, 3) := by decide +kernel
theorem d_Md_findPieces_66 : decode c_Md_findPieces 66 = .ok (.aload_n 0, 1) := by decide +kernel
theorem d_Md_findPieces_67 : decode c_Md_findPieces 67 = .ok (.getfield 63, 3) := by decide +kernel
theorem d_Md_findPieces_70 : decode c_Md_findPieces 70 = .ok (.iload 4, 2) := by decide +kernel
theorem d_Md_findPieces_72 : decode c_Md_findPieces 72 = .ok (.aload_n 0, 1) := by decide +kernel
theorem d_Md_findPieces_73 : decode c_Md_findPieces 73 = .ok (.getfield 63, 3) := by decide +kernel
theorem d_Md_findPieces_76 : decode c_Md_findPieces 76 = .ok (.iload 4, 2) := by decide +kernel
theorem d_Md_findPieces_78 : decode c_Md_findPieces 78 = .ok (.iconst 1, 1) := by decide +kernel
theorem d_Md_findPieces_79 : decode c_Md_findPieces 79 = .ok (.isub, 1) := by decide +kernel
theorem d_Md_findPieces_80 : decode c_Md_findPieces 80 = .ok (.laload, 1) := by decide +kernel
theorem d_Md_findPieces_81 : decode c_Md_findPieces 81 = .ok (.lastore, 1) := by decide +kernel
theorem d_Md_findPieces_82 : decode c_Md_findPieces 82 = .ok (.aload_n 0, 1) := by decide +kernel
theorem d_Md_findPieces_83 : decode c_Md_findPieces 83 = .ok (.getfield 60, 3) := by decide +kernel
theorem d_Md_findPieces_86 : decode c_Md_findPieces 86 = .ok (.iload 4, 2) := by decide +kernel
theorem d_Md_findPieces_88 : decode c_Md_findPieces 88 = .ok (.aload_n 0, 1) := by decide +kernel
theorem d_Md_findPieces_89 : decode c_Md_findPieces 89 = .ok (.getfield 60, 3) := by decide +kernel
theorem d_Md_findPieces_92 : decode c_Md_findPieces 92 = .ok (.iload 4, 2) := by decide +kernel
theorem d_Md_findPieces_94 : decode c_Md_findPieces 94 = .ok (.iconst 1, 1) := by decide +kernel
theorem d_Md_findPieces_95 : decode c_Md_findPieces 95 = .ok (.isub, 1) := by decide +kernel
theorem d_Md_findPieces_96 : decode c_Md_findPieces 96 = .ok (.iaload, 1) := by decide +kernel
theorem d_Md_findPieces_97 : decode c_Md_findPieces 97 = .ok (.iastore, 1) := by decide +kernel
theorem d_Md_findPieces_98 : decode c_Md_findPieces 98 = .ok (.iinc 4 (-1), 3) := by decide +kernel
theorem d_Md_findPieces_101 : decode c_Md_findPieces 101 = .ok (.goto (-58), 3) := by decide +kernel
theorem d_Md_findPieces_104 : decode c_Md_findPieces 104 = .ok (.aload_n 0, 1) := by decide +kernel
theorem d_Md_findPieces_105 : decode c_Md_findPieces 105 = .ok (.getfield 63, 3) := by decide +kernel
theorem d_Md_findPieces_108 : decode c_Md_findPieces 108 = .ok (.iload 4, 2) := by decide +kernel
theorem d_Md_findPieces_110 : decode c_Md_findPieces 110 = .ok (.aload_n 0, 1) := by decide +kernel
theorem d_Md_findPieces_111 : decode c_Md_findPieces 111 = .ok (.iload_n 2, 1) := by decide +kernel
theorem d_Md_findPieces_112 : decode c_Md_findPieces 112 = .ok (.invokevirtual 172, 3) := by decide +kernel
theorem d_Md_findPieces_115 : decode c_Md_findPieces 115 = .ok (.lastore, 1) := by decide +kernel
theorem d_Md_findPieces_116 : decode c_Md_findPieces 116 = .ok (.aload_n 0, 1) := by decide +kernel
theorem d_Md_findPieces_117 : decode c_Md_findPieces 117 = .ok (.getfield 60, 3) := by decide +kernel
theorem d_Md_findPieces_120 : decode c_Md_findPieces 120 = .ok (.iload 4, 2) := by decide +kernel
theorem d_Md_findPieces_122 : decode c_Md_findPieces 122 = .ok (.iload_n 2, 1) := by decide +kernel
theorem d_Md_findPieces_123 : decode c_Md_findPieces 123 = .ok (.iastore, 1) := by decide +kernel
theorem d_Md_findPieces_124 : decode c_Md_findPieces 124 = .ok (.aload_n 0, 1) := by decide +kernel
theorem d_Md_findPieces_125 : decode c_Md_findPieces 125 = .ok (.dup, 1) := by decide +kernel
theorem d_Md_findPieces_126 : decode c_Md_findPieces 126 = .ok (.getfield 175, 3) := by decide +kernel
theorem d_Md_findPieces_129 : decode c_Md_findPieces 129 = .ok (.iconst 1, 1) := by decide +kernel
theorem d_Md_findPieces_130 : decode c_Md_findPieces 130 = .ok (.iadd, 1) := by decide +kernel
theorem d_Md_findPieces_131 : decode c_Md_findPieces 131 = .ok (.putfield 175, 3) := by decide +kernel
theorem d_Md_findPieces_134 : decode c_Md_findPieces 134 = .ok (.iinc 3 1, 3) := by decide +kernel
theorem d_Md_findPieces_137 : decode c_Md_findPieces 137 = .ok (.goto (-120), 3) := by decide +kernel
theorem d_Md_findPieces_140 : decode c_Md_findPieces 140 = .ok (.iinc 2 1, 3) := by decide +kernel
theorem d_Md_findPieces_143 : decode c_Md_findPieces 143 = .ok (.goto (-136), 3) := by decide +kernel
theorem d_Md_findPieces_146 : decode c_Md_findPieces 146 = .ok (.return_, 1) := by decide +kernel
theorem d_Md_openBar_0 : decode c_Md_openBar 0 = .ok (.aload_n 0, 1) := by decide +kernel
theorem d_Md_openBar_1 : decode c_Md_openBar 1 = .ok (.getfield 81, 3) := by decide +kernel
theorem d_Md_openBar_4 : decode c_Md_openBar 4 = .ok (.aload_n 0, 1) := by decide +kernel
theorem d_Md_openBar_5 : decode c_Md_openBar 5 = .ok (.getfield 178, 3) := by decide +kernel
theorem d_Md_openBar_8 : decode c_Md_openBar 8 = .ok (.iload_n 1, 1) := by decide +kernel
theorem d_Md_openBar_9 : decode c_Md_openBar 9 = .ok (.iastore, 1) := by decide +kernel
theorem d_Md_openBar_10 : decode c_Md_openBar 10 = .ok (.aload_n 0, 1) := by decide +kernel
theorem d_Md_openBar_11 : decode c_Md_openBar 11 = .ok (.getfield 84, 3) := by decide +kernel
theorem d_Md_openBar_14 : decode c_Md_openBar 14 = .ok (.aload_n 0, 1) := by decide +kernel
theorem d_Md_openBar_15 : decode c_Md_openBar 15 = .ok (.getfield 178, 3) := by decide +kernel
theorem d_Md_openBar_18 : decode c_Md_openBar 18 = .ok (.aload_n 0, 1) := by decide +kernel
theorem d_Md_openBar_19 : decode c_Md_openBar 19 = .ok (.getfield 51, 3) := by decide +kernel
theorem d_Md_openBar_22 : decode c_Md_openBar 22 = .ok (.iconst 3, 1) := by decide +kernel
theorem d_Md_openBar_23 : decode c_Md_openBar 23 = .ok (.iload_n 1, 1) := by decide +kernel
theorem d_Md_openBar_24 : decode c_Md_openBar 24 = .ok (.imul, 1) := by decide +kernel
theorem d_Md_openBar_25 : decode c_Md_openBar 25 = .ok (.iload_n 2, 1) := by decide +kernel
theorem d_Md_openBar_26 : decode c_Md_openBar 26 = .ok (.iadd, 1) := by decide +kernel
theorem d_Md_openBar_27 : decode c_Md_openBar 27 = .ok (.laload, 1) := by decide +kernel
theorem d_Md_openBar_28 : decode c_Md_openBar 28 = .ok (.lastore, 1) := by decide +kernel
theorem d_Md_openBar_29 : decode c_Md_openBar 29 = .ok (.aload_n 0, 1) := by decide +kernel
theorem d_Md_openBar_30 : decode c_Md_openBar 30 = .ok (.getfield 93, 3) := by decide +kernel
theorem d_Md_openBar_33 : decode c_Md_openBar 33 = .ok (.aload_n 0, 1) := by decide +kernel
theorem d_Md_openBar_34 : decode c_Md_openBar 34 = .ok (.getfield 178, 3) := by decide +kernel
theorem d_Md_openBar_37 : decode c_Md_openBar 37 = .ok (.aload_n 0, 1) := by decide +kernel
theorem d_Md_openBar_38 : decode c_Md_openBar 38 = .ok (.getfield 84, 3) := by decide +kernel
theorem d_Md_openBar_41 : decode c_Md_openBar 41 = .ok (.aload_n 0, 1) := by decide +kernel
theorem d_Md_openBar_42 : decode c_Md_openBar 42 = .ok (.getfield 178, 3) := by decide +kernel
theorem d_Md_openBar_45 : decode c_Md_openBar 45 = .ok (.laload, 1) := by decide +kernel
theorem d_Md_openBar_46 : decode c_Md_openBar 46 = .ok (.lastore, 1) := by decide +kernel
theorem d_Md_openBar_47 : decode c_Md_openBar 47 = .ok (.aload_n 0, 1) := by decide +kernel
theorem d_Md_openBar_48 : decode c_Md_openBar 48 = .ok (.getfield 87, 3) := by decide +kernel
theorem d_Md_openBar_51 : decode c_Md_openBar 51 = .ok (.aload_n 0, 1) := by decide +kernel
theorem d_Md_openBar_52 : decode c_Md_openBar 52 = .ok (.getfield 178, 3) := by decide +kernel
theorem d_Md_openBar_55 : decode c_Md_openBar 55 = .ok (.iconst 0, 1) := by decide +kernel
theorem d_Md_openBar_56 : decode c_Md_openBar 56 = .ok (.iastore, 1) := by decide +kernel
theorem d_Md_openBar_57 : decode c_Md_openBar 57 = .ok (.aload_n 0, 1) := by decide +kernel
theorem d_Md_openBar_58 : decode c_Md_openBar 58 = .ok (.dup, 1) := by decide +kernel
theorem d_Md_openBar_59 : decode c_Md_openBar 59 = .ok (.getfield 178, 3) := by decide +kernel
theorem d_Md_openBar_62 : decode c_Md_openBar 62 = .ok (.iconst 1, 1) := by decide +kernel
theorem d_Md_openBar_63 : decode c_Md_openBar 63 = .ok (.iadd, 1) := by decide +kernel
theorem d_Md_openBar_64 : decode c_Md_openBar 64 = .ok (.putfield 178, 3) := by decide +kernel
theorem d_Md_openBar_67 : decode c_Md_openBar 67 = .ok (.aload_n 0, 1) := by decide +kernel
theorem d_Md_openBar_68 : decode c_Md_openBar 68 = .ok (.getfield 57, 3) := by decide +kernel
theorem d_Md_openBar_71 : decode c_Md_openBar 71 = .ok (.iload_n 2, 1) := by decide +kernel
theorem d_Md_openBar_72 : decode c_Md_openBar 72 = .ok (.dup2, 1) := by decide +kernel
theorem d_Md_openBar_73 : decode c_Md_openBar 73 = .ok (.iaload, 1) := by decide +kernel
theorem d_Md_openBar_74 : decode c_Md_openBar 74 = .ok (.iconst 1, 1) := by decide +kernel
theorem d_Md_openBar_75 : decode c_Md_openBar 75 = .ok (.isub, 1) := by decide +kernel
theorem d_Md_openBar_76 : decode c_Md_openBar 76 = .ok (.iastore, 1) := by decide +kernel
theorem d_Md_openBar_77 : decode c_Md_openBar 77 = .ok (.return_, 1) := by decide +kernel
theorem d_Md_put_0 : decode c_Md_put 0 = .ok (.aload_n 0, 1) := by decide +kernel
theorem d_Md_put_1 : decode c_Md_put 1 = .ok (.getfield 90, 3) := by decide +kernel
theorem d_Md_put_4 : decode c_Md_put 4 = .ok (.bipush 60, 2) := by decide +kernel
theorem d_Md_put_6 : decode c_Md_put 6 = .ok (.iload_n 1, 1) := by decide +kernel
theorem d_Md_put_7 : decode c_Md_put 7 = .ok (.imul, 1) := by decide +kernel
theorem d_Md_put_8 : decode c_Md_put 8 = .ok (.aload_n 0, 1) := by decide +kernel
theorem d_Md_put_9 : decode c_Md_put 9 = .ok (.getfield 87, 3) := by decide +kernel
theorem d_Md_put_12 : decode c_Md_put 12 = .ok (.iload_n 1, 1) := by decide +kernel
theorem d_Md_put_13 : decode c_Md_put 13 = .ok (.iaload, 1) := by decide +kernel
theorem d_Md_put_14 : decode c_Md_put 14 = .ok (.iadd, 1) := by decide +kernel
theorem d_Md_put_15 : decode c_Md_put 15 = .ok (.aload_n 0, 1) := by decide +kernel
theorem d_Md_put_16 : decode c_Md_put 16 = .ok (.getfield 60, 3) := by decide +kernel
theorem d_Md_put_19 : decode c_Md_put 19 = .ok (.iload_n 2, 1) := by decide +kernel
theorem d_Md_put_20 : decode c_Md_put 20 = .ok (.iaload, 1) := by decide +kernel
theorem d_Md_put_21 : decode c_Md_put 21 = .ok (.iastore, 1) := by decide +kernel
theorem d_Md_put_22 : decode c_Md_put 22 = .ok (.aload_n 0, 1) := by decide +kernel
theorem d_Md_put_23 : decode c_Md_put 23 = .ok (.getfield 87, 3) := by decide +kernel
theorem d_Md_put_26 : decode c_Md_put 26 = .ok (.iload_n 1, 1) := by decide +kernel
theorem d_Md_put_27 : decode c_Md_put 27 = .ok (.dup2, 1) := by decide +kernel
theorem d_Md_put_28 : decode c_Md_put 28 = .ok (.iaload, 1) := by decide +kernel
theorem d_Md_put_29 : decode c_Md_put 29 = .ok (.iconst 1, 1) := by decide +kernel
theorem d_Md_put_30 : decode c_Md_put 30 = .ok (.iadd, 1) := by decide +kernel
theorem d_Md_put_31 : decode c_Md_put 31 = .ok (.iastore, 1) := by decide +kernel
theorem d_Md_put_32 : decode c_Md_put 32 = .ok (.aload_n 0, 1) := by decide +kernel
theorem d_Md_put_33 : decode c_Md_put 33 = .ok (.getfield 93, 3) := by decide +kernel
theorem d_Md_put_36 : decode c_Md_put 36 = .ok (.iload_n 1, 1) := by decide +kernel
theorem d_Md_put_37 : decode c_Md_put 37 = .ok (.dup2, 1) := by decide +kernel
theorem d_Md_put_38 : decode c_Md_put 38 = .ok (.laload, 1) := by decide +kernel
theorem d_Md_put_39 : decode c_Md_put 39 = .ok (.aload_n 0, 1) := by decide +kernel
theorem d_Md_put_40 : decode c_Md_put 40 = .ok (.getfield 63, 3) := by decide +kernel
theorem d_Md_put_43 : decode c_Md_put 43 = .ok (.iload_n 2, 1) := by decide +kernel
theorem d_Md_put_44 : decode c_Md_put 44 = .ok (.laload, 1) := by decide +kernel
theorem d_Md_put_45 : decode c_Md_put 45 = .ok (.lsub, 1) := by decide +kernel
theorem d_Md_put_46 : decode c_Md_put 46 = .ok (.lastore, 1) := by decide +kernel
theorem d_Md_put_47 : decode c_Md_put 47 = .ok (.return_, 1) := by decide +kernel
theorem d_Md_kindFor_0 : decode c_Md_kindFor 0 = .ok (.bipush (-2), 2) := by decide +kernel
theorem d_Md_kindFor_2 : decode c_Md_kindFor 2 = .ok (.istore 4, 2) := by decide +kernel
theorem d_Md_kindFor_4 : decode c_Md_kindFor 4 = .ok (.iconst 0, 1) := by decide +kernel
theorem d_Md_kindFor_5 : decode c_Md_kindFor 5 = .ok (.istore 5, 2) := by decide +kernel
theorem d_Md_kindFor_7 : decode c_Md_kindFor 7 = .ok (.iload 5, 2) := by decide +kernel
theorem d_Md_kindFor_9 : decode c_Md_kindFor 9 = .ok (.aload_n 0, 1) := by decide +kernel
theorem d_Md_kindFor_10 : decode c_Md_kindFor 10 = .ok (.getfield 48, 3) := by decide +kernel
theorem d_Md_kindFor_13 : decode c_Md_kindFor 13 = .ok (.iload_n 1, 1) := by decide +kernel
theorem d_Md_kindFor_14 : decode c_Md_kindFor 14 = .ok (.iaload, 1) := by decide +kernel
theorem d_Md_kindFor_15 : decode c_Md_kindFor 15 = .ok (.if_icmp .ge 67, 3) := by decide +kernel
theorem d_Md_kindFor_18 : decode c_Md_kindFor 18 = .ok (.aload_n 0, 1) := by decide +kernel
theorem d_Md_kindFor_19 : decode c_Md_kindFor 19 = .ok (.getfield 51, 3) := by decide +kernel
theorem d_Md_kindFor_22 : decode c_Md_kindFor 22 = .ok (.iconst 3, 1) := by decide +kernel
theorem d_Md_kindFor_23 : decode c_Md_kindFor 23 = .ok (.iload_n 1, 1) := by decide +kernel
theorem d_Md_kindFor_24 : decode c_Md_kindFor 24 = .ok (.imul, 1) := by decide +kernel
theorem d_Md_kindFor_25 : decode c_Md_kindFor 25 = .ok (.iload 5, 2) := by decide +kernel
theorem d_Md_kindFor_27 : decode c_Md_kindFor 27 = .ok (.iadd, 1) := by decide +kernel
theorem d_Md_kindFor_28 : decode c_Md_kindFor 28 = .ok (.laload, 1) := by decide +kernel
theorem d_Md_kindFor_29 : decode c_Md_kindFor 29 = .ok (.lstore 6, 2) := by decide +kernel
theorem d_Md_kindFor_31 : decode c_Md_kindFor 31 = .ok (.aload_n 0, 1) := by decide +kernel
theorem d_Md_kindFor_32 : decode c_Md_kindFor 32 = .ok (.getfield 57, 3) := by decide +kernel
theorem d_Md_kindFor_35 : decode c_Md_kindFor 35 = .ok (.iload 5, 2) := by decide +kernel
theorem d_Md_kindFor_37 : decode c_Md_kindFor 37 = .ok (.iaload, 1) := by decide +kernel
theorem d_Md_kindFor_38 : decode c_Md_kindFor 38 = .ok (.ifCond .le 38, 3) := by decide +kernel
theorem d_Md_kindFor_41 : decode c_Md_kindFor 41 = .ok (.lload 6, 2) := by decide +kernel
theorem d_Md_kindFor_43 : decode c_Md_kindFor 43 = .ok (.lload_n 2, 1) := by decide +kernel
theorem d_Md_kindFor_44 : decode c_Md_kindFor 44 = .ok (.lcmp, 1) := by decide +kernel
theorem d_Md_kindFor_45 : decode c_Md_kindFor 45 = .ok (.ifCond .lt 31, 3) := by decide +kernel
theorem d_Md_kindFor_48 : decode c_Md_kindFor 48 = .ok (.iload 4, 2) := by decide +kernel
theorem d_Md_kindFor_50 : decode c_Md_kindFor 50 = .ok (.bipush (-2), 2) := by decide +kernel
theorem d_Md_kindFor_52 : decode c_Md_kindFor 52 = .ok (.if_icmp .eq 20, 3) := by decide +kernel
theorem d_Md_kindFor_55 : decode c_Md_kindFor 55 = .ok (.lload 6, 2) := by decide +kernel
theorem d_Md_kindFor_57 : decode c_Md_kindFor 57 = .ok (.aload_n 0, 1) := by decide +kernel
theorem d_Md_kindFor_58 : decode c_Md_kindFor 58 = .ok (.getfield 51, 3) := by decide +kernel
theorem d_Md_kindFor_61 : decode c_Md_kindFor 61 = .ok (.iconst 3, 1) := by decide +kernel
theorem d_Md_kindFor_62 : decode c_Md_kindFor 62 = .ok (.iload_n 1, 1) := by decide +kernel
theorem d_Md_kindFor_63 : decode c_Md_kindFor 63 = .ok (.imul, 1) := by decide +kernel
theorem d_Md_kindFor_64 : decode c_Md_kindFor 64 = .ok (.iload 4, 2) := by decide +kernel
theorem d_Md_kindFor_66 : decode c_Md_kindFor 66 = .ok (.iadd, 1) := by decide +kernel
theorem d_Md_kindFor_67 : decode c_Md_kindFor 67 = .ok (.laload, 1) := by decide +kernel
theorem d_Md_kindFor_68 : decode c_Md_kindFor 68 = .ok (.lcmp, 1) := by decide +kernel
theorem d_Md_kindFor_69 : decode c_Md_kindFor 69 = .ok (.ifCond .ge 7, 3) := by decide +kernel
theorem d_Md_kindFor_72 : decode c_Md_kindFor 72 = .ok (.iload 5, 2) := by decide +kernel
theorem d_Md_kindFor_74 : decode c_Md_kindFor 74 = .ok (.istore 4, 2) := by decide +kernel
theorem d_Md_kindFor_76 : decode c_Md_kindFor 76 = .ok (.iinc 5 1, 3) := by decide +kernel
theorem d_Md_kindFor_79 : decode c_Md_kindFor 79 = .ok (.goto (-72), 3) := by decide +kernel
theorem d_Md_kindFor_82 : decode c_Md_kindFor 82 = .ok (.iload 4, 2) := by decide +kernel
theorem d_Md_kindFor_84 : decode c_Md_kindFor 84 = .ok (.ireturn, 1) := by decide +kernel
theorem d_Md_cutInTurn_0 : decode c_Md_cutInTurn 0 = .ok (.aload_n 0, 1) := by decide +kernel
theorem d_Md_cutInTurn_1 : decode c_Md_cutInTurn 1 = .ok (.getfield 178, 3) := by decide +kernel
theorem d_Md_cutInTurn_4 : decode c_Md_cutInTurn 4 = .ok (.istore_n 2, 1) := by decide +kernel
theorem d_Md_cutInTurn_5 : decode c_Md_cutInTurn 5 = .ok (.iconst 0, 1) := by decide +kernel
theorem d_Md_cutInTurn_6 : decode c_Md_cutInTurn 6 = .ok (.istore_n 3, 1) := by decide +kernel
theorem d_Md_cutInTurn_7 : decode c_Md_cutInTurn 7 = .ok (.iload_n 3, 1) := by decide +kernel
theorem d_Md_cutInTurn_8 : decode c_Md_cutInTurn 8 = .ok (.aload_n 0, 1) := by decide +kernel
theorem d_Md_cutInTurn_9 : decode c_Md_cutInTurn 9 = .ok (.getfield 175, 3) := by decide +kernel
theorem d_Md_cutInTurn_12 : decode c_Md_cutInTurn 12 = .ok (.if_icmp .ge 89, 3) := by decide +kernel
theorem d_Md_cutInTurn_15 : decode c_Md_cutInTurn 15 = .ok (.iload_n 2, 1) := by decide +kernel
theorem d_Md_cutInTurn_16 : decode c_Md_cutInTurn 16 = .ok (.istore 4, 2) := by decide +kernel
theorem d_Md_cutInTurn_18 : decode c_Md_cutInTurn 18 = .ok (.iload 4, 2) := by decide +kernel
theorem d_Md_cutInTurn_20 : decode c_Md_cutInTurn 20 = .ok (.aload_n 0, 1) := by decide +kernel
theorem d_Md_cutInTurn_21 : decode c_Md_cutInTurn 21 = .ok (.getfield 178, 3) := by decide +kernel
theorem d_Md_cutInTurn_24 : decode c_Md_cutInTurn 24 = .ok (.if_icmp .ge 26, 3) := by decide +kernel
theorem d_Md_cutInTurn_27 : decode c_Md_cutInTurn 27 = .ok (.aload_n 0, 1) := by decide +kernel
theorem d_Md_cutInTurn_28 : decode c_Md_cutInTurn 28 = .ok (.getfield 93, 3) := by decide +kernel
theorem d_Md_cutInTurn_31 : decode c_Md_cutInTurn 31 = .ok (.iload 4, 2) := by decide +kernel
theorem d_Md_cutInTurn_33 : decode c_Md_cutInTurn 33 = .ok (.laload, 1) := by decide +kernel
theorem d_Md_cutInTurn_34 : decode c_Md_cutInTurn 34 = .ok (.aload_n 0, 1) := by decide +kernel
theorem d_Md_cutInTurn_35 : decode c_Md_cutInTurn 35 = .ok (.getfield 63, 3) := by decide +kernel
theorem d_Md_cutInTurn_38 : decode c_Md_cutInTurn 38 = .ok (.iload_n 3, 1) := by decide +kernel
theorem d_Md_cutInTurn_39 : decode c_Md_cutInTurn 39 = .ok (.laload, 1) := by decide +kernel
theorem d_Md_cutInTurn_40 : decode c_Md_cutInTurn 40 = .ok (.lcmp, 1) := by decide +kernel
theorem d_Md_cutInTurn_41 : decode c_Md_cutInTurn 41 = .ok (.ifCond .ge 9, 3) := by decide +kernel
theorem d_Md_cutInTurn_44 : decode c_Md_cutInTurn 44 = .ok (.iinc 4 1, 3) := by decide +kernel
theorem d_Md_cutInTurn_47 : decode c_Md_cutInTurn 47 = .ok (.goto (-29), 3) := by decide +kernel
theorem d_Md_cutInTurn_50 : decode c_Md_cutInTurn 50 = .ok (.iload 4, 2) := by decide +kernel
theorem d_Md_cutInTurn_52 : decode c_Md_cutInTurn 52 = .ok (.aload_n 0, 1) := by decide +kernel
theorem d_Md_cutInTurn_53 : decode c_Md_cutInTurn 53 = .ok (.getfield 178, 3) := by decide +kernel
theorem d_Md_cutInTurn_56 : decode c_Md_cutInTurn 56 = .ok (.if_icmp .ne 32, 3) := by decide +kernel
theorem d_Md_cutInTurn_59 : decode c_Md_cutInTurn 59 = .ok (.aload_n 0, 1) := by decide +kernel
theorem d_Md_cutInTurn_60 : decode c_Md_cutInTurn 60 = .ok (.iload_n 1, 1) := by decide +kernel
theorem d_Md_cutInTurn_61 : decode c_Md_cutInTurn 61 = .ok (.aload_n 0, 1) := by decide +kernel
theorem d_Md_cutInTurn_62 : decode c_Md_cutInTurn 62 = .ok (.getfield 63, 3) := by decide +kernel
theorem d_Md_cutInTurn_65 : decode c_Md_cutInTurn 65 = .ok (.iload_n 3, 1) := by decide +kernel
theorem d_Md_cutInTurn_66 : decode c_Md_cutInTurn 66 = .ok (.laload, 1) := by decide +kernel
theorem d_Md_cutInTurn_67 : decode c_Md_cutInTurn 67 = .ok (.invokevirtual 181, 3) := by decide +kernel
theorem d_Md_cutInTurn_70 : decode c_Md_cutInTurn 70 = .ok (.istore 5, 2) := by decide +kernel
theorem d_Md_cutInTurn_72 : decode c_Md_cutInTurn 72 = .ok (.iload 5, 2) := by decide +kernel
theorem d_Md_cutInTurn_74 : decode c_Md_cutInTurn 74 = .ok (.bipush (-2), 2) := by decide +kernel
theorem d_Md_cutInTurn_76 : decode c_Md_cutInTurn 76 = .ok (.if_icmp .ne 5, 3) := by decide +kernel
theorem d_Md_cutInTurn_79 : decode c_Md_cutInTurn 79 = .ok (.iconst 0, 1) := by decide +kernel
theorem d_Md_cutInTurn_80 : decode c_Md_cutInTurn 80 = .ok (.ireturn, 1) := by decide +kernel
theorem d_Md_cutInTurn_81 : decode c_Md_cutInTurn 81 = .ok (.aload_n 0, 1) := by decide +kernel
theorem d_Md_cutInTurn_82 : decode c_Md_cutInTurn 82 = .ok (.iload_n 1, 1) := by decide +kernel
theorem d_Md_cutInTurn_83 : decode c_Md_cutInTurn 83 = .ok (.iload 5, 2) := by decide +kernel
theorem d_Md_cutInTurn_85 : decode c_Md_cutInTurn 85 = .ok (.invokevirtual 185, 3) := by decide +kernel
theorem d_Md_cutInTurn_88 : decode c_Md_cutInTurn 88 = .ok (.aload_n 0, 1) := by decide +kernel
theorem d_Md_cutInTurn_89 : decode c_Md_cutInTurn 89 = .ok (.iload 4, 2) := by decide +kernel
theorem d_Md_cutInTurn_91 : decode c_Md_cutInTurn 91 = .ok (.iload_n 3, 1) := by decide +kernel
theorem d_Md_cutInTurn_92 : decode c_Md_cutInTurn 92 = .ok (.invokevirtual 189, 3) := by decide +kernel
theorem d_Md_cutInTurn_95 : decode c_Md_cutInTurn 95 = .ok (.iinc 3 1, 3) := by decide +kernel
theorem d_Md_cutInTurn_98 : decode c_Md_cutInTurn 98 = .ok (.goto (-91), 3) := by decide +kernel
theorem d_Md_cutInTurn_101 : decode c_Md_cutInTurn 101 = .ok (.iconst 1, 1) := by decide +kernel
theorem d_Md_cutInTurn_102 : decode c_Md_cutInTurn 102 = .ok (.ireturn, 1) := by decide +kernel
theorem d_Md_lengthOfSet_0 : decode c_Md_lengthOfSet 0 = .ok (.lconst 0, 1) := by decide +kernel
theorem d_Md_lengthOfSet_1 : decode c_Md_lengthOfSet 1 = .ok (.lstore_n 2, 1) := by decide +kernel
theorem d_Md_lengthOfSet_2 : decode c_Md_lengthOfSet 2 = .ok (.iconst 0, 1) := by decide +kernel
theorem d_Md_lengthOfSet_3 : decode c_Md_lengthOfSet 3 = .ok (.istore 4, 2) := by decide +kernel
theorem d_Md_lengthOfSet_5 : decode c_Md_lengthOfSet 5 = .ok (.iload 4, 2) := by decide +kernel
theorem d_Md_lengthOfSet_7 : decode c_Md_lengthOfSet 7 = .ok (.aload_n 0, 1) := by decide +kernel
theorem d_Md_lengthOfSet_8 : decode c_Md_lengthOfSet 8 = .ok (.getfield 175, 3) := by decide +kernel
theorem d_Md_lengthOfSet_11 : decode c_Md_lengthOfSet 11 = .ok (.if_icmp .ge 40, 3) := by decide +kernel
theorem d_Md_lengthOfSet_14 : decode c_Md_lengthOfSet 14 = .ok (.lload_n 2, 1) := by decide +kernel
theorem d_Md_lengthOfSet_15 : decode c_Md_lengthOfSet 15 = .ok (.iload_n 1, 1) := by decide +kernel
theorem d_Md_lengthOfSet_16 : decode c_Md_lengthOfSet 16 = .ok (.aload_n 0, 1) := by decide +kernel
theorem d_Md_lengthOfSet_17 : decode c_Md_lengthOfSet 17 = .ok (.getfield 175, 3) := by decide +kernel
theorem d_Md_lengthOfSet_20 : decode c_Md_lengthOfSet 20 = .ok (.iconst 1, 1) := by decide +kernel
theorem d_Md_lengthOfSet_21 : decode c_Md_lengthOfSet 21 = .ok (.isub, 1) := by decide +kernel
theorem d_Md_lengthOfSet_22 : decode c_Md_lengthOfSet 22 = .ok (.iload 4, 2) := by decide +kernel
theorem d_Md_lengthOfSet_24 : decode c_Md_lengthOfSet 24 = .ok (.isub, 1) := by decide +kernel
theorem d_Md_lengthOfSet_25 : decode c_Md_lengthOfSet 25 = .ok (.ishr, 1) := by decide +kernel
theorem d_Md_lengthOfSet_26 : decode c_Md_lengthOfSet 26 = .ok (.iconst 1, 1) := by decide +kernel
theorem d_Md_lengthOfSet_27 : decode c_Md_lengthOfSet 27 = .ok (.iand, 1) := by decide +kernel
theorem d_Md_lengthOfSet_28 : decode c_Md_lengthOfSet 28 = .ok (.iconst 1, 1) := by decide +kernel
theorem d_Md_lengthOfSet_29 : decode c_Md_lengthOfSet 29 = .ok (.if_icmp .ne 13, 3) := by decide +kernel
theorem d_Md_lengthOfSet_32 : decode c_Md_lengthOfSet 32 = .ok (.aload_n 0, 1) := by decide +kernel
theorem d_Md_lengthOfSet_33 : decode c_Md_lengthOfSet 33 = .ok (.getfield 63, 3) := by decide +kernel
theorem d_Md_lengthOfSet_36 : decode c_Md_lengthOfSet 36 = .ok (.iload 4, 2) := by decide +kernel
theorem d_Md_lengthOfSet_38 : decode c_Md_lengthOfSet 38 = .ok (.laload, 1) := by decide +kernel
theorem d_Md_lengthOfSet_39 : decode c_Md_lengthOfSet 39 = .ok (.goto 4, 3) := by decide +kernel
theorem d_Md_lengthOfSet_42 : decode c_Md_lengthOfSet 42 = .ok (.lconst 0, 1) := by decide +kernel
theorem d_Md_lengthOfSet_43 : decode c_Md_lengthOfSet 43 = .ok (.ladd, 1) := by decide +kernel
theorem d_Md_lengthOfSet_44 : decode c_Md_lengthOfSet 44 = .ok (.lstore_n 2, 1) := by decide +kernel
theorem d_Md_lengthOfSet_45 : decode c_Md_lengthOfSet 45 = .ok (.iinc 4 1, 3) := by decide +kernel
theorem d_Md_lengthOfSet_48 : decode c_Md_lengthOfSet 48 = .ok (.goto (-43), 3) := by decide +kernel
theorem d_Md_lengthOfSet_51 : decode c_Md_lengthOfSet 51 = .ok (.lload_n 2, 1) := by decide +kernel
theorem d_Md_lengthOfSet_52 : decode c_Md_lengthOfSet 52 = .ok (.lreturn, 1) := by decide +kernel
theorem d_Md_firstOf_0 : decode c_Md_firstOf 0 = .ok (.iconst 1, 1) := by decide +kernel
theorem d_Md_firstOf_1 : decode c_Md_firstOf 1 = .ok (.aload_n 0, 1) := by decide +kernel
theorem d_Md_firstOf_2 : decode c_Md_firstOf 2 = .ok (.getfield 175, 3) := by decide +kernel
theorem d_Md_firstOf_5 : decode c_Md_firstOf 5 = .ok (.ishl, 1) := by decide +kernel
theorem d_Md_firstOf_6 : decode c_Md_firstOf 6 = .ok (.istore_n 2, 1) := by decide +kernel
theorem d_Md_firstOf_7 : decode c_Md_firstOf 7 = .ok (.iload_n 1, 1) := by decide +kernel
theorem d_Md_firstOf_8 : decode c_Md_firstOf 8 = .ok (.iload_n 2, 1) := by decide +kernel
theorem d_Md_firstOf_9 : decode c_Md_firstOf 9 = .ok (.iand, 1) := by decide +kernel
theorem d_Md_firstOf_10 : decode c_Md_firstOf 10 = .ok (.ifCond .ne 10, 3) := by decide +kernel
theorem d_Md_firstOf_13 : decode c_Md_firstOf 13 = .ok (.iload_n 2, 1) := by decide +kernel
theorem d_Md_firstOf_14 : decode c_Md_firstOf 14 = .ok (.iconst 1, 1) := by decide +kernel
theorem d_Md_firstOf_15 : decode c_Md_firstOf 15 = .ok (.ishr, 1) := by decide +kernel
theorem d_Md_firstOf_16 : decode c_Md_firstOf 16 = .ok (.istore_n 2, 1) := by decide +kernel
theorem d_Md_firstOf_17 : decode c_Md_firstOf 17 = .ok (.goto (-10), 3) := by decide +kernel
theorem d_Md_firstOf_20 : decode c_Md_firstOf 20 = .ok (.iload_n 2, 1) := by decide +kernel
theorem d_Md_firstOf_21 : decode c_Md_firstOf 21 = .ok (.ireturn, 1) := by decide +kernel
theorem d_Md_cutBest_0 : decode c_Md_cutBest 0 = .ok (.iconst 0, 1) := by decide +kernel
theorem d_Md_cutBest_1 : decode c_Md_cutBest 1 = .ok (.istore_n 2, 1) := by decide +kernel
theorem d_Md_cutBest_2 : decode c_Md_cutBest 2 = .ok (.ldc2_w 170, 3) := by decide +kernel
theorem d_Md_cutBest_5 : decode c_Md_cutBest 5 = .ok (.lstore_n 3, 1) := by decide +kernel
theorem d_Md_cutBest_6 : decode c_Md_cutBest 6 = .ok (.iconst 0, 1) := by decide +kernel
theorem d_Md_cutBest_7 : decode c_Md_cutBest 7 = .ok (.istore 5, 2) := by decide +kernel
theorem d_Md_cutBest_9 : decode c_Md_cutBest 9 = .ok (.lconst 0, 1) := by decide +kernel
theorem d_Md_cutBest_10 : decode c_Md_cutBest 10 = .ok (.lstore 6, 2) := by decide +kernel
theorem d_Md_cutBest_12 : decode c_Md_cutBest 12 = .ok (.aload_n 0, 1) := by decide +kernel
theorem d_Md_cutBest_13 : decode c_Md_cutBest 13 = .ok (.getfield 66, 3) := by decide +kernel
theorem d_Md_cutBest_16 : decode c_Md_cutBest 16 = .ok (.iconst 0, 1) := by decide +kernel
theorem d_Md_cutBest_17 : decode c_Md_cutBest 17 = .ok (.iconst 1, 1) := by decide +kernel
theorem d_Md_cutBest_18 : decode c_Md_cutBest 18 = .ok (.aload_n 0, 1) := by decide +kernel
theorem d_Md_cutBest_19 : decode c_Md_cutBest 19 = .ok (.getfield 175, 3) := by decide +kernel
theorem d_Md_cutBest_22 : decode c_Md_cutBest 22 = .ok (.ishl, 1) := by decide +kernel
theorem d_Md_cutBest_23 : decode c_Md_cutBest 23 = .ok (.iconst 1, 1) := by decide +kernel
theorem d_Md_cutBest_24 : decode c_Md_cutBest 24 = .ok (.isub, 1) := by decide +kernel
theorem d_Md_cutBest_25 : decode c_Md_cutBest 25 = .ok (.iastore, 1) := by decide +kernel
theorem d_Md_cutBest_26 : decode c_Md_cutBest 26 = .ok (.aload_n 0, 1) := by decide +kernel
theorem d_Md_cutBest_27 : decode c_Md_cutBest 27 = .ok (.getfield 69, 3) := by decide +kernel
theorem d_Md_cutBest_30 : decode c_Md_cutBest 30 = .ok (.iconst 0, 1) := by decide +kernel
theorem d_Md_cutBest_31 : decode c_Md_cutBest 31 = .ok (.iconst 0, 1) := by decide +kernel
theorem d_Md_cutBest_32 : decode c_Md_cutBest 32 = .ok (.iastore, 1) := by decide +kernel
theorem d_Md_cutBest_33 : decode c_Md_cutBest 33 = .ok (.aload_n 0, 1) := by decide +kernel
theorem d_Md_cutBest_34 : decode c_Md_cutBest 34 = .ok (.getfield 72, 3) := by decide +kernel
theorem d_Md_cutBest_37 : decode c_Md_cutBest 37 = .ok (.iconst 0, 1) := by decide +kernel
theorem d_Md_cutBest_38 : decode c_Md_cutBest 38 = .ok (.aload_n 0, 1) := by decide +kernel
theorem d_Md_cutBest_39 : decode c_Md_cutBest 39 = .ok (.getfield 66, 3) := by decide +kernel
theorem d_Md_cutBest_42 : decode c_Md_cutBest 42 = .ok (.iconst 0, 1) := by decide +kernel
theorem d_Md_cutBest_43 : decode c_Md_cutBest 43 = .ok (.iaload, 1) := by decide +kernel
theorem d_Md_cutBest_44 : decode c_Md_cutBest 44 = .ok (.iconst 1, 1) := by decide +kernel
theorem d_Md_cutBest_45 : decode c_Md_cutBest 45 = .ok (.iadd, 1) := by decide +kernel
theorem d_Md_cutBest_46 : decode c_Md_cutBest 46 = .ok (.iastore, 1) := by decide +kernel
theorem d_Md_cutBest_47 : decode c_Md_cutBest 47 = .ok (.iload 5, 2) := by decide +kernel
theorem d_Md_cutBest_49 : decode c_Md_cutBest 49 = .ok (.ifCond .lt 379, 3) := by decide +kernel
theorem d_Md_cutBest_52 : decode c_Md_cutBest 52 = .ok (.aload_n 0, 1) := by decide +kernel
theorem d_Md_cutBest_53 : decode c_Md_cutBest 53 = .ok (.getfield 69, 3) := by decide +kernel
theorem d_Md_cutBest_56 : decode c_Md_cutBest 56 = .ok (.iload 5, 2) := by decide +kernel
theorem d_Md_cutBest_58 : decode c_Md_cutBest 58 = .ok (.iaload, 1) := by decide +kernel
theorem d_Md_cutBest_59 : decode c_Md_cutBest 59 = .ok (.istore 8, 2) := by decide +kernel
theorem d_Md_cutBest_61 : decode c_Md_cutBest 61 = .ok (.iload 8, 2) := by decide +kernel
theorem d_Md_cutBest_63 : decode c_Md_cutBest 63 = .ok (.aload_n 0, 1) := by decide +kernel
theorem d_Md_cutBest_64 : decode c_Md_cutBest 64 = .ok (.getfield 48, 3) := by decide +kernel
theorem d_Md_cutBest_67 : decode c_Md_cutBest 67 = .ok (.iload_n 1, 1) := by decide +kernel
theorem d_Md_cutBest_68 : decode c_Md_cutBest 68 = .ok (.iaload, 1) := by decide +kernel
theorem d_Md_cutBest_69 : decode c_Md_cutBest 69 = .ok (.if_icmp .ne 51, 3) := by decide +kernel
theorem d_Md_cutBest_72 : decode c_Md_cutBest 72 = .ok (.iinc 5 (-1), 3) := by decide +kernel
theorem d_Md_cutBest_75 : decode c_Md_cutBest 75 = .ok (.iload 5, 2) := by decide +kernel
theorem d_Md_cutBest_77 : decode c_Md_cutBest 77 = .ok (.ifCond .lt (-30), 3) := by decide +kernel
theorem d_Md_cutBest_80 : decode c_Md_cutBest 80 = .ok (.aload_n 0, 1) := by decide +kernel
theorem d_Md_cutBest_81 : decode c_Md_cutBest 81 = .ok (.getfield 57, 3) := by decide +kernel
theorem d_Md_cutBest_84 : decode c_Md_cutBest 84 = .ok (.aload_n 0, 1) := by decide +kernel
theorem d_Md_cutBest_85 : decode c_Md_cutBest 85 = .ok (.getfield 69, 3) := by decide +kernel
theorem d_Md_cutBest_88 : decode c_Md_cutBest 88 = .ok (.iload 5, 2) := by decide +kernel
theorem d_Md_cutBest_90 : decode c_Md_cutBest 90 = .ok (.iaload, 1) := by decide +kernel
theorem d_Md_cutBest_91 : decode c_Md_cutBest 91 = .ok (.dup2, 1) := by decide +kernel
theorem d_Md_cutBest_92 : decode c_Md_cutBest 92 = .ok (.iaload, 1) := by decide +kernel
theorem d_Md_cutBest_93 : decode c_Md_cutBest 93 = .ok (.iconst 1, 1) := by decide +kernel
theorem d_Md_cutBest_94 : decode c_Md_cutBest 94 = .ok (.iadd, 1) := by decide +kernel
theorem d_Md_cutBest_95 : decode c_Md_cutBest 95 = .ok (.iastore, 1) := by decide +kernel
theorem d_Md_cutBest_96 : decode c_Md_cutBest 96 = .ok (.lload 6, 2) := by decide +kernel
theorem d_Md_cutBest_98 : decode c_Md_cutBest 98 = .ok (.aload_n 0, 1) := by decide +kernel
theorem d_Md_cutBest_99 : decode c_Md_cutBest 99 = .ok (.getfield 51, 3) := by decide +kernel
theorem d_Md_cutBest_102 : decode c_Md_cutBest 102 = .ok (.iconst 3, 1) := by decide +kernel
theorem d_Md_cutBest_103 : decode c_Md_cutBest 103 = .ok (.iload_n 1, 1) := by decide +kernel
theorem d_Md_cutBest_104 : decode c_Md_cutBest 104 = .ok (.imul, 1) := by decide +kernel
theorem d_Md_cutBest_105 : decode c_Md_cutBest 105 = .ok (.aload_n 0, 1) := by decide +kernel
theorem d_Md_cutBest_106 : decode c_Md_cutBest 106 = .ok (.getfield 69, 3) := by decide +kernel
theorem d_Md_cutBest_109 : decode c_Md_cutBest 109 = .ok (.iload 5, 2) := by decide +kernel
theorem d_Md_cutBest_111 : decode c_Md_cutBest 111 = .ok (.iaload, 1) := by decide +kernel
theorem d_Md_cutBest_112 : decode c_Md_cutBest 112 = .ok (.iadd, 1) := by decide +kernel
theorem d_Md_cutBest_113 : decode c_Md_cutBest 113 = .ok (.laload, 1) := by decide +kernel
theorem d_Md_cutBest_114 : decode c_Md_cutBest 114 = .ok (.lsub, 1) := by decide +kernel
theorem d_Md_cutBest_115 : decode c_Md_cutBest 115 = .ok (.lstore 6, 2) := by decide +kernel
theorem d_Md_cutBest_117 : decode c_Md_cutBest 117 = .ok (.goto (-70), 3) := by decide +kernel
theorem d_Md_cutBest_120 : decode c_Md_cutBest 120 = .ok (.aload_n 0, 1) := by decide +kernel
theorem d_Md_cutBest_121 : decode c_Md_cutBest 121 = .ok (.getfield 66, 3) := by decide +kernel
theorem d_Md_cutBest_124 : decode c_Md_cutBest 124 = .ok (.iload 5, 2) := by decide +kernel
theorem d_Md_cutBest_126 : decode c_Md_cutBest 126 = .ok (.iaload, 1) := by decide +kernel
theorem d_Md_cutBest_127 : decode c_Md_cutBest 127 = .ok (.istore 9, 2) := by decide +kernel
theorem d_Md_cutBest_129 : decode c_Md_cutBest 129 = .ok (.aload_n 0, 1) := by decide +kernel
theorem d_Md_cutBest_130 : decode c_Md_cutBest 130 = .ok (.iload 9, 2) := by decide +kernel
theorem d_Md_cutBest_132 : decode c_Md_cutBest 132 = .ok (.invokevirtual 192, 3) := by decide +kernel
theorem d_Md_cutBest_135 : decode c_Md_cutBest 135 = .ok (.istore 10, 2) := by decide +kernel
theorem d_Md_cutBest_137 : decode c_Md_cutBest 137 = .ok (.aload_n 0, 1) := by decide +kernel
theorem d_Md_cutBest_138 : decode c_Md_cutBest 138 = .ok (.getfield 72, 3) := by decide +kernel
theorem d_Md_cutBest_141 : decode c_Md_cutBest 141 = .ok (.iload 5, 2) := by decide +kernel
theorem d_Md_cutBest_143 : decode c_Md_cutBest 143 = .ok (.iaload, 1) := by decide +kernel
theorem d_Md_cutBest_144 : decode c_Md_cutBest 144 = .ok (.iload 9, 2) := by decide +kernel
theorem d_Md_cutBest_146 : decode c_Md_cutBest 146 = .ok (.if_icmp .le 8, 3) := by decide +kernel
theorem d_Md_cutBest_149 : decode c_Md_cutBest 149 = .ok (.iload 9, 2) := by decide +kernel
theorem d_Md_cutBest_151 : decode c_Md_cutBest 151 = .ok (.goto 15, 3) := by decide +kernel
theorem d_Md_cutBest_154 : decode c_Md_cutBest 154 = .ok (.aload_n 0, 1) := by decide +kernel
theorem d_Md_cutBest_155 : decode c_Md_cutBest 155 = .ok (.getfield 72, 3) := by decide +kernel
theorem d_Md_cutBest_158 : decode c_Md_cutBest 158 = .ok (.iload 5, 2) := by decide +kernel
theorem d_Md_cutBest_160 : decode c_Md_cutBest 160 = .ok (.iaload, 1) := by decide +kernel
theorem d_Md_cutBest_161 : decode c_Md_cutBest 161 = .ok (.iconst 1, 1) := by decide +kernel
theorem d_Md_cutBest_162 : decode c_Md_cutBest 162 = .ok (.isub, 1) := by decide +kernel
theorem d_Md_cutBest_163 : decode c_Md_cutBest 163 = .ok (.iload 9, 2) := by decide +kernel
theorem d_Md_cutBest_165 : decode c_Md_cutBest 165 = .ok (.iand, 1) := by decide +kernel
theorem d_Md_cutBest_166 : decode c_Md_cutBest 166 = .ok (.istore 11, 2) := by decide +kernel
theorem d_Md_cutBest_168 : decode c_Md_cutBest 168 = .ok (.iload 11, 2) := by decide +kernel
theorem d_Md_cutBest_170 : decode c_Md_cutBest 170 = .ok (.iload 10, 2) := by decide +kernel
theorem d_Md_cutBest_172 : decode c_Md_cutBest 172 = .ok (.iand, 1) := by decide +kernel
theorem d_Md_cutBest_173 : decode c_Md_cutBest 173 = .ok (.ifCond .ne 28, 3) := by decide +kernel
theorem d_Md_cutBest_176 : decode c_Md_cutBest 176 = .ok (.aload_n 0, 1) := by decide +kernel
theorem d_Md_cutBest_177 : decode c_Md_cutBest 177 = .ok (.getfield 69, 3) := by decide +kernel
theorem d_Md_cutBest_180 : decode c_Md_cutBest 180 = .ok (.iload 5, 2) := by decide +kernel
theorem d_Md_cutBest_182 : decode c_Md_cutBest 182 = .ok (.dup2, 1) := by decide +kernel
theorem d_Md_cutBest_183 : decode c_Md_cutBest 183 = .ok (.iaload, 1) := by decide +kernel
theorem d_Md_cutBest_184 : decode c_Md_cutBest 184 = .ok (.iconst 1, 1) := by decide +kernel
theorem d_Md_cutBest_185 : decode c_Md_cutBest 185 = .ok (.iadd, 1) := by decide +kernel
theorem d_Md_cutBest_186 : decode c_Md_cutBest 186 = .ok (.iastore, 1) := by decide +kernel
theorem d_Md_cutBest_187 : decode c_Md_cutBest 187 = .ok (.aload_n 0, 1) := by decide +kernel
theorem d_Md_cutBest_188 : decode c_Md_cutBest 188 = .ok (.getfield 72, 3) := by decide +kernel
theorem d_Md_cutBest_191 : decode c_Md_cutBest 191 = .ok (.iload 5, 2) := by decide +kernel
theorem d_Md_cutBest_193 : decode c_Md_cutBest 193 = .ok (.iload 9, 2) := by decide +kernel
theorem d_Md_cutBest_195 : decode c_Md_cutBest 195 = .ok (.iconst 1, 1) := by decide +kernel
theorem d_Md_cutBest_196 : decode c_Md_cutBest 196 = .ok (.iadd, 1) := by decide +kernel
theorem d_Md_cutBest_197 : decode c_Md_cutBest 197 = .ok (.iastore, 1) := by decide +kernel
theorem d_Md_cutBest_198 : decode c_Md_cutBest 198 = .ok (.goto (-151), 3) := by decide +kernel
theorem d_Md_cutBest_201 : decode c_Md_cutBest 201 = .ok (.aload_n 0, 1) := by decide +kernel
theorem d_Md_cutBest_202 : decode c_Md_cutBest 202 = .ok (.getfield 72, 3) := by decide +kernel
theorem d_Md_cutBest_205 : decode c_Md_cutBest 205 = .ok (.iload 5, 2) := by decide +kernel
theorem d_Md_cutBest_207 : decode c_Md_cutBest 207 = .ok (.iload 11, 2) := by decide +kernel
theorem d_Md_cutBest_209 : decode c_Md_cutBest 209 = .ok (.iastore, 1) := by decide +kernel
theorem d_Md_cutBest_210 : decode c_Md_cutBest 210 = .ok (.aload_n 0, 1) := by decide +kernel
theorem d_Md_cutBest_211 : decode c_Md_cutBest 211 = .ok (.getfield 51, 3) := by decide +kernel
theorem d_Md_cutBest_214 : decode c_Md_cutBest 214 = .ok (.iconst 3, 1) := by decide +kernel
theorem d_Md_cutBest_215 : decode c_Md_cutBest 215 = .ok (.iload_n 1, 1) := by decide +kernel
theorem d_Md_cutBest_216 : decode c_Md_cutBest 216 = .ok (.imul, 1) := by decide +kernel
theorem d_Md_cutBest_217 : decode c_Md_cutBest 217 = .ok (.iload 8, 2) := by decide +kernel
theorem d_Md_cutBest_219 : decode c_Md_cutBest 219 = .ok (.iadd, 1) := by decide +kernel
theorem d_Md_cutBest_220 : decode c_Md_cutBest 220 = .ok (.laload, 1) := by decide +kernel
theorem d_Md_cutBest_221 : decode c_Md_cutBest 221 = .ok (.lstore 12, 2) := by decide +kernel
theorem d_Md_cutBest_223 : decode c_Md_cutBest 223 = .ok (.lload_n 3, 1) := by decide +kernel
theorem d_Md_cutBest_224 : decode c_Md_cutBest 224 = .ok (.lconst 0, 1) := by decide +kernel
theorem d_Md_cutBest_225 : decode c_Md_cutBest 225 = .ok (.lcmp, 1) := by decide +kernel
theorem d_Md_cutBest_226 : decode c_Md_cutBest 226 = .ok (.ifCond .lt 42, 3) := by decide +kernel
theorem d_Md_cutBest_229 : decode c_Md_cutBest 229 = .ok (.lload 6, 2) := by decide +kernel
theorem d_Md_cutBest_231 : decode c_Md_cutBest 231 = .ok (.lload 12, 2) := by decide +kernel
theorem d_Md_cutBest_233 : decode c_Md_cutBest 233 = .ok (.ladd, 1) := by decide +kernel
theorem d_Md_cutBest_234 : decode c_Md_cutBest 234 = .ok (.lload_n 3, 1) := by decide +kernel
theorem d_Md_cutBest_235 : decode c_Md_cutBest 235 = .ok (.lcmp, 1) := by decide +kernel
theorem d_Md_cutBest_236 : decode c_Md_cutBest 236 = .ok (.ifCond .gt 28, 3) := by decide +kernel
theorem d_Md_cutBest_239 : decode c_Md_cutBest 239 = .ok (.lload 6, 2) := by decide +kernel
theorem d_Md_cutBest_241 : decode c_Md_cutBest 241 = .ok (.lload 12, 2) := by decide +kernel
theorem d_Md_cutBest_243 : decode c_Md_cutBest 243 = .ok (.ladd, 1) := by decide +kernel
theorem d_Md_cutBest_244 : decode c_Md_cutBest 244 = .ok (.lload_n 3, 1) := by decide +kernel
theorem d_Md_cutBest_245 : decode c_Md_cutBest 245 = .ok (.lcmp, 1) := by decide +kernel
theorem d_Md_cutBest_246 : decode c_Md_cutBest 246 = .ok (.ifCond .ne 22, 3) := by decide +kernel
theorem d_Md_cutBest_249 : decode c_Md_cutBest 249 = .ok (.iload 11, 2) := by decide +kernel
theorem d_Md_cutBest_251 : decode c_Md_cutBest 251 = .ok (.iload 9, 2) := by decide +kernel
theorem d_Md_cutBest_253 : decode c_Md_cutBest 253 = .ok (.if_icmp .ne 11, 3) := by decide +kernel
theorem d_Md_cutBest_256 : decode c_Md_cutBest 256 = .ok (.iload 5, 2) := by decide +kernel
theorem d_Md_cutBest_258 : decode c_Md_cutBest 258 = .ok (.iconst 1, 1) := by decide +kernel
theorem d_Md_cutBest_259 : decode c_Md_cutBest 259 = .ok (.iadd, 1) := by decide +kernel
theorem d_Md_cutBest_260 : decode c_Md_cutBest 260 = .ok (.iload_n 2, 1) := by decide +kernel
theorem d_Md_cutBest_261 : decode c_Md_cutBest 261 = .ok (.if_icmp .lt 7, 3) := by decide +kernel
theorem d_Md_cutBest_264 : decode c_Md_cutBest 264 = .ok (.iconst 1, 1) := by decide +kernel
theorem d_Md_cutBest_265 : decode c_Md_cutBest 265 = .ok (.goto 4, 3) := by decide +kernel
theorem d_Md_cutBest_268 : decode c_Md_cutBest 268 = .ok (.iconst 0, 1) := by decide +kernel
theorem d_Md_cutBest_269 : decode c_Md_cutBest 269 = .ok (.istore 14, 2) := by decide +kernel
theorem d_Md_cutBest_271 : decode c_Md_cutBest 271 = .ok (.aload_n 0, 1) := by decide +kernel
theorem d_Md_cutBest_272 : decode c_Md_cutBest 272 = .ok (.getfield 57, 3) := by decide +kernel
theorem d_Md_cutBest_275 : decode c_Md_cutBest 275 = .ok (.iload 8, 2) := by decide +kernel
theorem d_Md_cutBest_277 : decode c_Md_cutBest 277 = .ok (.iaload, 1) := by decide +kernel
theorem d_Md_cutBest_278 : decode c_Md_cutBest 278 = .ok (.ifCond .eq (-231), 3) := by decide +kernel
theorem d_Md_cutBest_281 : decode c_Md_cutBest 281 = .ok (.iload 14, 2) := by decide +kernel
theorem d_Md_cutBest_283 : decode c_Md_cutBest 283 = .ok (.ifCond .ne (-236), 3) := by decide +kernel
theorem d_Md_cutBest_286 : decode c_Md_cutBest 286 = .ok (.aload_n 0, 1) := by decide +kernel
theorem d_Md_cutBest_287 : decode c_Md_cutBest 287 = .ok (.iload 11, 2) := by decide +kernel
theorem d_Md_cutBest_289 : decode c_Md_cutBest 289 = .ok (.invokevirtual 195, 3) := by decide +kernel
theorem d_Md_cutBest_292 : decode c_Md_cutBest 292 = .ok (.lload 12, 2) := by decide +kernel
theorem d_Md_cutBest_294 : decode c_Md_cutBest 294 = .ok (.lcmp, 1) := by decide +kernel
theorem d_Md_cutBest_295 : decode c_Md_cutBest 295 = .ok (.ifCond .le 6, 3) := by decide +kernel
theorem d_Md_cutBest_298 : decode c_Md_cutBest 298 = .ok (.goto (-251), 3) := by decide +kernel
theorem d_Md_cutBest_301 : decode c_Md_cutBest 301 = .ok (.iload 11, 2) := by decide +kernel
theorem d_Md_cutBest_303 : decode c_Md_cutBest 303 = .ok (.iload 9, 2) := by decide +kernel
theorem d_Md_cutBest_305 : decode c_Md_cutBest 305 = .ok (.if_icmp .ne 61, 3) := by decide +kernel
theorem d_Md_cutBest_308 : decode c_Md_cutBest 308 = .ok (.lload 6, 2) := by decide +kernel
theorem d_Md_cutBest_310 : decode c_Md_cutBest 310 = .ok (.lload 12, 2) := by decide +kernel
theorem d_Md_cutBest_312 : decode c_Md_cutBest 312 = .ok (.ladd, 1) := by decide +kernel
theorem d_Md_cutBest_313 : decode c_Md_cutBest 313 = .ok (.lstore_n 3, 1) := by decide +kernel
theorem d_Md_cutBest_314 : decode c_Md_cutBest 314 = .ok (.iload 5, 2) := by decide +kernel
theorem d_Md_cutBest_316 : decode c_Md_cutBest 316 = .ok (.iconst 1, 1) := by decide +kernel
theorem d_Md_cutBest_317 : decode c_Md_cutBest 317 = .ok (.iadd, 1) := by decide +kernel
theorem d_Md_cutBest_318 : decode c_Md_cutBest 318 = .ok (.istore_n 2, 1) := by decide +kernel
theorem d_Md_cutBest_319 : decode c_Md_cutBest 319 = .ok (.iconst 0, 1) := by decide +kernel
theorem d_Md_cutBest_320 : decode c_Md_cutBest 320 = .ok (.istore 15, 2) := by decide +kernel
theorem d_Md_cutBest_322 : decode c_Md_cutBest 322 = .ok (.iload 15, 2) := by decide +kernel
theorem d_Md_cutBest_324 : decode c_Md_cutBest 324 = .ok (.iload 5, 2) := by decide +kernel
theorem d_Md_cutBest_326 : decode c_Md_cutBest 326 = .ok (.if_icmp .gt 37, 3) := by decide +kernel
theorem d_Md_cutBest_329 : decode c_Md_cutBest 329 = .ok (.aload_n 0, 1) := by decide +kernel
theorem d_Md_cutBest_330 : decode c_Md_cutBest 330 = .ok (.getfield 75, 3) := by decide +kernel
theorem d_Md_cutBest_333 : decode c_Md_cutBest 333 = .ok (.iload 15, 2) := by decide +kernel
theorem d_Md_cutBest_335 : decode c_Md_cutBest 335 = .ok (.aload_n 0, 1) := by decide +kernel
theorem d_Md_cutBest_336 : decode c_Md_cutBest 336 = .ok (.getfield 69, 3) := by decide +kernel
theorem d_Md_cutBest_339 : decode c_Md_cutBest 339 = .ok (.iload 15, 2) := by decide +kernel
theorem d_Md_cutBest_341 : decode c_Md_cutBest 341 = .ok (.iaload, 1) := by decide +kernel
theorem d_Md_cutBest_342 : decode c_Md_cutBest 342 = .ok (.iastore, 1) := by decide +kernel
theorem d_Md_cutBest_343 : decode c_Md_cutBest 343 = .ok (.aload_n 0, 1) := by decide +kernel
theorem d_Md_cutBest_344 : decode c_Md_cutBest 344 = .ok (.getfield 78, 3) := by decide +kernel
theorem d_Md_cutBest_347 : decode c_Md_cutBest 347 = .ok (.iload 15, 2) := by decide +kernel
theorem d_Md_cutBest_349 : decode c_Md_cutBest 349 = .ok (.aload_n 0, 1) := by decide +kernel
theorem d_Md_cutBest_350 : decode c_Md_cutBest 350 = .ok (.getfield 72, 3) := by decide +kernel
theorem d_Md_cutBest_353 : decode c_Md_cutBest 353 = .ok (.iload 15, 2) := by decide +kernel
theorem d_Md_cutBest_355 : decode c_Md_cutBest 355 = .ok (.iaload, 1) := by decide +kernel
theorem d_Md_cutBest_356 : decode c_Md_cutBest 356 = .ok (.iastore, 1) := by decide +kernel
theorem d_Md_cutBest_357 : decode c_Md_cutBest 357 = .ok (.iinc 15 1, 3) := by decide +kernel
theorem d_Md_cutBest_360 : decode c_Md_cutBest 360 = .ok (.goto (-38), 3) := by decide +kernel
theorem d_Md_cutBest_363 : decode c_Md_cutBest 363 = .ok (.goto (-316), 3) := by decide +kernel
theorem d_Md_cutBest_366 : decode c_Md_cutBest 366 = .ok (.aload_n 0, 1) := by decide +kernel
theorem d_Md_cutBest_367 : decode c_Md_cutBest 367 = .ok (.getfield 57, 3) := by decide +kernel
theorem d_Md_cutBest_370 : decode c_Md_cutBest 370 = .ok (.iload 8, 2) := by decide +kernel
theorem d_Md_cutBest_372 : decode c_Md_cutBest 372 = .ok (.dup2, 1) := by decide +kernel
theorem d_Md_cutBest_373 : decode c_Md_cutBest 373 = .ok (.iaload, 1) := by decide +kernel
theorem d_Md_cutBest_374 : decode c_Md_cutBest 374 = .ok (.iconst 1, 1) := by decide +kernel
theorem d_Md_cutBest_375 : decode c_Md_cutBest 375 = .ok (.isub, 1) := by decide +kernel
theorem d_Md_cutBest_376 : decode c_Md_cutBest 376 = .ok (.iastore, 1) := by decide +kernel
theorem d_Md_cutBest_377 : decode c_Md_cutBest 377 = .ok (.lload 6, 2) := by decide +kernel
theorem d_Md_cutBest_379 : decode c_Md_cutBest 379 = .ok (.lload 12, 2) := by decide +kernel
theorem d_Md_cutBest_381 : decode c_Md_cutBest 381 = .ok (.ladd, 1) := by decide +kernel
theorem d_Md_cutBest_382 : decode c_Md_cutBest 382 = .ok (.lstore 6, 2) := by decide +kernel
theorem d_Md_cutBest_384 : decode c_Md_cutBest 384 = .ok (.iinc 5 1, 3) := by decide +kernel
theorem d_Md_cutBest_387 : decode c_Md_cutBest 387 = .ok (.aload_n 0, 1) := by decide +kernel
theorem d_Md_cutBest_388 : decode c_Md_cutBest 388 = .ok (.getfield 66, 3) := by decide +kernel
theorem d_Md_cutBest_391 : decode c_Md_cutBest 391 = .ok (.iload 5, 2) := by decide +kernel
theorem d_Md_cutBest_393 : decode c_Md_cutBest 393 = .ok (.iload 9, 2) := by decide +kernel
theorem d_Md_cutBest_395 : decode c_Md_cutBest 395 = .ok (.iload 11, 2) := by decide +kernel
theorem d_Md_cutBest_397 : decode c_Md_cutBest 397 = .ok (.iconst (-1), 1) := by decide +kernel
theorem d_Md_cutBest_398 : decode c_Md_cutBest 398 = .ok (.ixor, 1) := by decide +kernel
theorem d_Md_cutBest_399 : decode c_Md_cutBest 399 = .ok (.iand, 1) := by decide +kernel
theorem d_Md_cutBest_400 : decode c_Md_cutBest 400 = .ok (.iastore, 1) := by decide +kernel
theorem d_Md_cutBest_401 : decode c_Md_cutBest 401 = .ok (.aload_n 0, 1) := by decide +kernel
theorem d_Md_cutBest_402 : decode c_Md_cutBest 402 = .ok (.getfield 69, 3) := by decide +kernel
theorem d_Md_cutBest_405 : decode c_Md_cutBest 405 = .ok (.iload 5, 2) := by decide +kernel
theorem d_Md_cutBest_407 : decode c_Md_cutBest 407 = .ok (.iconst 0, 1) := by decide +kernel
theorem d_Md_cutBest_408 : decode c_Md_cutBest 408 = .ok (.iastore, 1) := by decide +kernel
theorem d_Md_cutBest_409 : decode c_Md_cutBest 409 = .ok (.aload_n 0, 1) := by decide +kernel
theorem d_Md_cutBest_410 : decode c_Md_cutBest 410 = .ok (.getfield 72, 3) := by decide +kernel
theorem d_Md_cutBest_413 : decode c_Md_cutBest 413 = .ok (.iload 5, 2) := by decide +kernel
theorem d_Md_cutBest_415 : decode c_Md_cutBest 415 = .ok (.aload_n 0, 1) := by decide +kernel
theorem d_Md_cutBest_416 : decode c_Md_cutBest 416 = .ok (.getfield 66, 3) := by decide +kernel
theorem d_Md_cutBest_419 : decode c_Md_cutBest 419 = .ok (.iload 5, 2) := by decide +kernel
theorem d_Md_cutBest_421 : decode c_Md_cutBest 421 = .ok (.iaload, 1) := by decide +kernel
theorem d_Md_cutBest_422 : decode c_Md_cutBest 422 = .ok (.iconst 1, 1) := by decide +kernel
theorem d_Md_cutBest_423 : decode c_Md_cutBest 423 = .ok (.iadd, 1) := by decide +kernel
theorem d_Md_cutBest_424 : decode c_Md_cutBest 424 = .ok (.iastore, 1) := by decide +kernel
theorem d_Md_cutBest_425 : decode c_Md_cutBest 425 = .ok (.goto (-378), 3) := by decide +kernel
theorem d_Md_cutBest_428 : decode c_Md_cutBest 428 = .ok (.iconst 0, 1) := by decide +kernel
theorem d_Md_cutBest_429 : decode c_Md_cutBest 429 = .ok (.istore 8, 2) := by decide +kernel
theorem d_Md_cutBest_431 : decode c_Md_cutBest 431 = .ok (.iload 8, 2) := by decide +kernel
theorem d_Md_cutBest_433 : decode c_Md_cutBest 433 = .ok (.iload_n 2, 1) := by decide +kernel
theorem d_Md_cutBest_434 : decode c_Md_cutBest 434 = .ok (.if_icmp .ge 74, 3) := by decide +kernel
theorem d_Md_cutBest_437 : decode c_Md_cutBest 437 = .ok (.aload_n 0, 1) := by decide +kernel
theorem d_Md_cutBest_438 : decode c_Md_cutBest 438 = .ok (.iload_n 1, 1) := by decide +kernel
theorem d_Md_cutBest_439 : decode c_Md_cutBest 439 = .ok (.aload_n 0, 1) := by decide +kernel
theorem d_Md_cutBest_440 : decode c_Md_cutBest 440 = .ok (.getfield 75, 3) := by decide +kernel
theorem d_Md_cutBest_443 : decode c_Md_cutBest 443 = .ok (.iload 8, 2) := by decide +kernel
theorem d_Md_cutBest_445 : decode c_Md_cutBest 445 = .ok (.iaload, 1) := by decide +kernel
theorem d_Md_cutBest_446 : decode c_Md_cutBest 446 = .ok (.invokevirtual 185, 3) := by decide +kernel
theorem d_Md_cutBest_449 : decode c_Md_cutBest 449 = .ok (.iconst 0, 1) := by decide +kernel
theorem d_Md_cutBest_450 : decode c_Md_cutBest 450 = .ok (.istore 9, 2) := by decide +kernel
theorem d_Md_cutBest_452 : decode c_Md_cutBest 452 = .ok (.iload 9, 2) := by decide +kernel
theorem d_Md_cutBest_454 : decode c_Md_cutBest 454 = .ok (.aload_n 0, 1) := by decide +kernel
theorem d_Md_cutBest_455 : decode c_Md_cutBest 455 = .ok (.getfield 175, 3) := by decide +kernel
theorem d_Md_cutBest_458 : decode c_Md_cutBest 458 = .ok (.if_icmp .ge 44, 3) := by decide +kernel
theorem d_Md_cutBest_461 : decode c_Md_cutBest 461 = .ok (.aload_n 0, 1) := by decide +kernel
theorem d_Md_cutBest_462 : decode c_Md_cutBest 462 = .ok (.getfield 78, 3) := by decide +kernel
theorem d_Md_cutBest_465 : decode c_Md_cutBest 465 = .ok (.iload 8, 2) := by decide +kernel
theorem d_Md_cutBest_467 : decode c_Md_cutBest 467 = .ok (.iaload, 1) := by decide +kernel
theorem d_Md_cutBest_468 : decode c_Md_cutBest 468 = .ok (.aload_n 0, 1) := by decide +kernel
theorem d_Md_cutBest_469 : decode c_Md_cutBest 469 = .ok (.getfield 175, 3) := by decide +kernel
theorem d_Md_cutBest_472 : decode c_Md_cutBest 472 = .ok (.iconst 1, 1) := by decide +kernel
theorem d_Md_cutBest_473 : decode c_Md_cutBest 473 = .ok (.isub, 1) := by decide +kernel
theorem d_Md_cutBest_474 : decode c_Md_cutBest 474 = .ok (.iload 9, 2) := by decide +kernel
theorem d_Md_cutBest_476 : decode c_Md_cutBest 476 = .ok (.isub, 1) := by decide +kernel
theorem d_Md_cutBest_477 : decode c_Md_cutBest 477 = .ok (.ishr, 1) := by decide +kernel
theorem d_Md_cutBest_478 : decode c_Md_cutBest 478 = .ok (.iconst 1, 1) := by decide +kernel
theorem d_Md_cutBest_479 : decode c_Md_cutBest 479 = .ok (.iand, 1) := by decide +kernel
theorem d_Md_cutBest_480 : decode c_Md_cutBest 480 = .ok (.iconst 1, 1) := by decide +kernel
theorem d_Md_cutBest_481 : decode c_Md_cutBest 481 = .ok (.if_icmp .ne 15, 3) := by decide +kernel
theorem d_Md_cutBest_484 : decode c_Md_cutBest 484 = .ok (.aload_n 0, 1) := by decide +kernel
theorem d_Md_cutBest_485 : decode c_Md_cutBest 485 = .ok (.aload_n 0, 1) := by decide +kernel
theorem d_Md_cutBest_486 : decode c_Md_cutBest 486 = .ok (.getfield 178, 3) := by decide +kernel
theorem d_Md_cutBest_489 : decode c_Md_cutBest 489 = .ok (.iconst 1, 1) := by decide +kernel
theorem d_Md_cutBest_490 : decode c_Md_cutBest 490 = .ok (.isub, 1) := by decide +kernel
theorem d_Md_cutBest_491 : decode c_Md_cutBest 491 = .ok (.iload 9, 2) := by decide +kernel
theorem d_Md_cutBest_493 : decode c_Md_cutBest 493 = .ok (.invokevirtual 189, 3) := by decide +kernel
theorem d_Md_cutBest_496 : decode c_Md_cutBest 496 = .ok (.iinc 9 1, 3) := by decide +kernel
theorem d_Md_cutBest_499 : decode c_Md_cutBest 499 = .ok (.goto (-47), 3) := by decide +kernel
theorem d_Md_cutBest_502 : decode c_Md_cutBest 502 = .ok (.iinc 8 1, 3) := by decide +kernel
theorem d_Md_cutBest_505 : decode c_Md_cutBest 505 = .ok (.goto (-74), 3) := by decide +kernel
theorem d_Md_cutBest_508 : decode c_Md_cutBest 508 = .ok (.lload_n 3, 1) := by decide +kernel
theorem d_Md_cutBest_509 : decode c_Md_cutBest 509 = .ok (.lconst 0, 1) := by decide +kernel
theorem d_Md_cutBest_510 : decode c_Md_cutBest 510 = .ok (.lcmp, 1) := by decide +kernel
theorem d_Md_cutBest_511 : decode c_Md_cutBest 511 = .ok (.ifCond .lt 7, 3) := by decide +kernel
theorem d_Md_cutBest_514 : decode c_Md_cutBest 514 = .ok (.iconst 1, 1) := by decide +kernel
theorem d_Md_cutBest_515 : decode c_Md_cutBest 515 = .ok (.goto 4, 3) := by decide +kernel
theorem d_Md_cutBest_518 : decode c_Md_cutBest 518 = .ok (.iconst 0, 1) := by decide +kernel
theorem d_Md_cutBest_519 : decode c_Md_cutBest 519 = .ok (.ireturn, 1) := by decide +kernel
end
section
theorem d_Md_run_0 : decode c_Md_run 0 = .ok (.lload_n 1, 1) := by decide +kernel
theorem d_Md_run_1 : decode c_Md_run 1 = .ok (.lconst 0, 1) := by decide +kernel
theorem d_Md_run_2 : decode c_Md_run 2 = .ok (.ldc2_w 198, 3) := by decide +kernel
theorem d_Md_run_5 : decode c_Md_run 5 = .ok (.invokestatic 128, 3) := by decide +kernel
theorem d_Md_run_8 : decode c_Md_run 8 = .ok (.ifCond .ne 5, 3) := by decide +kernel
theorem d_Md_run_11 : decode c_Md_run 11 = .ok (.iconst (-1), 1) := by decide +kernel
theorem d_Md_run_12 : decode c_Md_run 12 = .ok (.ireturn, 1) := by decide +kernel
theorem d_Md_run_13 : decode c_Md_run 13 = .ok (.aload_n 0, 1) := by decide +kernel
theorem d_Md_run_14 : decode c_Md_run 14 = .ok (.iconst 0, 1) := by decide +kernel
theorem d_Md_run_15 : decode c_Md_run 15 = .ok (.putfield 148, 3) := by decide +kernel
theorem d_Md_run_18 : decode c_Md_run 18 = .ok (.aload_n 0, 1) := by decide +kernel
theorem d_Md_run_19 : decode c_Md_run 19 = .ok (.iconst 0, 1) := by decide +kernel
theorem d_Md_run_20 : decode c_Md_run 20 = .ok (.putfield 178, 3) := by decide +kernel
theorem d_Md_run_23 : decode c_Md_run 23 = .ok (.aload_n 0, 1) := by decide +kernel
theorem d_Md_run_24 : decode c_Md_run 24 = .ok (.iconst 0, 1) := by decide +kernel
theorem d_Md_run_25 : decode c_Md_run 25 = .ok (.putfield 200, 3) := by decide +kernel
theorem d_Md_run_28 : decode c_Md_run 28 = .ok (.aload_n 0, 1) := by decide +kernel
theorem d_Md_run_29 : decode c_Md_run 29 = .ok (.iconst 0, 1) := by decide +kernel
theorem d_Md_run_30 : decode c_Md_run 30 = .ok (.putfield 203, 3) := by decide +kernel
theorem d_Md_run_33 : decode c_Md_run 33 = .ok (.iconst 0, 1) := by decide +kernel
theorem d_Md_run_34 : decode c_Md_run 34 = .ok (.istore_n 3, 1) := by decide +kernel
theorem d_Md_run_35 : decode c_Md_run 35 = .ok (.iload_n 3, 1) := by decide +kernel
theorem d_Md_run_36 : decode c_Md_run 36 = .ok (.aload_n 0, 1) := by decide +kernel
theorem d_Md_run_37 : decode c_Md_run 37 = .ok (.getfield 120, 3) := by decide +kernel
theorem d_Md_run_40 : decode c_Md_run 40 = .ok (.if_icmp .ge 21, 3) := by decide +kernel
theorem d_Md_run_43 : decode c_Md_run 43 = .ok (.aload_n 0, 1) := by decide +kernel
theorem d_Md_run_44 : decode c_Md_run 44 = .ok (.iload_n 3, 1) := by decide +kernel
theorem d_Md_run_45 : decode c_Md_run 45 = .ok (.invokevirtual 172, 3) := by decide +kernel
theorem d_Md_run_48 : decode c_Md_run 48 = .ok (.lconst 0, 1) := by decide +kernel
theorem d_Md_run_49 : decode c_Md_run 49 = .ok (.lcmp, 1) := by decide +kernel
theorem d_Md_run_50 : decode c_Md_run 50 = .ok (.ifCond .ne 5, 3) := by decide +kernel
theorem d_Md_run_53 : decode c_Md_run 53 = .ok (.iconst (-1), 1) := by decide +kernel
theorem d_Md_run_54 : decode c_Md_run 54 = .ok (.ireturn, 1) := by decide +kernel
theorem d_Md_run_55 : decode c_Md_run 55 = .ok (.iinc 3 1, 3) := by decide +kernel
theorem d_Md_run_58 : decode c_Md_run 58 = .ok (.goto (-23), 3) := by decide +kernel
theorem d_Md_run_61 : decode c_Md_run 61 = .ok (.iconst 4, 1) := by decide +kernel
theorem d_Md_run_62 : decode c_Md_run 62 = .ok (.istore_n 3, 1) := by decide +kernel
theorem d_Md_run_63 : decode c_Md_run 63 = .ok (.iload_n 3, 1) := by decide +kernel
theorem d_Md_run_64 : decode c_Md_run 64 = .ok (.bipush 40, 2) := by decide +kernel
theorem d_Md_run_66 : decode c_Md_run 66 = .ok (.if_icmp .gt 134, 3) := by decide +kernel
theorem d_Md_run_69 : decode c_Md_run 69 = .ok (.aload_n 0, 1) := by decide +kernel
theorem d_Md_run_70 : decode c_Md_run 70 = .ok (.iload_n 3, 1) := by decide +kernel
theorem d_Md_run_71 : decode c_Md_run 71 = .ok (.invokevirtual 206, 3) := by decide +kernel
theorem d_Md_run_74 : decode c_Md_run 74 = .ok (.aload_n 0, 1) := by decide +kernel
theorem d_Md_run_75 : decode c_Md_run 75 = .ok (.getfield 175, 3) := by decide +kernel
theorem d_Md_run_78 : decode c_Md_run 78 = .ok (.ifCond .le 116, 3) := by decide +kernel
theorem d_Md_run_81 : decode c_Md_run 81 = .ok (.iconst 0, 1) := by decide +kernel
theorem d_Md_run_82 : decode c_Md_run 82 = .ok (.istore 4, 2) := by decide +kernel
theorem d_Md_run_84 : decode c_Md_run 84 = .ok (.iload 4, 2) := by decide +kernel
theorem d_Md_run_86 : decode c_Md_run 86 = .ok (.iconst 3, 1) := by decide +kernel
theorem d_Md_run_87 : decode c_Md_run 87 = .ok (.if_icmp .ge 42, 3) := by decide +kernel
theorem d_Md_run_90 : decode c_Md_run 90 = .ok (.aload_n 0, 1) := by decide +kernel
theorem d_Md_run_91 : decode c_Md_run 91 = .ok (.getfield 57, 3) := by decide +kernel
theorem d_Md_run_94 : decode c_Md_run 94 = .ok (.iload 4, 2) := by decide +kernel
theorem d_Md_run_96 : decode c_Md_run 96 = .ok (.iload 4, 2) := by decide +kernel
theorem d_Md_run_98 : decode c_Md_run 98 = .ok (.aload_n 0, 1) := by decide +kernel
theorem d_Md_run_99 : decode c_Md_run 99 = .ok (.getfield 48, 3) := by decide +kernel
theorem d_Md_run_102 : decode c_Md_run 102 = .ok (.iload_n 3, 1) := by decide +kernel
theorem d_Md_run_103 : decode c_Md_run 103 = .ok (.iaload, 1) := by decide +kernel
theorem d_Md_run_104 : decode c_Md_run 104 = .ok (.if_icmp .ge 17, 3) := by decide +kernel
theorem d_Md_run_107 : decode c_Md_run 107 = .ok (.aload_n 0, 1) := by decide +kernel
theorem d_Md_run_108 : decode c_Md_run 108 = .ok (.getfield 54, 3) := by decide +kernel
theorem d_Md_run_111 : decode c_Md_run 111 = .ok (.iconst 3, 1) := by decide +kernel
theorem d_Md_run_112 : decode c_Md_run 112 = .ok (.iload_n 3, 1) := by decide +kernel
theorem d_Md_run_113 : decode c_Md_run 113 = .ok (.imul, 1) := by decide +kernel
theorem d_Md_run_114 : decode c_Md_run 114 = .ok (.iload 4, 2) := by decide +kernel
theorem d_Md_run_116 : decode c_Md_run 116 = .ok (.iadd, 1) := by decide +kernel
theorem d_Md_run_117 : decode c_Md_run 117 = .ok (.iaload, 1) := by decide +kernel
theorem d_Md_run_118 : decode c_Md_run 118 = .ok (.goto 4, 3) := by decide +kernel
theorem d_Md_run_121 : decode c_Md_run 121 = .ok (.iconst 0, 1) := by decide +kernel
theorem d_Md_run_122 : decode c_Md_run 122 = .ok (.iastore, 1) := by decide +kernel
theorem d_Md_run_123 : decode c_Md_run 123 = .ok (.iinc 4 1, 3) := by decide +kernel
theorem d_Md_run_126 : decode c_Md_run 126 = .ok (.goto (-42), 3) := by decide +kernel
theorem d_Md_run_129 : decode c_Md_run 129 = .ok (.aload_n 0, 1) := by decide +kernel
theorem d_Md_run_130 : decode c_Md_run 130 = .ok (.dup, 1) := by decide +kernel
theorem d_Md_run_131 : decode c_Md_run 131 = .ok (.getfield 200, 3) := by decide +kernel
theorem d_Md_run_134 : decode c_Md_run 134 = .ok (.iconst 1, 1) := by decide +kernel
theorem d_Md_run_135 : decode c_Md_run 135 = .ok (.iadd, 1) := by decide +kernel
theorem d_Md_run_136 : decode c_Md_run 136 = .ok (.putfield 200, 3) := by decide +kernel
theorem d_Md_run_139 : decode c_Md_run 139 = .ok (.aload_n 0, 1) := by decide +kernel
theorem d_Md_run_140 : decode c_Md_run 140 = .ok (.dup, 1) := by decide +kernel
theorem d_Md_run_141 : decode c_Md_run 141 = .ok (.getfield 203, 3) := by decide +kernel
theorem d_Md_run_144 : decode c_Md_run 144 = .ok (.aload_n 0, 1) := by decide +kernel
theorem d_Md_run_145 : decode c_Md_run 145 = .ok (.getfield 175, 3) := by decide +kernel
theorem d_Md_run_148 : decode c_Md_run 148 = .ok (.i2l, 1) := by decide +kernel
theorem d_Md_run_149 : decode c_Md_run 149 = .ok (.lload_n 1, 1) := by decide +kernel
theorem d_Md_run_150 : decode c_Md_run 150 = .ok (.lcmp, 1) := by decide +kernel
theorem d_Md_run_151 : decode c_Md_run 151 = .ok (.ifCond .gt 7, 3) := by decide +kernel
theorem d_Md_run_154 : decode c_Md_run 154 = .ok (.iconst 1, 1) := by decide +kernel
theorem d_Md_run_155 : decode c_Md_run 155 = .ok (.goto 4, 3) := by decide +kernel
theorem d_Md_run_158 : decode c_Md_run 158 = .ok (.iconst 0, 1) := by decide +kernel
theorem d_Md_run_159 : decode c_Md_run 159 = .ok (.iadd, 1) := by decide +kernel
theorem d_Md_run_160 : decode c_Md_run 160 = .ok (.putfield 203, 3) := by decide +kernel
theorem d_Md_run_163 : decode c_Md_run 163 = .ok (.aload_n 0, 1) := by decide +kernel
theorem d_Md_run_164 : decode c_Md_run 164 = .ok (.getfield 175, 3) := by decide +kernel
theorem d_Md_run_167 : decode c_Md_run 167 = .ok (.i2l, 1) := by decide +kernel
theorem d_Md_run_168 : decode c_Md_run 168 = .ok (.lload_n 1, 1) := by decide +kernel
theorem d_Md_run_169 : decode c_Md_run 169 = .ok (.lcmp, 1) := by decide +kernel
theorem d_Md_run_170 : decode c_Md_run 170 = .ok (.ifCond .gt 14, 3) := by decide +kernel
theorem d_Md_run_173 : decode c_Md_run 173 = .ok (.aload_n 0, 1) := by decide +kernel
theorem d_Md_run_174 : decode c_Md_run 174 = .ok (.iload_n 3, 1) := by decide +kernel
theorem d_Md_run_175 : decode c_Md_run 175 = .ok (.invokevirtual 210, 3) := by decide +kernel
theorem d_Md_run_178 : decode c_Md_run 178 = .ok (.ifCond .ne 16, 3) := by decide +kernel
theorem d_Md_run_181 : decode c_Md_run 181 = .ok (.goto 11, 3) := by decide +kernel
theorem d_Md_run_184 : decode c_Md_run 184 = .ok (.aload_n 0, 1) := by decide +kernel
theorem d_Md_run_185 : decode c_Md_run 185 = .ok (.iload_n 3, 1) := by decide +kernel
theorem d_Md_run_186 : decode c_Md_run 186 = .ok (.invokevirtual 213, 3) := by decide +kernel
theorem d_Md_run_189 : decode c_Md_run 189 = .ok (.ifCond .ne 5, 3) := by decide +kernel
theorem d_Md_run_192 : decode c_Md_run 192 = .ok (.iconst (-1), 1) := by decide +kernel
theorem d_Md_run_193 : decode c_Md_run 193 = .ok (.ireturn, 1) := by decide +kernel
theorem d_Md_run_194 : decode c_Md_run 194 = .ok (.iinc 3 1, 3) := by decide +kernel
theorem d_Md_run_197 : decode c_Md_run 197 = .ok (.goto (-134), 3) := by decide +kernel
theorem d_Md_run_200 : decode c_Md_run 200 = .ok (.aload_n 0, 1) := by decide +kernel
theorem d_Md_run_201 : decode c_Md_run 201 = .ok (.iconst 1, 1) := by decide +kernel
theorem d_Md_run_202 : decode c_Md_run 202 = .ok (.putfield 148, 3) := by decide +kernel
theorem d_Md_run_205 : decode c_Md_run 205 = .ok (.aload_n 0, 1) := by decide +kernel
theorem d_Md_run_206 : decode c_Md_run 206 = .ok (.getfield 178, 3) := by decide +kernel
theorem d_Md_run_209 : decode c_Md_run 209 = .ok (.ireturn, 1) := by decide +kernel
theorem d_Md_piecesTogether_0 : decode c_Md_piecesTogether 0 = .ok (.lconst 0, 1) := by decide +kernel
theorem d_Md_piecesTogether_1 : decode c_Md_piecesTogether 1 = .ok (.lstore_n 1, 1) := by decide +kernel
theorem d_Md_piecesTogether_2 : decode c_Md_piecesTogether 2 = .ok (.iconst 0, 1) := by decide +kernel
theorem d_Md_piecesTogether_3 : decode c_Md_piecesTogether 3 = .ok (.istore_n 3, 1) := by decide +kernel
theorem d_Md_piecesTogether_4 : decode c_Md_piecesTogether 4 = .ok (.iload_n 3, 1) := by decide +kernel
theorem d_Md_piecesTogether_5 : decode c_Md_piecesTogether 5 = .ok (.aload_n 0, 1) := by decide +kernel
theorem d_Md_piecesTogether_6 : decode c_Md_piecesTogether 6 = .ok (.getfield 120, 3) := by decide +kernel
theorem d_Md_piecesTogether_9 : decode c_Md_piecesTogether 9 = .ok (.if_icmp .ge 25, 3) := by decide +kernel
theorem d_Md_piecesTogether_12 : decode c_Md_piecesTogether 12 = .ok (.lload_n 1, 1) := by decide +kernel
theorem d_Md_piecesTogether_13 : decode c_Md_piecesTogether 13 = .ok (.aload_n 0, 1) := by decide +kernel
theorem d_Md_piecesTogether_14 : decode c_Md_piecesTogether 14 = .ok (.getfield 29, 3) := by decide +kernel
theorem d_Md_piecesTogether_17 : decode c_Md_piecesTogether 17 = .ok (.iload_n 3, 1) := by decide +kernel
theorem d_Md_piecesTogether_18 : decode c_Md_piecesTogether 18 = .ok (.iaload, 1) := by decide +kernel
theorem d_Md_piecesTogether_19 : decode c_Md_piecesTogether 19 = .ok (.i2l, 1) := by decide +kernel
theorem d_Md_piecesTogether_20 : decode c_Md_piecesTogether 20 = .ok (.aload_n 0, 1) := by decide +kernel
theorem d_Md_piecesTogether_21 : decode c_Md_piecesTogether 21 = .ok (.iload_n 3, 1) := by decide +kernel
theorem d_Md_piecesTogether_22 : decode c_Md_piecesTogether 22 = .ok (.invokevirtual 172, 3) := by decide +kernel
theorem d_Md_piecesTogether_25 : decode c_Md_piecesTogether 25 = .ok (.lmul, 1) := by decide +kernel
theorem d_Md_piecesTogether_26 : decode c_Md_piecesTogether 26 = .ok (.ladd, 1) := by decide +kernel
theorem d_Md_piecesTogether_27 : decode c_Md_piecesTogether 27 = .ok (.lstore_n 1, 1) := by decide +kernel
theorem d_Md_piecesTogether_28 : decode c_Md_piecesTogether 28 = .ok (.iinc 3 1, 3) := by decide +kernel
theorem d_Md_piecesTogether_31 : decode c_Md_piecesTogether 31 = .ok (.goto (-27), 3) := by decide +kernel
theorem d_Md_piecesTogether_34 : decode c_Md_piecesTogether 34 = .ok (.lload_n 1, 1) := by decide +kernel
theorem d_Md_piecesTogether_35 : decode c_Md_piecesTogether 35 = .ok (.lreturn, 1) := by decide +kernel
theorem d_Md_loss_0 : decode c_Md_loss 0 = .ok (.aload_n 0, 1) := by decide +kernel
theorem d_Md_loss_1 : decode c_Md_loss 1 = .ok (.getfield 148, 3) := by decide +kernel
theorem d_Md_loss_4 : decode c_Md_loss 4 = .ok (.ifCond .eq 12, 3) := by decide +kernel
theorem d_Md_loss_7 : decode c_Md_loss 7 = .ok (.iload_n 1, 1) := by decide +kernel
theorem d_Md_loss_8 : decode c_Md_loss 8 = .ok (.ifCond .lt 8, 3) := by decide +kernel
theorem d_Md_loss_11 : decode c_Md_loss 11 = .ok (.iload_n 1, 1) := by decide +kernel
theorem d_Md_loss_12 : decode c_Md_loss 12 = .ok (.iconst 2, 1) := by decide +kernel
theorem d_Md_loss_13 : decode c_Md_loss 13 = .ok (.if_icmp .le 7, 3) := by decide +kernel
theorem d_Md_loss_16 : decode c_Md_loss 16 = .ok (.ldc2_w 170, 3) := by decide +kernel
theorem d_Md_loss_19 : decode c_Md_loss 19 = .ok (.lreturn, 1) := by decide +kernel
theorem d_Md_loss_20 : decode c_Md_loss 20 = .ok (.lconst 0, 1) := by decide +kernel
theorem d_Md_loss_21 : decode c_Md_loss 21 = .ok (.lstore_n 2, 1) := by decide +kernel
theorem d_Md_loss_22 : decode c_Md_loss 22 = .ok (.iconst 0, 1) := by decide +kernel
theorem d_Md_loss_23 : decode c_Md_loss 23 = .ok (.istore 4, 2) := by decide +kernel
theorem d_Md_loss_25 : decode c_Md_loss 25 = .ok (.iload 4, 2) := by decide +kernel
theorem d_Md_loss_27 : decode c_Md_loss 27 = .ok (.aload_n 0, 1) := by decide +kernel
theorem d_Md_loss_28 : decode c_Md_loss 28 = .ok (.getfield 178, 3) := by decide +kernel
theorem d_Md_loss_31 : decode c_Md_loss 31 = .ok (.if_icmp .ge 19, 3) := by decide +kernel
theorem d_Md_loss_34 : decode c_Md_loss 34 = .ok (.lload_n 2, 1) := by decide +kernel
theorem d_Md_loss_35 : decode c_Md_loss 35 = .ok (.aload_n 0, 1) := by decide +kernel
theorem d_Md_loss_36 : decode c_Md_loss 36 = .ok (.getfield 84, 3) := by decide +kernel
theorem d_Md_loss_39 : decode c_Md_loss 39 = .ok (.iload 4, 2) := by decide +kernel
theorem d_Md_loss_41 : decode c_Md_loss 41 = .ok (.laload, 1) := by decide +kernel
theorem d_Md_loss_42 : decode c_Md_loss 42 = .ok (.ladd, 1) := by decide +kernel
theorem d_Md_loss_43 : decode c_Md_loss 43 = .ok (.lstore_n 2, 1) := by decide +kernel
theorem d_Md_loss_44 : decode c_Md_loss 44 = .ok (.iinc 4 1, 3) := by decide +kernel
theorem d_Md_loss_47 : decode c_Md_loss 47 = .ok (.goto (-22), 3) := by decide +kernel
theorem d_Md_loss_50 : decode c_Md_loss 50 = .ok (.iload_n 1, 1) := by decide +kernel
theorem d_Md_loss_51 : decode c_Md_loss 51 = .ok (.ifCond .ne 12, 3) := by decide +kernel
theorem d_Md_loss_54 : decode c_Md_loss 54 = .ok (.lload_n 2, 1) := by decide +kernel
theorem d_Md_loss_55 : decode c_Md_loss 55 = .ok (.aload_n 0, 1) := by decide +kernel
theorem d_Md_loss_56 : decode c_Md_loss 56 = .ok (.invokevirtual 216, 3) := by decide +kernel
theorem d_Md_loss_59 : decode c_Md_loss 59 = .ok (.lsub, 1) := by decide +kernel
theorem d_Md_loss_60 : decode c_Md_loss 60 = .ok (.goto 16, 3) := by decide +kernel
theorem d_Md_loss_63 : decode c_Md_loss 63 = .ok (.iload_n 1, 1) := by decide +kernel
theorem d_Md_loss_64 : decode c_Md_loss 64 = .ok (.iconst 1, 1) := by decide +kernel
theorem d_Md_loss_65 : decode c_Md_loss 65 = .ok (.if_icmp .ne 7, 3) := by decide +kernel
theorem d_Md_loss_68 : decode c_Md_loss 68 = .ok (.lload_n 2, 1) := by decide +kernel
theorem d_Md_loss_69 : decode c_Md_loss 69 = .ok (.goto 7, 3) := by decide +kernel
theorem d_Md_loss_72 : decode c_Md_loss 72 = .ok (.aload_n 0, 1) := by decide +kernel
theorem d_Md_loss_73 : decode c_Md_loss 73 = .ok (.invokevirtual 216, 3) := by decide +kernel
theorem d_Md_loss_76 : decode c_Md_loss 76 = .ok (.lreturn, 1) := by decide +kernel
theorem d_Md_bound_0 : decode c_Md_bound 0 = .ok (.aload_n 0, 1) := by decide +kernel
theorem d_Md_bound_1 : decode c_Md_bound 1 = .ok (.getfield 148, 3) := by decide +kernel
theorem d_Md_bound_4 : decode c_Md_bound 4 = .ok (.ifCond .eq 12, 3) := by decide +kernel
theorem d_Md_bound_7 : decode c_Md_bound 7 = .ok (.iload_n 1, 1) := by decide +kernel
theorem d_Md_bound_8 : decode c_Md_bound 8 = .ok (.ifCond .lt 8, 3) := by decide +kernel
theorem d_Md_bound_11 : decode c_Md_bound 11 = .ok (.iload_n 1, 1) := by decide +kernel
theorem d_Md_bound_12 : decode c_Md_bound 12 = .ok (.iconst 1, 1) := by decide +kernel
theorem d_Md_bound_13 : decode c_Md_bound 13 = .ok (.if_icmp .le 7, 3) := by decide +kernel
theorem d_Md_bound_16 : decode c_Md_bound 16 = .ok (.ldc2_w 170, 3) := by decide +kernel
theorem d_Md_bound_19 : decode c_Md_bound 19 = .ok (.lreturn, 1) := by decide +kernel
theorem d_Md_bound_20 : decode c_Md_bound 20 = .ok (.iload_n 1, 1) := by decide +kernel
theorem d_Md_bound_21 : decode c_Md_bound 21 = .ok (.ifCond .ne 10, 3) := by decide +kernel
theorem d_Md_bound_24 : decode c_Md_bound 24 = .ok (.aload_n 0, 1) := by decide +kernel
theorem d_Md_bound_25 : decode c_Md_bound 25 = .ok (.invokevirtual 216, 3) := by decide +kernel
theorem d_Md_bound_28 : decode c_Md_bound 28 = .ok (.goto 8, 3) := by decide +kernel
theorem d_Md_bound_31 : decode c_Md_bound 31 = .ok (.aload_n 0, 1) := by decide +kernel
theorem d_Md_bound_32 : decode c_Md_bound 32 = .ok (.getfield 203, 3) := by decide +kernel
theorem d_Md_bound_35 : decode c_Md_bound 35 = .ok (.i2l, 1) := by decide +kernel
theorem d_Md_bound_36 : decode c_Md_bound 36 = .ok (.lreturn, 1) := by decide +kernel
theorem d_Md_proved_0 : decode c_Md_proved 0 = .ok (.aload_n 0, 1) := by decide +kernel
theorem d_Md_proved_1 : decode c_Md_proved 1 = .ok (.getfield 148, 3) := by decide +kernel
theorem d_Md_proved_4 : decode c_Md_proved 4 = .ok (.ifCond .eq 18, 3) := by decide +kernel
theorem d_Md_proved_7 : decode c_Md_proved 7 = .ok (.aload_n 0, 1) := by decide +kernel
theorem d_Md_proved_8 : decode c_Md_proved 8 = .ok (.getfield 203, 3) := by decide +kernel
theorem d_Md_proved_11 : decode c_Md_proved 11 = .ok (.aload_n 0, 1) := by decide +kernel
theorem d_Md_proved_12 : decode c_Md_proved 12 = .ok (.getfield 200, 3) := by decide +kernel
theorem d_Md_proved_15 : decode c_Md_proved 15 = .ok (.if_icmp .ne 7, 3) := by decide +kernel
theorem d_Md_proved_18 : decode c_Md_proved 18 = .ok (.iconst 1, 1) := by decide +kernel
theorem d_Md_proved_19 : decode c_Md_proved 19 = .ok (.goto 4, 3) := by decide +kernel
theorem d_Md_proved_22 : decode c_Md_proved 22 = .ok (.iconst 0, 1) := by decide +kernel
theorem d_Md_proved_23 : decode c_Md_proved 23 = .ok (.ireturn, 1) := by decide +kernel
theorem d_Md_pattern_0 : decode c_Md_pattern 0 = .ok (.aload_n 0, 1) := by decide +kernel
theorem d_Md_pattern_1 : decode c_Md_pattern 1 = .ok (.getfield 148, 3) := by decide +kernel
theorem d_Md_pattern_4 : decode c_Md_pattern 4 = .ok (.ifCond .eq 31, 3) := by decide +kernel
theorem d_Md_pattern_7 : decode c_Md_pattern 7 = .ok (.iload_n 1, 1) := by decide +kernel
theorem d_Md_pattern_8 : decode c_Md_pattern 8 = .ok (.ifCond .lt 27, 3) := by decide +kernel
theorem d_Md_pattern_11 : decode c_Md_pattern 11 = .ok (.iload_n 1, 1) := by decide +kernel
theorem d_Md_pattern_12 : decode c_Md_pattern 12 = .ok (.aload_n 0, 1) := by decide +kernel
theorem d_Md_pattern_13 : decode c_Md_pattern 13 = .ok (.getfield 178, 3) := by decide +kernel
theorem d_Md_pattern_16 : decode c_Md_pattern 16 = .ok (.if_icmp .ge 19, 3) := by decide +kernel
theorem d_Md_pattern_19 : decode c_Md_pattern 19 = .ok (.iload_n 2, 1) := by decide +kernel
theorem d_Md_pattern_20 : decode c_Md_pattern 20 = .ok (.ifCond .lt 15, 3) := by decide +kernel
theorem d_Md_pattern_23 : decode c_Md_pattern 23 = .ok (.iload_n 2, 1) := by decide +kernel
theorem d_Md_pattern_24 : decode c_Md_pattern 24 = .ok (.iconst 3, 1) := by decide +kernel
theorem d_Md_pattern_25 : decode c_Md_pattern 25 = .ok (.aload_n 0, 1) := by decide +kernel
theorem d_Md_pattern_26 : decode c_Md_pattern 26 = .ok (.getfield 87, 3) := by decide +kernel
theorem d_Md_pattern_29 : decode c_Md_pattern 29 = .ok (.iload_n 1, 1) := by decide +kernel
theorem d_Md_pattern_30 : decode c_Md_pattern 30 = .ok (.iaload, 1) := by decide +kernel
theorem d_Md_pattern_31 : decode c_Md_pattern 31 = .ok (.iadd, 1) := by decide +kernel
theorem d_Md_pattern_32 : decode c_Md_pattern 32 = .ok (.if_icmp .lt 5, 3) := by decide +kernel
theorem d_Md_pattern_35 : decode c_Md_pattern 35 = .ok (.iconst (-1), 1) := by decide +kernel
theorem d_Md_pattern_36 : decode c_Md_pattern 36 = .ok (.ireturn, 1) := by decide +kernel
theorem d_Md_pattern_37 : decode c_Md_pattern 37 = .ok (.iload_n 2, 1) := by decide +kernel
theorem d_Md_pattern_38 : decode c_Md_pattern 38 = .ok (.ifCond .ne 12, 3) := by decide +kernel
theorem d_Md_pattern_41 : decode c_Md_pattern 41 = .ok (.aload_n 0, 1) := by decide +kernel
theorem d_Md_pattern_42 : decode c_Md_pattern 42 = .ok (.getfield 81, 3) := by decide +kernel
theorem d_Md_pattern_45 : decode c_Md_pattern 45 = .ok (.iload_n 1, 1) := by decide +kernel
theorem d_Md_pattern_46 : decode c_Md_pattern 46 = .ok (.iaload, 1) := by decide +kernel
theorem d_Md_pattern_47 : decode c_Md_pattern 47 = .ok (.goto 45, 3) := by decide +kernel
theorem d_Md_pattern_50 : decode c_Md_pattern 50 = .ok (.iload_n 2, 1) := by decide +kernel
theorem d_Md_pattern_51 : decode c_Md_pattern 51 = .ok (.iconst 1, 1) := by decide +kernel
theorem d_Md_pattern_52 : decode c_Md_pattern 52 = .ok (.if_icmp .ne 13, 3) := by decide +kernel
theorem d_Md_pattern_55 : decode c_Md_pattern 55 = .ok (.aload_n 0, 1) := by decide +kernel
theorem d_Md_pattern_56 : decode c_Md_pattern 56 = .ok (.getfield 84, 3) := by decide +kernel
theorem d_Md_pattern_59 : decode c_Md_pattern 59 = .ok (.iload_n 1, 1) := by decide +kernel
theorem d_Md_pattern_60 : decode c_Md_pattern 60 = .ok (.laload, 1) := by decide +kernel
theorem d_Md_pattern_61 : decode c_Md_pattern 61 = .ok (.l2i, 1) := by decide +kernel
theorem d_Md_pattern_62 : decode c_Md_pattern 62 = .ok (.goto 30, 3) := by decide +kernel
theorem d_Md_pattern_65 : decode c_Md_pattern 65 = .ok (.iload_n 2, 1) := by decide +kernel
theorem d_Md_pattern_66 : decode c_Md_pattern 66 = .ok (.iconst 2, 1) := by decide +kernel
theorem d_Md_pattern_67 : decode c_Md_pattern 67 = .ok (.if_icmp .ne 12, 3) := by decide +kernel
theorem d_Md_pattern_70 : decode c_Md_pattern 70 = .ok (.aload_n 0, 1) := by decide +kernel
theorem d_Md_pattern_71 : decode c_Md_pattern 71 = .ok (.getfield 87, 3) := by decide +kernel
theorem d_Md_pattern_74 : decode c_Md_pattern 74 = .ok (.iload_n 1, 1) := by decide +kernel
theorem d_Md_pattern_75 : decode c_Md_pattern 75 = .ok (.iaload, 1) := by decide +kernel
theorem d_Md_pattern_76 : decode c_Md_pattern 76 = .ok (.goto 16, 3) := by decide +kernel
theorem d_Md_pattern_79 : decode c_Md_pattern 79 = .ok (.aload_n 0, 1) := by decide +kernel
theorem d_Md_pattern_80 : decode c_Md_pattern 80 = .ok (.getfield 90, 3) := by decide +kernel
theorem d_Md_pattern_83 : decode c_Md_pattern 83 = .ok (.bipush 60, 2) := by decide +kernel
theorem d_Md_pattern_85 : decode c_Md_pattern 85 = .ok (.iload_n 1, 1) := by decide +kernel
theorem d_Md_pattern_86 : decode c_Md_pattern 86 = .ok (.imul, 1) := by decide +kernel
theorem d_Md_pattern_87 : decode c_Md_pattern 87 = .ok (.iload_n 2, 1) := by decide +kernel
theorem d_Md_pattern_88 : decode c_Md_pattern 88 = .ok (.iadd, 1) := by decide +kernel
theorem d_Md_pattern_89 : decode c_Md_pattern 89 = .ok (.iconst 3, 1) := by decide +kernel
theorem d_Md_pattern_90 : decode c_Md_pattern 90 = .ok (.isub, 1) := by decide +kernel
theorem d_Md_pattern_91 : decode c_Md_pattern 91 = .ok (.iaload, 1) := by decide +kernel
theorem d_Md_pattern_92 : decode c_Md_pattern 92 = .ok (.ireturn, 1) := by decide +kernel
theorem d_Md_place_0 : decode c_Md_place 0 = .ok (.aload_n 0, 1) := by decide +kernel
theorem d_Md_place_1 : decode c_Md_place 1 = .ok (.iload_n 1, 1) := by decide +kernel
theorem d_Md_place_2 : decode c_Md_place 2 = .ok (.invokevirtual 154, 3) := by decide +kernel
theorem d_Md_place_5 : decode c_Md_place 5 = .ok (.ifCond .eq 44, 3) := by decide +kernel
theorem d_Md_place_8 : decode c_Md_place 8 = .ok (.lload_n 2, 1) := by decide +kernel
theorem d_Md_place_9 : decode c_Md_place 9 = .ok (.ldc2_w 220, 3) := by decide +kernel
theorem d_Md_place_12 : decode c_Md_place 12 = .ok (.ldc2_w 222, 3) := by decide +kernel
theorem d_Md_place_15 : decode c_Md_place 15 = .ok (.invokestatic 128, 3) := by decide +kernel
theorem d_Md_place_18 : decode c_Md_place 18 = .ok (.ifCond .eq 31, 3) := by decide +kernel
theorem d_Md_place_21 : decode c_Md_place 21 = .ok (.lload 4, 2) := by decide +kernel
theorem d_Md_place_23 : decode c_Md_place 23 = .ok (.ldc2_w 220, 3) := by decide +kernel
theorem d_Md_place_26 : decode c_Md_place 26 = .ok (.ldc2_w 222, 3) := by decide +kernel
theorem d_Md_place_29 : decode c_Md_place 29 = .ok (.invokestatic 128, 3) := by decide +kernel
theorem d_Md_place_32 : decode c_Md_place 32 = .ok (.ifCond .eq 17, 3) := by decide +kernel
theorem d_Md_place_35 : decode c_Md_place 35 = .ok (.lload 6, 2) := by decide +kernel
theorem d_Md_place_37 : decode c_Md_place 37 = .ok (.ldc2_w 220, 3) := by decide +kernel
theorem d_Md_place_40 : decode c_Md_place 40 = .ok (.ldc2_w 222, 3) := by decide +kernel
theorem d_Md_place_43 : decode c_Md_place 43 = .ok (.invokestatic 128, 3) := by decide +kernel
theorem d_Md_place_46 : decode c_Md_place 46 = .ok (.ifCond .ne 5, 3) := by decide +kernel
theorem d_Md_place_49 : decode c_Md_place 49 = .ok (.iconst 0, 1) := by decide +kernel
theorem d_Md_place_50 : decode c_Md_place 50 = .ok (.ireturn, 1) := by decide +kernel
theorem d_Md_place_51 : decode c_Md_place 51 = .ok (.aload_n 0, 1) := by decide +kernel
theorem d_Md_place_52 : decode c_Md_place 52 = .ok (.getfield 35, 3) := by decide +kernel
theorem d_Md_place_55 : decode c_Md_place 55 = .ok (.iload_n 1, 1) := by decide +kernel
theorem d_Md_place_56 : decode c_Md_place 56 = .ok (.iconst 1, 1) := by decide +kernel
theorem d_Md_place_57 : decode c_Md_place 57 = .ok (.bastore, 1) := by decide +kernel
theorem d_Md_place_58 : decode c_Md_place 58 = .ok (.aload_n 0, 1) := by decide +kernel
theorem d_Md_place_59 : decode c_Md_place 59 = .ok (.getfield 39, 3) := by decide +kernel
theorem d_Md_place_62 : decode c_Md_place 62 = .ok (.iload_n 1, 1) := by decide +kernel
theorem d_Md_place_63 : decode c_Md_place 63 = .ok (.lload_n 2, 1) := by decide +kernel
theorem d_Md_place_64 : decode c_Md_place 64 = .ok (.lastore, 1) := by decide +kernel
theorem d_Md_place_65 : decode c_Md_place 65 = .ok (.aload_n 0, 1) := by decide +kernel
theorem d_Md_place_66 : decode c_Md_place 66 = .ok (.getfield 42, 3) := by decide +kernel
theorem d_Md_place_69 : decode c_Md_place 69 = .ok (.iload_n 1, 1) := by decide +kernel
theorem d_Md_place_70 : decode c_Md_place 70 = .ok (.lload 4, 2) := by decide +kernel
theorem d_Md_place_72 : decode c_Md_place 72 = .ok (.lastore, 1) := by decide +kernel
theorem d_Md_place_73 : decode c_Md_place 73 = .ok (.aload_n 0, 1) := by decide +kernel
theorem d_Md_place_74 : decode c_Md_place 74 = .ok (.getfield 45, 3) := by decide +kernel
theorem d_Md_place_77 : decode c_Md_place 77 = .ok (.iload_n 1, 1) := by decide +kernel
theorem d_Md_place_78 : decode c_Md_place 78 = .ok (.lload 6, 2) := by decide +kernel
theorem d_Md_place_80 : decode c_Md_place 80 = .ok (.lastore, 1) := by decide +kernel
theorem d_Md_place_81 : decode c_Md_place 81 = .ok (.iconst 1, 1) := by decide +kernel
theorem d_Md_place_82 : decode c_Md_place 82 = .ok (.ireturn, 1) := by decide +kernel
theorem d_Md_isTold_0 : decode c_Md_isTold 0 = .ok (.iconst 1, 1) := by decide +kernel
theorem d_Md_isTold_1 : decode c_Md_isTold 1 = .ok (.istore_n 2, 1) := by decide +kernel
theorem d_Md_isTold_2 : decode c_Md_isTold 2 = .ok (.iconst 0, 1) := by decide +kernel
theorem d_Md_isTold_3 : decode c_Md_isTold 3 = .ok (.istore_n 3, 1) := by decide +kernel
theorem d_Md_isTold_4 : decode c_Md_isTold 4 = .ok (.iload_n 3, 1) := by decide +kernel
theorem d_Md_isTold_5 : decode c_Md_isTold 5 = .ok (.aload_n 0, 1) := by decide +kernel
theorem d_Md_isTold_6 : decode c_Md_isTold 6 = .ok (.getfield 13, 3) := by decide +kernel
theorem d_Md_isTold_9 : decode c_Md_isTold 9 = .ok (.aload_n 0, 1) := by decide +kernel
theorem d_Md_isTold_10 : decode c_Md_isTold 10 = .ok (.getfield 23, 3) := by decide +kernel
theorem d_Md_isTold_13 : decode c_Md_isTold 13 = .ok (.iload_n 1, 1) := by decide +kernel
theorem d_Md_isTold_14 : decode c_Md_isTold 14 = .ok (.iaload, 1) := by decide +kernel
theorem d_Md_isTold_15 : decode c_Md_isTold 15 = .ok (.iaload, 1) := by decide +kernel
theorem d_Md_isTold_16 : decode c_Md_isTold 16 = .ok (.if_icmp .ge 35, 3) := by decide +kernel
theorem d_Md_isTold_19 : decode c_Md_isTold 19 = .ok (.iload_n 2, 1) := by decide +kernel
theorem d_Md_isTold_20 : decode c_Md_isTold 20 = .ok (.ifCond .eq 23, 3) := by decide +kernel
theorem d_Md_isTold_23 : decode c_Md_isTold 23 = .ok (.aload_n 0, 1) := by decide +kernel
theorem d_Md_isTold_24 : decode c_Md_isTold 24 = .ok (.getfield 32, 3) := by decide +kernel
theorem d_Md_isTold_27 : decode c_Md_isTold 27 = .ok (.bipush 6, 2) := by decide +kernel
theorem d_Md_isTold_29 : decode c_Md_isTold 29 = .ok (.iload_n 1, 1) := by decide +kernel
theorem d_Md_isTold_30 : decode c_Md_isTold 30 = .ok (.imul, 1) := by decide +kernel
theorem d_Md_isTold_31 : decode c_Md_isTold 31 = .ok (.iload_n 3, 1) := by decide +kernel
theorem d_Md_isTold_32 : decode c_Md_isTold 32 = .ok (.iadd, 1) := by decide +kernel
theorem d_Md_isTold_33 : decode c_Md_isTold 33 = .ok (.laload, 1) := by decide +kernel
theorem d_Md_isTold_34 : decode c_Md_isTold 34 = .ok (.lconst 0, 1) := by decide +kernel
theorem d_Md_isTold_35 : decode c_Md_isTold 35 = .ok (.lcmp, 1) := by decide +kernel
theorem d_Md_isTold_36 : decode c_Md_isTold 36 = .ok (.ifCond .le 7, 3) := by decide +kernel
theorem d_Md_isTold_39 : decode c_Md_isTold 39 = .ok (.iconst 1, 1) := by decide +kernel
theorem d_Md_isTold_40 : decode c_Md_isTold 40 = .ok (.goto 4, 3) := by decide +kernel
theorem d_Md_isTold_43 : decode c_Md_isTold 43 = .ok (.iconst 0, 1) := by decide +kernel
theorem d_Md_isTold_44 : decode c_Md_isTold 44 = .ok (.istore_n 2, 1) := by decide +kernel
theorem d_Md_isTold_45 : decode c_Md_isTold 45 = .ok (.iinc 3 1, 3) := by decide +kernel
theorem d_Md_isTold_48 : decode c_Md_isTold 48 = .ok (.goto (-44), 3) := by decide +kernel
theorem d_Md_isTold_51 : decode c_Md_isTold 51 = .ok (.iload_n 2, 1) := by decide +kernel
theorem d_Md_isTold_52 : decode c_Md_isTold 52 = .ok (.ireturn, 1) := by decide +kernel
theorem d_Md_go_0 : decode c_Md_go 0 = .ok (.aload_n 0, 1) := by decide +kernel
theorem d_Md_go_1 : decode c_Md_go 1 = .ok (.getfield 96, 3) := by decide +kernel
theorem d_Md_go_4 : decode c_Md_go 4 = .ok (.aload_n 0, 1) := by decide +kernel
theorem d_Md_go_5 : decode c_Md_go 5 = .ok (.getfield 224, 3) := by decide +kernel
theorem d_Md_go_8 : decode c_Md_go 8 = .ok (.iload_n 1, 1) := by decide +kernel
theorem d_Md_go_9 : decode c_Md_go 9 = .ok (.ifCond .ne 7, 3) := by decide +kernel
theorem d_Md_go_12 : decode c_Md_go 12 = .ok (.lload_n 2, 1) := by decide +kernel
theorem d_Md_go_13 : decode c_Md_go 13 = .ok (.goto 14, 3) := by decide +kernel
theorem d_Md_go_16 : decode c_Md_go 16 = .ok (.iload_n 1, 1) := by decide +kernel
theorem d_Md_go_17 : decode c_Md_go 17 = .ok (.iconst 2, 1) := by decide +kernel
theorem d_Md_go_18 : decode c_Md_go 18 = .ok (.if_icmp .ne 8, 3) := by decide +kernel
theorem d_Md_go_21 : decode c_Md_go 21 = .ok (.lload_n 2, 1) := by decide +kernel
theorem d_Md_go_22 : decode c_Md_go 22 = .ok (.lneg, 1) := by decide +kernel
theorem d_Md_go_23 : decode c_Md_go 23 = .ok (.goto 4, 3) := by decide +kernel
theorem d_Md_go_26 : decode c_Md_go 26 = .ok (.lconst 0, 1) := by decide +kernel
theorem d_Md_go_27 : decode c_Md_go 27 = .ok (.lastore, 1) := by decide +kernel
theorem d_Md_go_28 : decode c_Md_go 28 = .ok (.aload_n 0, 1) := by decide +kernel
theorem d_Md_go_29 : decode c_Md_go 29 = .ok (.getfield 99, 3) := by decide +kernel
theorem d_Md_go_32 : decode c_Md_go 32 = .ok (.aload_n 0, 1) := by decide +kernel
theorem d_Md_go_33 : decode c_Md_go 33 = .ok (.getfield 224, 3) := by decide +kernel
theorem d_Md_go_36 : decode c_Md_go 36 = .ok (.iload_n 1, 1) := by decide +kernel
theorem d_Md_go_37 : decode c_Md_go 37 = .ok (.iconst 1, 1) := by decide +kernel
theorem d_Md_go_38 : decode c_Md_go 38 = .ok (.if_icmp .ne 7, 3) := by decide +kernel
theorem d_Md_go_41 : decode c_Md_go 41 = .ok (.lload_n 2, 1) := by decide +kernel
theorem d_Md_go_42 : decode c_Md_go 42 = .ok (.goto 14, 3) := by decide +kernel
theorem d_Md_go_45 : decode c_Md_go 45 = .ok (.iload_n 1, 1) := by decide +kernel
theorem d_Md_go_46 : decode c_Md_go 46 = .ok (.iconst 3, 1) := by decide +kernel
theorem d_Md_go_47 : decode c_Md_go 47 = .ok (.if_icmp .ne 8, 3) := by decide +kernel
theorem d_Md_go_50 : decode c_Md_go 50 = .ok (.lload_n 2, 1) := by decide +kernel
theorem d_Md_go_51 : decode c_Md_go 51 = .ok (.lneg, 1) := by decide +kernel
theorem d_Md_go_52 : decode c_Md_go 52 = .ok (.goto 4, 3) := by decide +kernel
theorem d_Md_go_55 : decode c_Md_go 55 = .ok (.lconst 0, 1) := by decide +kernel
theorem d_Md_go_56 : decode c_Md_go 56 = .ok (.lastore, 1) := by decide +kernel
theorem d_Md_go_57 : decode c_Md_go 57 = .ok (.aload_n 0, 1) := by decide +kernel
theorem d_Md_go_58 : decode c_Md_go 58 = .ok (.getfield 102, 3) := by decide +kernel
theorem d_Md_go_61 : decode c_Md_go 61 = .ok (.aload_n 0, 1) := by decide +kernel
theorem d_Md_go_62 : decode c_Md_go 62 = .ok (.getfield 224, 3) := by decide +kernel
theorem d_Md_go_65 : decode c_Md_go 65 = .ok (.iload 4, 2) := by decide +kernel
theorem d_Md_go_67 : decode c_Md_go 67 = .ok (.bastore, 1) := by decide +kernel
theorem d_Md_go_68 : decode c_Md_go 68 = .ok (.aload_n 0, 1) := by decide +kernel
theorem d_Md_go_69 : decode c_Md_go 69 = .ok (.dup, 1) := by decide +kernel
theorem d_Md_go_70 : decode c_Md_go 70 = .ok (.getfield 224, 3) := by decide +kernel
theorem d_Md_go_73 : decode c_Md_go 73 = .ok (.iconst 1, 1) := by decide +kernel
theorem d_Md_go_74 : decode c_Md_go 74 = .ok (.iadd, 1) := by decide +kernel
theorem d_Md_go_75 : decode c_Md_go 75 = .ok (.putfield 224, 3) := by decide +kernel
theorem d_Md_go_78 : decode c_Md_go 78 = .ok (.return_, 1) := by decide +kernel
theorem d_Md_draw_0 : decode c_Md_draw 0 = .ok (.aload_n 0, 1) := by decide +kernel
theorem d_Md_draw_1 : decode c_Md_draw 1 = .ok (.iconst 0, 1) := by decide +kernel
theorem d_Md_draw_2 : decode c_Md_draw 2 = .ok (.putfield 224, 3) := by decide +kernel
theorem d_Md_draw_5 : decode c_Md_draw 5 = .ok (.iconst 0, 1) := by decide +kernel
theorem d_Md_draw_6 : decode c_Md_draw 6 = .ok (.istore_n 2, 1) := by decide +kernel
theorem d_Md_draw_7 : decode c_Md_draw 7 = .ok (.iconst 0, 1) := by decide +kernel
theorem d_Md_draw_8 : decode c_Md_draw 8 = .ok (.istore_n 3, 1) := by decide +kernel
theorem d_Md_draw_9 : decode c_Md_draw 9 = .ok (.iload_n 3, 1) := by decide +kernel
theorem d_Md_draw_10 : decode c_Md_draw 10 = .ok (.aload_n 0, 1) := by decide +kernel
theorem d_Md_draw_11 : decode c_Md_draw 11 = .ok (.getfield 13, 3) := by decide +kernel
theorem d_Md_draw_14 : decode c_Md_draw 14 = .ok (.aload_n 0, 1) := by decide +kernel
theorem d_Md_draw_15 : decode c_Md_draw 15 = .ok (.getfield 23, 3) := by decide +kernel
theorem d_Md_draw_18 : decode c_Md_draw 18 = .ok (.iload_n 1, 1) := by decide +kernel
theorem d_Md_draw_19 : decode c_Md_draw 19 = .ok (.iaload, 1) := by decide +kernel
theorem d_Md_draw_20 : decode c_Md_draw 20 = .ok (.iaload, 1) := by decide +kernel
theorem d_Md_draw_21 : decode c_Md_draw 21 = .ok (.if_icmp .ge 117, 3) := by decide +kernel
theorem d_Md_draw_24 : decode c_Md_draw 24 = .ok (.iload_n 3, 1) := by decide +kernel
theorem d_Md_draw_25 : decode c_Md_draw 25 = .ok (.ifCond .ne 7, 3) := by decide +kernel
theorem d_Md_draw_28 : decode c_Md_draw 28 = .ok (.iconst 0, 1) := by decide +kernel
theorem d_Md_draw_29 : decode c_Md_draw 29 = .ok (.goto 21, 3) := by decide +kernel
theorem d_Md_draw_32 : decode c_Md_draw 32 = .ok (.aload_n 0, 1) := by decide +kernel
theorem d_Md_draw_33 : decode c_Md_draw 33 = .ok (.getfield 16, 3) := by decide +kernel
theorem d_Md_draw_36 : decode c_Md_draw 36 = .ok (.bipush 6, 2) := by decide +kernel
theorem d_Md_draw_38 : decode c_Md_draw 38 = .ok (.aload_n 0, 1) := by decide +kernel
theorem d_Md_draw_39 : decode c_Md_draw 39 = .ok (.getfield 23, 3) := by decide +kernel
theorem d_Md_draw_42 : decode c_Md_draw 42 = .ok (.iload_n 1, 1) := by decide +kernel
theorem d_Md_draw_43 : decode c_Md_draw 43 = .ok (.iaload, 1) := by decide +kernel
theorem d_Md_draw_44 : decode c_Md_draw 44 = .ok (.imul, 1) := by decide +kernel
theorem d_Md_draw_45 : decode c_Md_draw 45 = .ok (.iload_n 3, 1) := by decide +kernel
theorem d_Md_draw_46 : decode c_Md_draw 46 = .ok (.iadd, 1) := by decide +kernel
theorem d_Md_draw_47 : decode c_Md_draw 47 = .ok (.iconst 1, 1) := by decide +kernel
theorem d_Md_draw_48 : decode c_Md_draw 48 = .ok (.isub, 1) := by decide +kernel
theorem d_Md_draw_49 : decode c_Md_draw 49 = .ok (.iaload, 1) := by decide +kernel
theorem d_Md_draw_50 : decode c_Md_draw 50 = .ok (.istore 4, 2) := by decide +kernel
theorem d_Md_draw_52 : decode c_Md_draw 52 = .ok (.iload 4, 2) := by decide +kernel
theorem d_Md_draw_54 : decode c_Md_draw 54 = .ok (.iconst 3, 1) := by decide +kernel
theorem d_Md_draw_55 : decode c_Md_draw 55 = .ok (.if_icmp .ne 24, 3) := by decide +kernel
theorem d_Md_draw_58 : decode c_Md_draw 58 = .ok (.aload_n 0, 1) := by decide +kernel
theorem d_Md_draw_59 : decode c_Md_draw 59 = .ok (.iload_n 2, 1) := by decide +kernel
theorem d_Md_draw_60 : decode c_Md_draw 60 = .ok (.iconst 1, 1) := by decide +kernel
theorem d_Md_draw_61 : decode c_Md_draw 61 = .ok (.iadd, 1) := by decide +kernel
theorem d_Md_draw_62 : decode c_Md_draw 62 = .ok (.iconst 3, 1) := by decide +kernel
theorem d_Md_draw_63 : decode c_Md_draw 63 = .ok (.iand, 1) := by decide +kernel
theorem d_Md_draw_64 : decode c_Md_draw 64 = .ok (.ldc2_w 227, 3) := by decide +kernel
theorem d_Md_draw_67 : decode c_Md_draw 67 = .ok (.aload_n 0, 1) := by decide +kernel
theorem d_Md_draw_68 : decode c_Md_draw 68 = .ok (.getfield 26, 3) := by decide +kernel
theorem d_Md_draw_71 : decode c_Md_draw 71 = .ok (.iload_n 1, 1) := by decide +kernel
theorem d_Md_draw_72 : decode c_Md_draw 72 = .ok (.iaload, 1) := by decide +kernel
theorem d_Md_draw_73 : decode c_Md_draw 73 = .ok (.i2l, 1) := by decide +kernel
theorem d_Md_draw_74 : decode c_Md_draw 74 = .ok (.lmul, 1) := by decide +kernel
theorem d_Md_draw_75 : decode c_Md_draw 75 = .ok (.iconst 0, 1) := by decide +kernel
theorem d_Md_draw_76 : decode c_Md_draw 76 = .ok (.invokevirtual 229, 3) := by decide +kernel
theorem d_Md_draw_79 : decode c_Md_draw 79 = .ok (.iload_n 2, 1) := by decide +kernel
theorem d_Md_draw_80 : decode c_Md_draw 80 = .ok (.iload 4, 2) := by decide +kernel
theorem d_Md_draw_82 : decode c_Md_draw 82 = .ok (.iconst 1, 1) := by decide +kernel
theorem d_Md_draw_83 : decode c_Md_draw 83 = .ok (.if_icmp .ne 7, 3) := by decide +kernel
theorem d_Md_draw_86 : decode c_Md_draw 86 = .ok (.iconst 1, 1) := by decide +kernel
theorem d_Md_draw_87 : decode c_Md_draw 87 = .ok (.goto 24, 3) := by decide +kernel
theorem d_Md_draw_90 : decode c_Md_draw 90 = .ok (.iload 4, 2) := by decide +kernel
theorem d_Md_draw_92 : decode c_Md_draw 92 = .ok (.iconst 2, 1) := by decide +kernel
theorem d_Md_draw_93 : decode c_Md_draw 93 = .ok (.if_icmp .ne 7, 3) := by decide +kernel
theorem d_Md_draw_96 : decode c_Md_draw 96 = .ok (.iconst 3, 1) := by decide +kernel
theorem d_Md_draw_97 : decode c_Md_draw 97 = .ok (.goto 14, 3) := by decide +kernel
theorem d_Md_draw_100 : decode c_Md_draw 100 = .ok (.iload 4, 2) := by decide +kernel
theorem d_Md_draw_102 : decode c_Md_draw 102 = .ok (.iconst 3, 1) := by decide +kernel
theorem d_Md_draw_103 : decode c_Md_draw 103 = .ok (.if_icmp .ne 7, 3) := by decide +kernel
theorem d_Md_draw_106 : decode c_Md_draw 106 = .ok (.iconst 2, 1) := by decide +kernel
theorem d_Md_draw_107 : decode c_Md_draw 107 = .ok (.goto 4, 3) := by decide +kernel
theorem d_Md_draw_110 : decode c_Md_draw 110 = .ok (.iconst 0, 1) := by decide +kernel
theorem d_Md_draw_111 : decode c_Md_draw 111 = .ok (.iadd, 1) := by decide +kernel
theorem d_Md_draw_112 : decode c_Md_draw 112 = .ok (.iconst 3, 1) := by decide +kernel
theorem d_Md_draw_113 : decode c_Md_draw 113 = .ok (.iand, 1) := by decide +kernel
theorem d_Md_draw_114 : decode c_Md_draw 114 = .ok (.istore_n 2, 1) := by decide +kernel
theorem d_Md_draw_115 : decode c_Md_draw 115 = .ok (.aload_n 0, 1) := by decide +kernel
theorem d_Md_draw_116 : decode c_Md_draw 116 = .ok (.iload_n 2, 1) := by decide +kernel
theorem d_Md_draw_117 : decode c_Md_draw 117 = .ok (.aload_n 0, 1) := by decide +kernel
theorem d_Md_draw_118 : decode c_Md_draw 118 = .ok (.getfield 32, 3) := by decide +kernel
theorem d_Md_draw_121 : decode c_Md_draw 121 = .ok (.bipush 6, 2) := by decide +kernel
theorem d_Md_draw_123 : decode c_Md_draw 123 = .ok (.iload_n 1, 1) := by decide +kernel
theorem d_Md_draw_124 : decode c_Md_draw 124 = .ok (.imul, 1) := by decide +kernel
theorem d_Md_draw_125 : decode c_Md_draw 125 = .ok (.iload_n 3, 1) := by decide +kernel
theorem d_Md_draw_126 : decode c_Md_draw 126 = .ok (.iadd, 1) := by decide +kernel
theorem d_Md_draw_127 : decode c_Md_draw 127 = .ok (.laload, 1) := by decide +kernel
theorem d_Md_draw_128 : decode c_Md_draw 128 = .ok (.iconst 1, 1) := by decide +kernel
theorem d_Md_draw_129 : decode c_Md_draw 129 = .ok (.invokevirtual 229, 3) := by decide +kernel
theorem d_Md_draw_132 : decode c_Md_draw 132 = .ok (.iinc 3 1, 3) := by decide +kernel
theorem d_Md_draw_135 : decode c_Md_draw 135 = .ok (.goto (-126), 3) := by decide +kernel
theorem d_Md_draw_138 : decode c_Md_draw 138 = .ok (.return_, 1) := by decide +kernel
theorem d_Md_command_0 : decode c_Md_command 0 = .ok (.aload_n 0, 1) := by decide +kernel
theorem d_Md_command_1 : decode c_Md_command 1 = .ok (.iload_n 1, 1) := by decide +kernel
theorem d_Md_command_2 : decode c_Md_command 2 = .ok (.invokevirtual 154, 3) := by decide +kernel
theorem d_Md_command_5 : decode c_Md_command 5 = .ok (.ifCond .eq 11, 3) := by decide +kernel
theorem d_Md_command_8 : decode c_Md_command 8 = .ok (.aload_n 0, 1) := by decide +kernel
theorem d_Md_command_9 : decode c_Md_command 9 = .ok (.iload_n 1, 1) := by decide +kernel
theorem d_Md_command_10 : decode c_Md_command 10 = .ok (.invokevirtual 233, 3) := by decide +kernel
theorem d_Md_command_13 : decode c_Md_command 13 = .ok (.ifCond .ne 5, 3) := by decide +kernel
theorem d_Md_command_16 : decode c_Md_command 16 = .ok (.iconst (-1), 1) := by decide +kernel
theorem d_Md_command_17 : decode c_Md_command 17 = .ok (.ireturn, 1) := by decide +kernel
theorem d_Md_command_18 : decode c_Md_command 18 = .ok (.aload_n 0, 1) := by decide +kernel
theorem d_Md_command_19 : decode c_Md_command 19 = .ok (.iload_n 1, 1) := by decide +kernel
theorem d_Md_command_20 : decode c_Md_command 20 = .ok (.invokevirtual 236, 3) := by decide +kernel
theorem d_Md_command_23 : decode c_Md_command 23 = .ok (.iload_n 2, 1) := by decide +kernel
theorem d_Md_command_24 : decode c_Md_command 24 = .ok (.ifCond .lt 13, 3) := by decide +kernel
theorem d_Md_command_27 : decode c_Md_command 27 = .ok (.iload_n 2, 1) := by decide +kernel
theorem d_Md_command_28 : decode c_Md_command 28 = .ok (.iconst 2, 1) := by decide +kernel
theorem d_Md_command_29 : decode c_Md_command 29 = .ok (.aload_n 0, 1) := by decide +kernel
theorem d_Md_command_30 : decode c_Md_command 30 = .ok (.getfield 224, 3) := by decide +kernel
theorem d_Md_command_33 : decode c_Md_command 33 = .ok (.imul, 1) := by decide +kernel
theorem d_Md_command_34 : decode c_Md_command 34 = .ok (.if_icmp .lt 5, 3) := by decide +kernel
theorem d_Md_command_37 : decode c_Md_command 37 = .ok (.iconst (-1), 1) := by decide +kernel
theorem d_Md_command_38 : decode c_Md_command 38 = .ok (.ireturn, 1) := by decide +kernel
theorem d_Md_command_39 : decode c_Md_command 39 = .ok (.iload_n 2, 1) := by decide +kernel
theorem d_Md_command_40 : decode c_Md_command 40 = .ok (.iconst 2, 1) := by decide +kernel
theorem d_Md_command_41 : decode c_Md_command 41 = .ok (.irem, 1) := by decide +kernel
theorem d_Md_command_42 : decode c_Md_command 42 = .ok (.ifCond .ne 14, 3) := by decide +kernel
theorem d_Md_command_45 : decode c_Md_command 45 = .ok (.aload_n 0, 1) := by decide +kernel
theorem d_Md_command_46 : decode c_Md_command 46 = .ok (.getfield 96, 3) := by decide +kernel
theorem d_Md_command_49 : decode c_Md_command 49 = .ok (.iload_n 2, 1) := by decide +kernel
theorem d_Md_command_50 : decode c_Md_command 50 = .ok (.iconst 2, 1) := by decide +kernel
theorem d_Md_command_51 : decode c_Md_command 51 = .ok (.idiv, 1) := by decide +kernel
theorem d_Md_command_52 : decode c_Md_command 52 = .ok (.laload, 1) := by decide +kernel
theorem d_Md_command_53 : decode c_Md_command 53 = .ok (.goto 11, 3) := by decide +kernel
theorem d_Md_command_56 : decode c_Md_command 56 = .ok (.aload_n 0, 1) := by decide +kernel
theorem d_Md_command_57 : decode c_Md_command 57 = .ok (.getfield 99, 3) := by decide +kernel
theorem d_Md_command_60 : decode c_Md_command 60 = .ok (.iload_n 2, 1) := by decide +kernel
theorem d_Md_command_61 : decode c_Md_command 61 = .ok (.iconst 2, 1) := by decide +kernel
theorem d_Md_command_62 : decode c_Md_command 62 = .ok (.idiv, 1) := by decide +kernel
theorem d_Md_command_63 : decode c_Md_command 63 = .ok (.laload, 1) := by decide +kernel
theorem d_Md_command_64 : decode c_Md_command 64 = .ok (.l2i, 1) := by decide +kernel
theorem d_Md_command_65 : decode c_Md_command 65 = .ok (.ireturn, 1) := by decide +kernel
theorem d_Md_stretches_0 : decode c_Md_stretches 0 = .ok (.aload_n 0, 1) := by decide +kernel
theorem d_Md_stretches_1 : decode c_Md_stretches 1 = .ok (.iload_n 1, 1) := by decide +kernel
theorem d_Md_stretches_2 : decode c_Md_stretches 2 = .ok (.invokevirtual 236, 3) := by decide +kernel
theorem d_Md_stretches_5 : decode c_Md_stretches 5 = .ok (.aload_n 0, 1) := by decide +kernel
theorem d_Md_stretches_6 : decode c_Md_stretches 6 = .ok (.getfield 39, 3) := by decide +kernel
theorem d_Md_stretches_9 : decode c_Md_stretches 9 = .ok (.iload_n 1, 1) := by decide +kernel
theorem d_Md_stretches_10 : decode c_Md_stretches 10 = .ok (.laload, 1) := by decide +kernel
theorem d_Md_stretches_11 : decode c_Md_stretches 11 = .ok (.lstore_n 3, 1) := by decide +kernel
theorem d_Md_stretches_12 : decode c_Md_stretches 12 = .ok (.aload_n 0, 1) := by decide +kernel
theorem d_Md_stretches_13 : decode c_Md_stretches 13 = .ok (.getfield 42, 3) := by decide +kernel
theorem d_Md_stretches_16 : decode c_Md_stretches 16 = .ok (.iload_n 1, 1) := by decide +kernel
theorem d_Md_stretches_17 : decode c_Md_stretches 17 = .ok (.laload, 1) := by decide +kernel
theorem d_Md_stretches_18 : decode c_Md_stretches 18 = .ok (.lstore 5, 2) := by decide +kernel
theorem d_Md_stretches_20 : decode c_Md_stretches 20 = .ok (.iconst 0, 1) := by decide +kernel
theorem d_Md_stretches_21 : decode c_Md_stretches 21 = .ok (.istore 7, 2) := by decide +kernel
theorem d_Md_stretches_23 : decode c_Md_stretches 23 = .ok (.iconst 0, 1) := by decide +kernel
theorem d_Md_stretches_24 : decode c_Md_stretches 24 = .ok (.istore 8, 2) := by decide +kernel
theorem d_Md_stretches_26 : decode c_Md_stretches 26 = .ok (.iload 8, 2) := by decide +kernel
theorem d_Md_stretches_28 : decode c_Md_stretches 28 = .ok (.aload_n 0, 1) := by decide +kernel
theorem d_Md_stretches_29 : decode c_Md_stretches 29 = .ok (.getfield 224, 3) := by decide +kernel
theorem d_Md_stretches_32 : decode c_Md_stretches 32 = .ok (.if_icmp .ge 144, 3) := by decide +kernel
theorem d_Md_stretches_35 : decode c_Md_stretches 35 = .ok (.lload_n 3, 1) := by decide +kernel
theorem d_Md_stretches_36 : decode c_Md_stretches 36 = .ok (.aload_n 0, 1) := by decide +kernel
theorem d_Md_stretches_37 : decode c_Md_stretches 37 = .ok (.getfield 96, 3) := by decide +kernel
theorem d_Md_stretches_40 : decode c_Md_stretches 40 = .ok (.iload 8, 2) := by decide +kernel
theorem d_Md_stretches_42 : decode c_Md_stretches 42 = .ok (.laload, 1) := by decide +kernel
theorem d_Md_stretches_43 : decode c_Md_stretches 43 = .ok (.ladd, 1) := by decide +kernel
theorem d_Md_stretches_44 : decode c_Md_stretches 44 = .ok (.lstore 9, 2) := by decide +kernel
theorem d_Md_stretches_46 : decode c_Md_stretches 46 = .ok (.lload 5, 2) := by decide +kernel
theorem d_Md_stretches_48 : decode c_Md_stretches 48 = .ok (.aload_n 0, 1) := by decide +kernel
theorem d_Md_stretches_49 : decode c_Md_stretches 49 = .ok (.getfield 99, 3) := by decide +kernel
theorem d_Md_stretches_52 : decode c_Md_stretches 52 = .ok (.iload 8, 2) := by decide +kernel
theorem d_Md_stretches_54 : decode c_Md_stretches 54 = .ok (.laload, 1) := by decide +kernel
theorem d_Md_stretches_55 : decode c_Md_stretches 55 = .ok (.ladd, 1) := by decide +kernel
theorem d_Md_stretches_56 : decode c_Md_stretches 56 = .ok (.lstore 11, 2) := by decide +kernel
theorem d_Md_stretches_58 : decode c_Md_stretches 58 = .ok (.aload_n 0, 1) := by decide +kernel
theorem d_Md_stretches_59 : decode c_Md_stretches 59 = .ok (.getfield 102, 3) := by decide +kernel
theorem d_Md_stretches_62 : decode c_Md_stretches 62 = .ok (.iload 8, 2) := by decide +kernel
theorem d_Md_stretches_64 : decode c_Md_stretches 64 = .ok (.baload, 1) := by decide +kernel
theorem d_Md_stretches_65 : decode c_Md_stretches 65 = .ok (.ifCond .eq 98, 3) := by decide +kernel
theorem d_Md_stretches_68 : decode c_Md_stretches 68 = .ok (.aload_n 0, 1) := by decide +kernel
theorem d_Md_stretches_69 : decode c_Md_stretches 69 = .ok (.getfield 105, 3) := by decide +kernel
theorem d_Md_stretches_72 : decode c_Md_stretches 72 = .ok (.iload_n 2, 1) := by decide +kernel
theorem d_Md_stretches_73 : decode c_Md_stretches 73 = .ok (.iload 7, 2) := by decide +kernel
theorem d_Md_stretches_75 : decode c_Md_stretches 75 = .ok (.iadd, 1) := by decide +kernel
theorem d_Md_stretches_76 : decode c_Md_stretches 76 = .ok (.lload_n 3, 1) := by decide +kernel
theorem d_Md_stretches_77 : decode c_Md_stretches 77 = .ok (.lload 9, 2) := by decide +kernel
theorem d_Md_stretches_79 : decode c_Md_stretches 79 = .ok (.lcmp, 1) := by decide +kernel
theorem d_Md_stretches_80 : decode c_Md_stretches 80 = .ok (.ifCond .ge 7, 3) := by decide +kernel
theorem d_Md_stretches_83 : decode c_Md_stretches 83 = .ok (.lload_n 3, 1) := by decide +kernel
theorem d_Md_stretches_84 : decode c_Md_stretches 84 = .ok (.goto 5, 3) := by decide +kernel
theorem d_Md_stretches_87 : decode c_Md_stretches 87 = .ok (.lload 9, 2) := by decide +kernel
theorem d_Md_stretches_89 : decode c_Md_stretches 89 = .ok (.lastore, 1) := by decide +kernel
theorem d_Md_stretches_90 : decode c_Md_stretches 90 = .ok (.aload_n 0, 1) := by decide +kernel
theorem d_Md_stretches_91 : decode c_Md_stretches 91 = .ok (.getfield 108, 3) := by decide +kernel
theorem d_Md_stretches_94 : decode c_Md_stretches 94 = .ok (.iload_n 2, 1) := by decide +kernel
theorem d_Md_stretches_95 : decode c_Md_stretches 95 = .ok (.iload 7, 2) := by decide +kernel
theorem d_Md_stretches_97 : decode c_Md_stretches 97 = .ok (.iadd, 1) := by decide +kernel
theorem d_Md_stretches_98 : decode c_Md_stretches 98 = .ok (.lload_n 3, 1) := by decide +kernel
theorem d_Md_stretches_99 : decode c_Md_stretches 99 = .ok (.lload 9, 2) := by decide +kernel
theorem d_Md_stretches_101 : decode c_Md_stretches 101 = .ok (.lcmp, 1) := by decide +kernel
theorem d_Md_stretches_102 : decode c_Md_stretches 102 = .ok (.ifCond .ge 8, 3) := by decide +kernel
theorem d_Md_stretches_105 : decode c_Md_stretches 105 = .ok (.lload 9, 2) := by decide +kernel
theorem d_Md_stretches_107 : decode c_Md_stretches 107 = .ok (.goto 4, 3) := by decide +kernel
theorem d_Md_stretches_110 : decode c_Md_stretches 110 = .ok (.lload_n 3, 1) := by decide +kernel
theorem d_Md_stretches_111 : decode c_Md_stretches 111 = .ok (.lastore, 1) := by decide +kernel
theorem d_Md_stretches_112 : decode c_Md_stretches 112 = .ok (.aload_n 0, 1) := by decide +kernel
theorem d_Md_stretches_113 : decode c_Md_stretches 113 = .ok (.getfield 111, 3) := by decide +kernel
theorem d_Md_stretches_116 : decode c_Md_stretches 116 = .ok (.iload_n 2, 1) := by decide +kernel
theorem d_Md_stretches_117 : decode c_Md_stretches 117 = .ok (.iload 7, 2) := by decide +kernel
theorem d_Md_stretches_119 : decode c_Md_stretches 119 = .ok (.iadd, 1) := by decide +kernel
theorem d_Md_stretches_120 : decode c_Md_stretches 120 = .ok (.lload 5, 2) := by decide +kernel
theorem d_Md_stretches_122 : decode c_Md_stretches 122 = .ok (.lload 11, 2) := by decide +kernel
theorem d_Md_stretches_124 : decode c_Md_stretches 124 = .ok (.lcmp, 1) := by decide +kernel
theorem d_Md_stretches_125 : decode c_Md_stretches 125 = .ok (.ifCond .ge 8, 3) := by decide +kernel
theorem d_Md_stretches_128 : decode c_Md_stretches 128 = .ok (.lload 5, 2) := by decide +kernel
theorem d_Md_stretches_130 : decode c_Md_stretches 130 = .ok (.goto 5, 3) := by decide +kernel
theorem d_Md_stretches_133 : decode c_Md_stretches 133 = .ok (.lload 11, 2) := by decide +kernel
theorem d_Md_stretches_135 : decode c_Md_stretches 135 = .ok (.lastore, 1) := by decide +kernel
theorem d_Md_stretches_136 : decode c_Md_stretches 136 = .ok (.aload_n 0, 1) := by decide +kernel
theorem d_Md_stretches_137 : decode c_Md_stretches 137 = .ok (.getfield 114, 3) := by decide +kernel
theorem d_Md_stretches_140 : decode c_Md_stretches 140 = .ok (.iload_n 2, 1) := by decide +kernel
theorem d_Md_stretches_141 : decode c_Md_stretches 141 = .ok (.iload 7, 2) := by decide +kernel
theorem d_Md_stretches_143 : decode c_Md_stretches 143 = .ok (.iadd, 1) := by decide +kernel
theorem d_Md_stretches_144 : decode c_Md_stretches 144 = .ok (.lload 5, 2) := by decide +kernel
theorem d_Md_stretches_146 : decode c_Md_stretches 146 = .ok (.lload 11, 2) := by decide +kernel
theorem d_Md_stretches_148 : decode c_Md_stretches 148 = .ok (.lcmp, 1) := by decide +kernel
theorem d_Md_stretches_149 : decode c_Md_stretches 149 = .ok (.ifCond .ge 8, 3) := by decide +kernel
theorem d_Md_stretches_152 : decode c_Md_stretches 152 = .ok (.lload 11, 2) := by decide +kernel
theorem d_Md_stretches_154 : decode c_Md_stretches 154 = .ok (.goto 5, 3) := by decide +kernel
theorem d_Md_stretches_157 : decode c_Md_stretches 157 = .ok (.lload 5, 2) := by decide +kernel
theorem d_Md_stretches_159 : decode c_Md_stretches 159 = .ok (.lastore, 1) := by decide +kernel
theorem d_Md_stretches_160 : decode c_Md_stretches 160 = .ok (.iinc 7 1, 3) := by decide +kernel
theorem d_Md_stretches_163 : decode c_Md_stretches 163 = .ok (.lload 9, 2) := by decide +kernel
theorem d_Md_stretches_165 : decode c_Md_stretches 165 = .ok (.lstore_n 3, 1) := by decide +kernel
theorem d_Md_stretches_166 : decode c_Md_stretches 166 = .ok (.lload 11, 2) := by decide +kernel
theorem d_Md_stretches_168 : decode c_Md_stretches 168 = .ok (.lstore 5, 2) := by decide +kernel
theorem d_Md_stretches_170 : decode c_Md_stretches 170 = .ok (.iinc 8 1, 3) := by decide +kernel
theorem d_Md_stretches_173 : decode c_Md_stretches 173 = .ok (.goto (-147), 3) := by decide +kernel
theorem d_Md_stretches_176 : decode c_Md_stretches 176 = .ok (.iload 7, 2) := by decide +kernel
theorem d_Md_stretches_178 : decode c_Md_stretches 178 = .ok (.ireturn, 1) := by decide +kernel
theorem d_Md_gap_0 : decode c_Md_gap 0 = .ok (.lload 4, 2) := by decide +kernel
theorem d_Md_gap_2 : decode c_Md_gap 2 = .ok (.lload_n 2, 1) := by decide +kernel
theorem d_Md_gap_3 : decode c_Md_gap 3 = .ok (.lcmp, 1) := by decide +kernel
theorem d_Md_gap_4 : decode c_Md_gap 4 = .ok (.ifCond .le 10, 3) := by decide +kernel
theorem d_Md_gap_7 : decode c_Md_gap 7 = .ok (.lload 4, 2) := by decide +kernel
theorem d_Md_gap_9 : decode c_Md_gap 9 = .ok (.lload_n 2, 1) := by decide +kernel
theorem d_Md_gap_10 : decode c_Md_gap 10 = .ok (.lsub, 1) := by decide +kernel
theorem d_Md_gap_11 : decode c_Md_gap 11 = .ok (.goto 18, 3) := by decide +kernel
theorem d_Md_gap_14 : decode c_Md_gap 14 = .ok (.lload_n 0, 1) := by decide +kernel
theorem d_Md_gap_15 : decode c_Md_gap 15 = .ok (.lload 6, 2) := by decide +kernel
theorem d_Md_gap_17 : decode c_Md_gap 17 = .ok (.lcmp, 1) := by decide +kernel
theorem d_Md_gap_18 : decode c_Md_gap 18 = .ok (.ifCond .le 10, 3) := by decide +kernel
theorem d_Md_gap_21 : decode c_Md_gap 21 = .ok (.lload_n 0, 1) := by decide +kernel
theorem d_Md_gap_22 : decode c_Md_gap 22 = .ok (.lload 6, 2) := by decide +kernel
theorem d_Md_gap_24 : decode c_Md_gap 24 = .ok (.lsub, 1) := by decide +kernel
theorem d_Md_gap_25 : decode c_Md_gap 25 = .ok (.goto 4, 3) := by decide +kernel
theorem d_Md_gap_28 : decode c_Md_gap 28 = .ok (.lconst 0, 1) := by decide +kernel
theorem d_Md_gap_29 : decode c_Md_gap 29 = .ok (.lreturn, 1) := by decide +kernel
theorem d_Md_clash_0 : decode c_Md_clash 0 = .ok (.aload_n 0, 1) := by decide +kernel
theorem d_Md_clash_1 : decode c_Md_clash 1 = .ok (.iload_n 1, 1) := by decide +kernel
theorem d_Md_clash_2 : decode c_Md_clash 2 = .ok (.invokevirtual 154, 3) := by decide +kernel
theorem d_Md_clash_5 : decode c_Md_clash 5 = .ok (.ifCond .eq 50, 3) := by decide +kernel
theorem d_Md_clash_8 : decode c_Md_clash 8 = .ok (.aload_n 0, 1) := by decide +kernel
theorem d_Md_clash_9 : decode c_Md_clash 9 = .ok (.iload_n 2, 1) := by decide +kernel
theorem d_Md_clash_10 : decode c_Md_clash 10 = .ok (.invokevirtual 154, 3) := by decide +kernel
theorem d_Md_clash_13 : decode c_Md_clash 13 = .ok (.ifCond .eq 42, 3) := by decide +kernel
theorem d_Md_clash_16 : decode c_Md_clash 16 = .ok (.iload_n 1, 1) := by decide +kernel
theorem d_Md_clash_17 : decode c_Md_clash 17 = .ok (.iload_n 2, 1) := by decide +kernel
theorem d_Md_clash_18 : decode c_Md_clash 18 = .ok (.if_icmp .eq 37, 3) := by decide +kernel
theorem d_Md_clash_21 : decode c_Md_clash 21 = .ok (.aload_n 0, 1) := by decide +kernel
theorem d_Md_clash_22 : decode c_Md_clash 22 = .ok (.getfield 35, 3) := by decide +kernel
theorem d_Md_clash_25 : decode c_Md_clash 25 = .ok (.iload_n 1, 1) := by decide +kernel
theorem d_Md_clash_26 : decode c_Md_clash 26 = .ok (.baload, 1) := by decide +kernel
theorem d_Md_clash_27 : decode c_Md_clash 27 = .ok (.ifCond .eq 28, 3) := by decide +kernel
theorem d_Md_clash_30 : decode c_Md_clash 30 = .ok (.aload_n 0, 1) := by decide +kernel
theorem d_Md_clash_31 : decode c_Md_clash 31 = .ok (.getfield 35, 3) := by decide +kernel
theorem d_Md_clash_34 : decode c_Md_clash 34 = .ok (.iload_n 2, 1) := by decide +kernel
theorem d_Md_clash_35 : decode c_Md_clash 35 = .ok (.baload, 1) := by decide +kernel
theorem d_Md_clash_36 : decode c_Md_clash 36 = .ok (.ifCond .eq 19, 3) := by decide +kernel
theorem d_Md_clash_39 : decode c_Md_clash 39 = .ok (.aload_n 0, 1) := by decide +kernel
theorem d_Md_clash_40 : decode c_Md_clash 40 = .ok (.iload_n 1, 1) := by decide +kernel
theorem d_Md_clash_41 : decode c_Md_clash 41 = .ok (.invokevirtual 233, 3) := by decide +kernel
theorem d_Md_clash_44 : decode c_Md_clash 44 = .ok (.ifCond .eq 11, 3) := by decide +kernel
theorem d_Md_clash_47 : decode c_Md_clash 47 = .ok (.aload_n 0, 1) := by decide +kernel
theorem d_Md_clash_48 : decode c_Md_clash 48 = .ok (.iload_n 2, 1) := by decide +kernel
theorem d_Md_clash_49 : decode c_Md_clash 49 = .ok (.invokevirtual 233, 3) := by decide +kernel
theorem d_Md_clash_52 : decode c_Md_clash 52 = .ok (.ifCond .ne 5, 3) := by decide +kernel
theorem d_Md_clash_55 : decode c_Md_clash 55 = .ok (.iconst (-1), 1) := by decide +kernel
theorem d_Md_clash_56 : decode c_Md_clash 56 = .ok (.ireturn, 1) := by decide +kernel
theorem d_Md_clash_57 : decode c_Md_clash 57 = .ok (.aload_n 0, 1) := by decide +kernel
theorem d_Md_clash_58 : decode c_Md_clash 58 = .ok (.iload_n 1, 1) := by decide +kernel
theorem d_Md_clash_59 : decode c_Md_clash 59 = .ok (.iconst 0, 1) := by decide +kernel
theorem d_Md_clash_60 : decode c_Md_clash 60 = .ok (.invokevirtual 239, 3) := by decide +kernel
theorem d_Md_clash_63 : decode c_Md_clash 63 = .ok (.istore_n 3, 1) := by decide +kernel
theorem d_Md_clash_64 : decode c_Md_clash 64 = .ok (.aload_n 0, 1) := by decide +kernel
theorem d_Md_clash_65 : decode c_Md_clash 65 = .ok (.iload_n 2, 1) := by decide +kernel
theorem d_Md_clash_66 : decode c_Md_clash 66 = .ok (.bipush 6, 2) := by decide +kernel
theorem d_Md_clash_68 : decode c_Md_clash 68 = .ok (.invokevirtual 239, 3) := by decide +kernel
theorem d_Md_clash_71 : decode c_Md_clash 71 = .ok (.istore 4, 2) := by decide +kernel
theorem d_Md_clash_73 : decode c_Md_clash 73 = .ok (.aload_n 0, 1) := by decide +kernel
theorem d_Md_clash_74 : decode c_Md_clash 74 = .ok (.getfield 45, 3) := by decide +kernel
theorem d_Md_clash_77 : decode c_Md_clash 77 = .ok (.iload_n 1, 1) := by decide +kernel
theorem d_Md_clash_78 : decode c_Md_clash 78 = .ok (.laload, 1) := by decide +kernel
theorem d_Md_clash_79 : decode c_Md_clash 79 = .ok (.aload_n 0, 1) := by decide +kernel
theorem d_Md_clash_80 : decode c_Md_clash 80 = .ok (.getfield 45, 3) := by decide +kernel
theorem d_Md_clash_83 : decode c_Md_clash 83 = .ok (.iload_n 2, 1) := by decide +kernel
theorem d_Md_clash_84 : decode c_Md_clash 84 = .ok (.laload, 1) := by decide +kernel
theorem d_Md_clash_85 : decode c_Md_clash 85 = .ok (.lsub, 1) := by decide +kernel
theorem d_Md_clash_86 : decode c_Md_clash 86 = .ok (.lstore 5, 2) := by decide +kernel
theorem d_Md_clash_88 : decode c_Md_clash 88 = .ok (.aload_n 0, 1) := by decide +kernel
theorem d_Md_clash_89 : decode c_Md_clash 89 = .ok (.getfield 26, 3) := by decide +kernel
theorem d_Md_clash_92 : decode c_Md_clash 92 = .ok (.iload_n 1, 1) := by decide +kernel
theorem d_Md_clash_93 : decode c_Md_clash 93 = .ok (.iaload, 1) := by decide +kernel
theorem d_Md_clash_94 : decode c_Md_clash 94 = .ok (.aload_n 0, 1) := by decide +kernel
theorem d_Md_clash_95 : decode c_Md_clash 95 = .ok (.getfield 26, 3) := by decide +kernel
theorem d_Md_clash_98 : decode c_Md_clash 98 = .ok (.iload_n 2, 1) := by decide +kernel
theorem d_Md_clash_99 : decode c_Md_clash 99 = .ok (.iaload, 1) := by decide +kernel
theorem d_Md_clash_100 : decode c_Md_clash 100 = .ok (.iadd, 1) := by decide +kernel
theorem d_Md_clash_101 : decode c_Md_clash 101 = .ok (.i2l, 1) := by decide +kernel
theorem d_Md_clash_102 : decode c_Md_clash 102 = .ok (.lstore 7, 2) := by decide +kernel
theorem d_Md_clash_104 : decode c_Md_clash 104 = .ok (.iconst 0, 1) := by decide +kernel
theorem d_Md_clash_105 : decode c_Md_clash 105 = .ok (.istore 9, 2) := by decide +kernel
theorem d_Md_clash_107 : decode c_Md_clash 107 = .ok (.iconst 0, 1) := by decide +kernel
theorem d_Md_clash_108 : decode c_Md_clash 108 = .ok (.istore 10, 2) := by decide +kernel
theorem d_Md_clash_110 : decode c_Md_clash 110 = .ok (.iload 10, 2) := by decide +kernel
theorem d_Md_clash_112 : decode c_Md_clash 112 = .ok (.iload_n 3, 1) := by decide +kernel
theorem d_Md_clash_113 : decode c_Md_clash 113 = .ok (.if_icmp .ge 133, 3) := by decide +kernel
theorem d_Md_clash_116 : decode c_Md_clash 116 = .ok (.bipush 6, 2) := by decide +kernel
theorem d_Md_clash_118 : decode c_Md_clash 118 = .ok (.istore 11, 2) := by decide +kernel
theorem d_Md_clash_120 : decode c_Md_clash 120 = .ok (.iload 11, 2) := by decide +kernel
theorem d_Md_clash_122 : decode c_Md_clash 122 = .ok (.bipush 6, 2) := by decide +kernel
theorem d_Md_clash_124 : decode c_Md_clash 124 = .ok (.iload 4, 2) := by decide +kernel
theorem d_Md_clash_126 : decode c_Md_clash 126 = .ok (.iadd, 1) := by decide +kernel
theorem d_Md_clash_127 : decode c_Md_clash 127 = .ok (.if_icmp .ge 113, 3) := by decide +kernel
theorem d_Md_clash_130 : decode c_Md_clash 130 = .ok (.aload_n 0, 1) := by decide +kernel
theorem d_Md_clash_131 : decode c_Md_clash 131 = .ok (.getfield 105, 3) := by decide +kernel
theorem d_Md_clash_134 : decode c_Md_clash 134 = .ok (.iload 10, 2) := by decide +kernel
theorem d_Md_clash_136 : decode c_Md_clash 136 = .ok (.laload, 1) := by decide +kernel
theorem d_Md_clash_137 : decode c_Md_clash 137 = .ok (.aload_n 0, 1) := by decide +kernel
theorem d_Md_clash_138 : decode c_Md_clash 138 = .ok (.getfield 108, 3) := by decide +kernel
theorem d_Md_clash_141 : decode c_Md_clash 141 = .ok (.iload 10, 2) := by decide +kernel
theorem d_Md_clash_143 : decode c_Md_clash 143 = .ok (.laload, 1) := by decide +kernel
theorem d_Md_clash_144 : decode c_Md_clash 144 = .ok (.aload_n 0, 1) := by decide +kernel
theorem d_Md_clash_145 : decode c_Md_clash 145 = .ok (.getfield 105, 3) := by decide +kernel
theorem d_Md_clash_148 : decode c_Md_clash 148 = .ok (.iload 11, 2) := by decide +kernel
theorem d_Md_clash_150 : decode c_Md_clash 150 = .ok (.laload, 1) := by decide +kernel
theorem d_Md_clash_151 : decode c_Md_clash 151 = .ok (.aload_n 0, 1) := by decide +kernel
theorem d_Md_clash_152 : decode c_Md_clash 152 = .ok (.getfield 108, 3) := by decide +kernel
theorem d_Md_clash_155 : decode c_Md_clash 155 = .ok (.iload 11, 2) := by decide +kernel
theorem d_Md_clash_157 : decode c_Md_clash 157 = .ok (.laload, 1) := by decide +kernel
theorem d_Md_clash_158 : decode c_Md_clash 158 = .ok (.invokestatic 243, 3) := by decide +kernel
theorem d_Md_clash_161 : decode c_Md_clash 161 = .ok (.lstore 12, 2) := by decide +kernel
theorem d_Md_clash_163 : decode c_Md_clash 163 = .ok (.aload_n 0, 1) := by decide +kernel
theorem d_Md_clash_164 : decode c_Md_clash 164 = .ok (.getfield 111, 3) := by decide +kernel
theorem d_Md_clash_167 : decode c_Md_clash 167 = .ok (.iload 10, 2) := by decide +kernel
theorem d_Md_clash_169 : decode c_Md_clash 169 = .ok (.laload, 1) := by decide +kernel
theorem d_Md_clash_170 : decode c_Md_clash 170 = .ok (.aload_n 0, 1) := by decide +kernel
theorem d_Md_clash_171 : decode c_Md_clash 171 = .ok (.getfield 114, 3) := by decide +kernel
theorem d_Md_clash_174 : decode c_Md_clash 174 = .ok (.iload 10, 2) := by decide +kernel
theorem d_Md_clash_176 : decode c_Md_clash 176 = .ok (.laload, 1) := by decide +kernel
theorem d_Md_clash_177 : decode c_Md_clash 177 = .ok (.aload_n 0, 1) := by decide +kernel
theorem d_Md_clash_178 : decode c_Md_clash 178 = .ok (.getfield 111, 3) := by decide +kernel
theorem d_Md_clash_181 : decode c_Md_clash 181 = .ok (.iload 11, 2) := by decide +kernel
theorem d_Md_clash_183 : decode c_Md_clash 183 = .ok (.laload, 1) := by decide +kernel
theorem d_Md_clash_184 : decode c_Md_clash 184 = .ok (.aload_n 0, 1) := by decide +kernel
theorem d_Md_clash_185 : decode c_Md_clash 185 = .ok (.getfield 114, 3) := by decide +kernel
theorem d_Md_clash_188 : decode c_Md_clash 188 = .ok (.iload 11, 2) := by decide +kernel
theorem d_Md_clash_190 : decode c_Md_clash 190 = .ok (.laload, 1) := by decide +kernel
theorem d_Md_clash_191 : decode c_Md_clash 191 = .ok (.invokestatic 243, 3) := by decide +kernel
theorem d_Md_clash_194 : decode c_Md_clash 194 = .ok (.lstore 14, 2) := by decide +kernel
theorem d_Md_clash_196 : decode c_Md_clash 196 = .ok (.ldc2_w 142, 3) := by decide +kernel
theorem d_Md_clash_199 : decode c_Md_clash 199 = .ok (.lload 12, 2) := by decide +kernel
theorem d_Md_clash_201 : decode c_Md_clash 201 = .ok (.lload 12, 2) := by decide +kernel
theorem d_Md_clash_203 : decode c_Md_clash 203 = .ok (.lmul, 1) := by decide +kernel
theorem d_Md_clash_204 : decode c_Md_clash 204 = .ok (.lload 14, 2) := by decide +kernel
theorem d_Md_clash_206 : decode c_Md_clash 206 = .ok (.lload 14, 2) := by decide +kernel
theorem d_Md_clash_208 : decode c_Md_clash 208 = .ok (.lmul, 1) := by decide +kernel
theorem d_Md_clash_209 : decode c_Md_clash 209 = .ok (.ladd, 1) := by decide +kernel
theorem d_Md_clash_210 : decode c_Md_clash 210 = .ok (.lload 5, 2) := by decide +kernel
theorem d_Md_clash_212 : decode c_Md_clash 212 = .ok (.lload 5, 2) := by decide +kernel
theorem d_Md_clash_214 : decode c_Md_clash 214 = .ok (.lmul, 1) := by decide +kernel
theorem d_Md_clash_215 : decode c_Md_clash 215 = .ok (.ladd, 1) := by decide +kernel
theorem d_Md_clash_216 : decode c_Md_clash 216 = .ok (.lmul, 1) := by decide +kernel
theorem d_Md_clash_217 : decode c_Md_clash 217 = .ok (.lload 7, 2) := by decide +kernel
theorem d_Md_clash_219 : decode c_Md_clash 219 = .ok (.lload 7, 2) := by decide +kernel
theorem d_Md_clash_221 : decode c_Md_clash 221 = .ok (.lmul, 1) := by decide +kernel
theorem d_Md_clash_222 : decode c_Md_clash 222 = .ok (.lcmp, 1) := by decide +kernel
theorem d_Md_clash_223 : decode c_Md_clash 223 = .ok (.ifCond .ge 7, 3) := by decide +kernel
theorem d_Md_clash_226 : decode c_Md_clash 226 = .ok (.iconst 1, 1) := by decide +kernel
theorem d_Md_clash_227 : decode c_Md_clash 227 = .ok (.goto 5, 3) := by decide +kernel
theorem d_Md_clash_230 : decode c_Md_clash 230 = .ok (.iload 9, 2) := by decide +kernel
theorem d_Md_clash_232 : decode c_Md_clash 232 = .ok (.istore 9, 2) := by decide +kernel
theorem d_Md_clash_234 : decode c_Md_clash 234 = .ok (.iinc 11 1, 3) := by decide +kernel
theorem d_Md_clash_237 : decode c_Md_clash 237 = .ok (.goto (-117), 3) := by decide +kernel
theorem d_Md_clash_240 : decode c_Md_clash 240 = .ok (.iinc 10 1, 3) := by decide +kernel
theorem d_Md_clash_243 : decode c_Md_clash 243 = .ok (.goto (-133), 3) := by decide +kernel
theorem d_Md_clash_246 : decode c_Md_clash 246 = .ok (.iload 9, 2) := by decide +kernel
theorem d_Md_clash_248 : decode c_Md_clash 248 = .ok (.ireturn, 1) := by decide +kernel
theorem d_Md_lap_0 : decode c_Md_lap 0 = .ok (.aload_n 0, 1) := by decide +kernel
theorem d_Md_lap_1 : decode c_Md_lap 1 = .ok (.iload_n 1, 1) := by decide +kernel
theorem d_Md_lap_2 : decode c_Md_lap 2 = .ok (.invokevirtual 154, 3) := by decide +kernel
theorem d_Md_lap_5 : decode c_Md_lap 5 = .ok (.ifCond .eq 14, 3) := by decide +kernel
theorem d_Md_lap_8 : decode c_Md_lap 8 = .ok (.lload_n 2, 1) := by decide +kernel
theorem d_Md_lap_9 : decode c_Md_lap 9 = .ok (.lconst 0, 1) := by decide +kernel
theorem d_Md_lap_10 : decode c_Md_lap 10 = .ok (.ldc2_w 247, 3) := by decide +kernel
theorem d_Md_lap_13 : decode c_Md_lap 13 = .ok (.invokestatic 128, 3) := by decide +kernel
theorem d_Md_lap_16 : decode c_Md_lap 16 = .ok (.ifCond .ne 5, 3) := by decide +kernel
theorem d_Md_lap_19 : decode c_Md_lap 19 = .ok (.iconst (-1), 1) := by decide +kernel
theorem d_Md_lap_20 : decode c_Md_lap 20 = .ok (.ireturn, 1) := by decide +kernel
theorem d_Md_lap_21 : decode c_Md_lap 21 = .ok (.aload_n 0, 1) := by decide +kernel
theorem d_Md_lap_22 : decode c_Md_lap 22 = .ok (.getfield 26, 3) := by decide +kernel
theorem d_Md_lap_25 : decode c_Md_lap 25 = .ok (.iload_n 1, 1) := by decide +kernel
theorem d_Md_lap_26 : decode c_Md_lap 26 = .ok (.iaload, 1) := by decide +kernel
theorem d_Md_lap_27 : decode c_Md_lap 27 = .ok (.istore 4, 2) := by decide +kernel
theorem d_Md_lap_29 : decode c_Md_lap 29 = .ok (.lconst 0, 1) := by decide +kernel
theorem d_Md_lap_30 : decode c_Md_lap 30 = .ok (.lstore 5, 2) := by decide +kernel
theorem d_Md_lap_32 : decode c_Md_lap 32 = .ok (.iconst 0, 1) := by decide +kernel
theorem d_Md_lap_33 : decode c_Md_lap 33 = .ok (.istore 7, 2) := by decide +kernel
theorem d_Md_lap_35 : decode c_Md_lap 35 = .ok (.iload 7, 2) := by decide +kernel
theorem d_Md_lap_37 : decode c_Md_lap 37 = .ok (.aload_n 0, 1) := by decide +kernel
theorem d_Md_lap_38 : decode c_Md_lap 38 = .ok (.getfield 48, 3) := by decide +kernel
theorem d_Md_lap_41 : decode c_Md_lap 41 = .ok (.iload 4, 2) := by decide +kernel
theorem d_Md_lap_43 : decode c_Md_lap 43 = .ok (.iaload, 1) := by decide +kernel
theorem d_Md_lap_44 : decode c_Md_lap 44 = .ok (.if_icmp .ge 40, 3) := by decide +kernel
theorem d_Md_lap_47 : decode c_Md_lap 47 = .ok (.aload_n 0, 1) := by decide +kernel
theorem d_Md_lap_48 : decode c_Md_lap 48 = .ok (.getfield 51, 3) := by decide +kernel
theorem d_Md_lap_51 : decode c_Md_lap 51 = .ok (.iconst 3, 1) := by decide +kernel
theorem d_Md_lap_52 : decode c_Md_lap 52 = .ok (.iload 4, 2) := by decide +kernel
theorem d_Md_lap_54 : decode c_Md_lap 54 = .ok (.imul, 1) := by decide +kernel
theorem d_Md_lap_55 : decode c_Md_lap 55 = .ok (.iload 7, 2) := by decide +kernel
theorem d_Md_lap_57 : decode c_Md_lap 57 = .ok (.iadd, 1) := by decide +kernel
theorem d_Md_lap_58 : decode c_Md_lap 58 = .ok (.laload, 1) := by decide +kernel
theorem d_Md_lap_59 : decode c_Md_lap 59 = .ok (.lstore 8, 2) := by decide +kernel
theorem d_Md_lap_61 : decode c_Md_lap 61 = .ok (.lload 8, 2) := by decide +kernel
theorem d_Md_lap_63 : decode c_Md_lap 63 = .ok (.lload 5, 2) := by decide +kernel
theorem d_Md_lap_65 : decode c_Md_lap 65 = .ok (.lcmp, 1) := by decide +kernel
theorem d_Md_lap_66 : decode c_Md_lap 66 = .ok (.ifCond .le 8, 3) := by decide +kernel
theorem d_Md_lap_69 : decode c_Md_lap 69 = .ok (.lload 8, 2) := by decide +kernel
theorem d_Md_lap_71 : decode c_Md_lap 71 = .ok (.goto 5, 3) := by decide +kernel
theorem d_Md_lap_74 : decode c_Md_lap 74 = .ok (.lload 5, 2) := by decide +kernel
theorem d_Md_lap_76 : decode c_Md_lap 76 = .ok (.lstore 5, 2) := by decide +kernel
theorem d_Md_lap_78 : decode c_Md_lap 78 = .ok (.iinc 7 1, 3) := by decide +kernel
theorem d_Md_lap_81 : decode c_Md_lap 81 = .ok (.goto (-46), 3) := by decide +kernel
theorem d_Md_lap_84 : decode c_Md_lap 84 = .ok (.lload 5, 2) := by decide +kernel
theorem d_Md_lap_86 : decode c_Md_lap 86 = .ok (.lconst 0, 1) := by decide +kernel
theorem d_Md_lap_87 : decode c_Md_lap 87 = .ok (.lcmp, 1) := by decide +kernel
theorem d_Md_lap_88 : decode c_Md_lap 88 = .ok (.ifCond .eq 10, 3) := by decide +kernel
theorem d_Md_lap_91 : decode c_Md_lap 91 = .ok (.lload_n 2, 1) := by decide +kernel
theorem d_Md_lap_92 : decode c_Md_lap 92 = .ok (.lload 5, 2) := by decide +kernel
theorem d_Md_lap_94 : decode c_Md_lap 94 = .ok (.lcmp, 1) := by decide +kernel
theorem d_Md_lap_95 : decode c_Md_lap 95 = .ok (.ifCond .lt 5, 3) := by decide +kernel
theorem d_Md_lap_98 : decode c_Md_lap 98 = .ok (.iconst (-1), 1) := by decide +kernel
theorem d_Md_lap_99 : decode c_Md_lap 99 = .ok (.ireturn, 1) := by decide +kernel
theorem d_Md_lap_100 : decode c_Md_lap 100 = .ok (.iconst 0, 1) := by decide +kernel
theorem d_Md_lap_101 : decode c_Md_lap 101 = .ok (.istore 7, 2) := by decide +kernel
theorem d_Md_lap_103 : decode c_Md_lap 103 = .ok (.iload 7, 2) := by decide +kernel
theorem d_Md_lap_105 : decode c_Md_lap 105 = .ok (.iconst 1, 1) := by decide +kernel
theorem d_Md_lap_106 : decode c_Md_lap 106 = .ok (.iadd, 1) := by decide +kernel
theorem d_Md_lap_107 : decode c_Md_lap 107 = .ok (.i2l, 1) := by decide +kernel
theorem d_Md_lap_108 : decode c_Md_lap 108 = .ok (.lload 5, 2) := by decide +kernel
theorem d_Md_lap_110 : decode c_Md_lap 110 = .ok (.lmul, 1) := by decide +kernel
theorem d_Md_lap_111 : decode c_Md_lap 111 = .ok (.iload 7, 2) := by decide +kernel
theorem d_Md_lap_113 : decode c_Md_lap 113 = .ok (.i2l, 1) := by decide +kernel
theorem d_Md_lap_114 : decode c_Md_lap 114 = .ok (.lload_n 2, 1) := by decide +kernel
theorem d_Md_lap_115 : decode c_Md_lap 115 = .ok (.lmul, 1) := by decide +kernel
theorem d_Md_lap_116 : decode c_Md_lap 116 = .ok (.lsub, 1) := by decide +kernel
theorem d_Md_lap_117 : decode c_Md_lap 117 = .ok (.aload_n 0, 1) := by decide +kernel
theorem d_Md_lap_118 : decode c_Md_lap 118 = .ok (.iload_n 1, 1) := by decide +kernel
theorem d_Md_lap_119 : decode c_Md_lap 119 = .ok (.invokevirtual 172, 3) := by decide +kernel
theorem d_Md_lap_122 : decode c_Md_lap 122 = .ok (.lcmp, 1) := by decide +kernel
theorem d_Md_lap_123 : decode c_Md_lap 123 = .ok (.ifCond .ge 9, 3) := by decide +kernel
theorem d_Md_lap_126 : decode c_Md_lap 126 = .ok (.iinc 7 1, 3) := by decide +kernel
theorem d_Md_lap_129 : decode c_Md_lap 129 = .ok (.goto (-26), 3) := by decide +kernel
theorem d_Md_lap_132 : decode c_Md_lap 132 = .ok (.iload 7, 2) := by decide +kernel
theorem d_Md_lap_134 : decode c_Md_lap 134 = .ok (.ireturn, 1) := by decide +kernel
theorem d_Md_weight_0 : decode c_Md_weight 0 = .ok (.aload_n 0, 1) := by decide +kernel
theorem d_Md_weight_1 : decode c_Md_weight 1 = .ok (.iload_n 1, 1) := by decide +kernel
theorem d_Md_weight_2 : decode c_Md_weight 2 = .ok (.invokevirtual 154, 3) := by decide +kernel
theorem d_Md_weight_5 : decode c_Md_weight 5 = .ok (.ifCond .eq 12, 3) := by decide +kernel
theorem d_Md_weight_8 : decode c_Md_weight 8 = .ok (.iload_n 2, 1) := by decide +kernel
theorem d_Md_weight_9 : decode c_Md_weight 9 = .ok (.ifCond .lt 8, 3) := by decide +kernel
theorem d_Md_weight_12 : decode c_Md_weight 12 = .ok (.iload_n 2, 1) := by decide +kernel
theorem d_Md_weight_13 : decode c_Md_weight 13 = .ok (.iconst 1, 1) := by decide +kernel
theorem d_Md_weight_14 : decode c_Md_weight 14 = .ok (.if_icmp .le 7, 3) := by decide +kernel
theorem d_Md_weight_17 : decode c_Md_weight 17 = .ok (.ldc2_w 170, 3) := by decide +kernel
theorem d_Md_weight_20 : decode c_Md_weight 20 = .ok (.lreturn, 1) := by decide +kernel
theorem d_Md_weight_21 : decode c_Md_weight 21 = .ok (.aload_n 0, 1) := by decide +kernel
theorem d_Md_weight_22 : decode c_Md_weight 22 = .ok (.getfield 26, 3) := by decide +kernel
theorem d_Md_weight_25 : decode c_Md_weight 25 = .ok (.iload_n 1, 1) := by decide +kernel
theorem d_Md_weight_26 : decode c_Md_weight 26 = .ok (.iaload, 1) := by decide +kernel
theorem d_Md_weight_27 : decode c_Md_weight 27 = .ok (.i2l, 1) := by decide +kernel
theorem d_Md_weight_28 : decode c_Md_weight 28 = .ok (.aload_n 0, 1) := by decide +kernel
theorem d_Md_weight_29 : decode c_Md_weight 29 = .ok (.getfield 26, 3) := by decide +kernel
theorem d_Md_weight_32 : decode c_Md_weight 32 = .ok (.iload_n 1, 1) := by decide +kernel
theorem d_Md_weight_33 : decode c_Md_weight 33 = .ok (.iaload, 1) := by decide +kernel
theorem d_Md_weight_34 : decode c_Md_weight 34 = .ok (.i2l, 1) := by decide +kernel
theorem d_Md_weight_35 : decode c_Md_weight 35 = .ok (.lmul, 1) := by decide +kernel
theorem d_Md_weight_36 : decode c_Md_weight 36 = .ok (.aload_n 0, 1) := by decide +kernel
theorem d_Md_weight_37 : decode c_Md_weight 37 = .ok (.iload_n 1, 1) := by decide +kernel
theorem d_Md_weight_38 : decode c_Md_weight 38 = .ok (.invokevirtual 172, 3) := by decide +kernel
theorem d_Md_weight_41 : decode c_Md_weight 41 = .ok (.lmul, 1) := by decide +kernel
theorem d_Md_weight_42 : decode c_Md_weight 42 = .ok (.aload_n 0, 1) := by decide +kernel
theorem d_Md_weight_43 : decode c_Md_weight 43 = .ok (.getfield 29, 3) := by decide +kernel
theorem d_Md_weight_46 : decode c_Md_weight 46 = .ok (.iload_n 1, 1) := by decide +kernel
theorem d_Md_weight_47 : decode c_Md_weight 47 = .ok (.iaload, 1) := by decide +kernel
theorem d_Md_weight_48 : decode c_Md_weight 48 = .ok (.i2l, 1) := by decide +kernel
theorem d_Md_weight_49 : decode c_Md_weight 49 = .ok (.lmul, 1) := by decide +kernel
theorem d_Md_weight_50 : decode c_Md_weight 50 = .ok (.lstore_n 3, 1) := by decide +kernel
theorem d_Md_weight_51 : decode c_Md_weight 51 = .ok (.lload_n 3, 1) := by decide +kernel
theorem d_Md_weight_52 : decode c_Md_weight 52 = .ok (.lstore 5, 2) := by decide +kernel
theorem d_Md_weight_54 : decode c_Md_weight 54 = .ok (.ldc2_w 249, 3) := by decide +kernel
theorem d_Md_weight_57 : decode c_Md_weight 57 = .ok (.lstore 7, 2) := by decide +kernel
theorem d_Md_weight_59 : decode c_Md_weight 59 = .ok (.lload 7, 2) := by decide +kernel
theorem d_Md_weight_61 : decode c_Md_weight 61 = .ok (.lconst 0, 1) := by decide +kernel
theorem d_Md_weight_62 : decode c_Md_weight 62 = .ok (.lcmp, 1) := by decide +kernel
theorem d_Md_weight_63 : decode c_Md_weight 63 = .ok (.ifCond .le 21, 3) := by decide +kernel
theorem d_Md_weight_66 : decode c_Md_weight 66 = .ok (.lload 5, 2) := by decide +kernel
theorem d_Md_weight_68 : decode c_Md_weight 68 = .ok (.lload 7, 2) := by decide +kernel
theorem d_Md_weight_70 : decode c_Md_weight 70 = .ok (.lrem, 1) := by decide +kernel
theorem d_Md_weight_71 : decode c_Md_weight 71 = .ok (.lstore 9, 2) := by decide +kernel
theorem d_Md_weight_73 : decode c_Md_weight 73 = .ok (.lload 7, 2) := by decide +kernel
theorem d_Md_weight_75 : decode c_Md_weight 75 = .ok (.lstore 5, 2) := by decide +kernel
theorem d_Md_weight_77 : decode c_Md_weight 77 = .ok (.lload 9, 2) := by decide +kernel
theorem d_Md_weight_79 : decode c_Md_weight 79 = .ok (.lstore 7, 2) := by decide +kernel
theorem d_Md_weight_81 : decode c_Md_weight 81 = .ok (.goto (-22), 3) := by decide +kernel
theorem d_Md_weight_84 : decode c_Md_weight 84 = .ok (.iload_n 2, 1) := by decide +kernel
theorem d_Md_weight_85 : decode c_Md_weight 85 = .ok (.ifCond .ne 10, 3) := by decide +kernel
theorem d_Md_weight_88 : decode c_Md_weight 88 = .ok (.lload_n 3, 1) := by decide +kernel
theorem d_Md_weight_89 : decode c_Md_weight 89 = .ok (.lload 5, 2) := by decide +kernel
theorem d_Md_weight_91 : decode c_Md_weight 91 = .ok (.ldiv, 1) := by decide +kernel
theorem d_Md_weight_92 : decode c_Md_weight 92 = .ok (.goto 9, 3) := by decide +kernel
theorem d_Md_weight_95 : decode c_Md_weight 95 = .ok (.ldc2_w 249, 3) := by decide +kernel
theorem d_Md_weight_98 : decode c_Md_weight 98 = .ok (.lload 5, 2) := by decide +kernel
theorem d_Md_weight_100 : decode c_Md_weight 100 = .ok (.ldiv, 1) := by decide +kernel
theorem d_Md_weight_101 : decode c_Md_weight 101 = .ok (.lreturn, 1) := by decide +kernel
theorem d_Md_sign_0 : decode c_Md_sign 0 = .ok (.aload_n 0, 1) := by decide +kernel
theorem d_Md_sign_1 : decode c_Md_sign 1 = .ok (.getfield 117, 3) := by decide +kernel
theorem d_Md_sign_4 : decode c_Md_sign 4 = .ok (.aload_n 0, 1) := by decide +kernel
theorem d_Md_sign_5 : decode c_Md_sign 5 = .ok (.getfield 251, 3) := by decide +kernel
theorem d_Md_sign_8 : decode c_Md_sign 8 = .ok (.iload_n 1, 1) := by decide +kernel
theorem d_Md_sign_9 : decode c_Md_sign 9 = .ok (.iastore, 1) := by decide +kernel
theorem d_Md_sign_10 : decode c_Md_sign 10 = .ok (.aload_n 0, 1) := by decide +kernel
theorem d_Md_sign_11 : decode c_Md_sign 11 = .ok (.dup, 1) := by decide +kernel
theorem d_Md_sign_12 : decode c_Md_sign 12 = .ok (.getfield 251, 3) := by decide +kernel
theorem d_Md_sign_15 : decode c_Md_sign 15 = .ok (.iconst 1, 1) := by decide +kernel
theorem d_Md_sign_16 : decode c_Md_sign 16 = .ok (.iadd, 1) := by decide +kernel
theorem d_Md_sign_17 : decode c_Md_sign 17 = .ok (.putfield 251, 3) := by decide +kernel
theorem d_Md_sign_20 : decode c_Md_sign 20 = .ok (.return_, 1) := by decide +kernel
theorem d_Md_tag_0 : decode c_Md_tag 0 = .ok (.aload_n 0, 1) := by decide +kernel
theorem d_Md_tag_1 : decode c_Md_tag 1 = .ok (.iload_n 1, 1) := by decide +kernel
theorem d_Md_tag_2 : decode c_Md_tag 2 = .ok (.invokevirtual 154, 3) := by decide +kernel
theorem d_Md_tag_5 : decode c_Md_tag 5 = .ok (.ifCond .ne 5, 3) := by decide +kernel
theorem d_Md_tag_8 : decode c_Md_tag 8 = .ok (.iconst (-1), 1) := by decide +kernel
theorem d_Md_tag_9 : decode c_Md_tag 9 = .ok (.ireturn, 1) := by decide +kernel
theorem d_Md_tag_10 : decode c_Md_tag 10 = .ok (.aload_n 0, 1) := by decide +kernel
theorem d_Md_tag_11 : decode c_Md_tag 11 = .ok (.iconst 0, 1) := by decide +kernel
theorem d_Md_tag_12 : decode c_Md_tag 12 = .ok (.putfield 251, 3) := by decide +kernel
theorem d_Md_tag_15 : decode c_Md_tag 15 = .ok (.aload_n 0, 1) := by decide +kernel
theorem d_Md_tag_16 : decode c_Md_tag 16 = .ok (.bipush 48, 2) := by decide +kernel
theorem d_Md_tag_18 : decode c_Md_tag 18 = .ok (.aload_n 0, 1) := by decide +kernel
theorem d_Md_tag_19 : decode c_Md_tag 19 = .ok (.getfield 29, 3) := by decide +kernel
theorem d_Md_tag_22 : decode c_Md_tag 22 = .ok (.iload_n 1, 1) := by decide +kernel
theorem d_Md_tag_23 : decode c_Md_tag 23 = .ok (.iaload, 1) := by decide +kernel
theorem d_Md_tag_24 : decode c_Md_tag 24 = .ok (.iadd, 1) := by decide +kernel
theorem d_Md_tag_25 : decode c_Md_tag 25 = .ok (.invokevirtual 254, 3) := by decide +kernel
theorem d_Md_tag_28 : decode c_Md_tag 28 = .ok (.aload_n 0, 1) := by decide +kernel
theorem d_Md_tag_29 : decode c_Md_tag 29 = .ok (.bipush 120, 2) := by decide +kernel
theorem d_Md_tag_31 : decode c_Md_tag 31 = .ok (.invokevirtual 254, 3) := by decide +kernel
theorem d_Md_tag_34 : decode c_Md_tag 34 = .ok (.aload_n 0, 1) := by decide +kernel
theorem d_Md_tag_35 : decode c_Md_tag 35 = .ok (.getfield 26, 3) := by decide +kernel
theorem d_Md_tag_38 : decode c_Md_tag 38 = .ok (.iload_n 1, 1) := by decide +kernel
theorem d_Md_tag_39 : decode c_Md_tag 39 = .ok (.iaload, 1) := by decide +kernel
theorem d_Md_tag_40 : decode c_Md_tag 40 = .ok (.bipush 9, 2) := by decide +kernel
theorem d_Md_tag_42 : decode c_Md_tag 42 = .ok (.if_icmp .le 19, 3) := by decide +kernel
theorem d_Md_tag_45 : decode c_Md_tag 45 = .ok (.aload_n 0, 1) := by decide +kernel
theorem d_Md_tag_46 : decode c_Md_tag 46 = .ok (.bipush 48, 2) := by decide +kernel
theorem d_Md_tag_48 : decode c_Md_tag 48 = .ok (.aload_n 0, 1) := by decide +kernel
theorem d_Md_tag_49 : decode c_Md_tag 49 = .ok (.getfield 26, 3) := by decide +kernel
theorem d_Md_tag_52 : decode c_Md_tag 52 = .ok (.iload_n 1, 1) := by decide +kernel
theorem d_Md_tag_53 : decode c_Md_tag 53 = .ok (.iaload, 1) := by decide +kernel
theorem d_Md_tag_54 : decode c_Md_tag 54 = .ok (.bipush 10, 2) := by decide +kernel
theorem d_Md_tag_56 : decode c_Md_tag 56 = .ok (.idiv, 1) := by decide +kernel
theorem d_Md_tag_57 : decode c_Md_tag 57 = .ok (.iadd, 1) := by decide +kernel
theorem d_Md_tag_58 : decode c_Md_tag 58 = .ok (.invokevirtual 254, 3) := by decide +kernel
theorem d_Md_tag_61 : decode c_Md_tag 61 = .ok (.aload_n 0, 1) := by decide +kernel
theorem d_Md_tag_62 : decode c_Md_tag 62 = .ok (.bipush 48, 2) := by decide +kernel
theorem d_Md_tag_64 : decode c_Md_tag 64 = .ok (.aload_n 0, 1) := by decide +kernel
theorem d_Md_tag_65 : decode c_Md_tag 65 = .ok (.getfield 26, 3) := by decide +kernel
theorem d_Md_tag_68 : decode c_Md_tag 68 = .ok (.iload_n 1, 1) := by decide +kernel
theorem d_Md_tag_69 : decode c_Md_tag 69 = .ok (.iaload, 1) := by decide +kernel
theorem d_Md_tag_70 : decode c_Md_tag 70 = .ok (.bipush 10, 2) := by decide +kernel
theorem d_Md_tag_72 : decode c_Md_tag 72 = .ok (.irem, 1) := by decide +kernel
theorem d_Md_tag_73 : decode c_Md_tag 73 = .ok (.iadd, 1) := by decide +kernel
theorem d_Md_tag_74 : decode c_Md_tag 74 = .ok (.invokevirtual 254, 3) := by decide +kernel
theorem d_Md_tag_77 : decode c_Md_tag 77 = .ok (.aload_n 0, 1) := by decide +kernel
theorem d_Md_tag_78 : decode c_Md_tag 78 = .ok (.bipush 58, 2) := by decide +kernel
theorem d_Md_tag_80 : decode c_Md_tag 80 = .ok (.invokevirtual 254, 3) := by decide +kernel
theorem d_Md_tag_83 : decode c_Md_tag 83 = .ok (.iconst 0, 1) := by decide +kernel
theorem d_Md_tag_84 : decode c_Md_tag 84 = .ok (.istore_n 3, 1) := by decide +kernel
theorem d_Md_tag_85 : decode c_Md_tag 85 = .ok (.iload_n 3, 1) := by decide +kernel
theorem d_Md_tag_86 : decode c_Md_tag 86 = .ok (.aload_n 0, 1) := by decide +kernel
theorem d_Md_tag_87 : decode c_Md_tag 87 = .ok (.getfield 13, 3) := by decide +kernel
theorem d_Md_tag_90 : decode c_Md_tag 90 = .ok (.aload_n 0, 1) := by decide +kernel
theorem d_Md_tag_91 : decode c_Md_tag 91 = .ok (.getfield 23, 3) := by decide +kernel
theorem d_Md_tag_94 : decode c_Md_tag 94 = .ok (.iload_n 1, 1) := by decide +kernel
theorem d_Md_tag_95 : decode c_Md_tag 95 = .ok (.iaload, 1) := by decide +kernel
theorem d_Md_tag_96 : decode c_Md_tag 96 = .ok (.iaload, 1) := by decide +kernel
theorem d_Md_tag_97 : decode c_Md_tag 97 = .ok (.if_icmp .ge 78, 3) := by decide +kernel
theorem d_Md_tag_100 : decode c_Md_tag 100 = .ok (.iload_n 3, 1) := by decide +kernel
theorem d_Md_tag_101 : decode c_Md_tag 101 = .ok (.ifCond .ne 7, 3) := by decide +kernel
theorem d_Md_tag_104 : decode c_Md_tag 104 = .ok (.iconst 0, 1) := by decide +kernel
theorem d_Md_tag_105 : decode c_Md_tag 105 = .ok (.goto 21, 3) := by decide +kernel
theorem d_Md_tag_108 : decode c_Md_tag 108 = .ok (.aload_n 0, 1) := by decide +kernel
theorem d_Md_tag_109 : decode c_Md_tag 109 = .ok (.getfield 16, 3) := by decide +kernel
theorem d_Md_tag_112 : decode c_Md_tag 112 = .ok (.bipush 6, 2) := by decide +kernel
theorem d_Md_tag_114 : decode c_Md_tag 114 = .ok (.aload_n 0, 1) := by decide +kernel
theorem d_Md_tag_115 : decode c_Md_tag 115 = .ok (.getfield 23, 3) := by decide +kernel
theorem d_Md_tag_118 : decode c_Md_tag 118 = .ok (.iload_n 1, 1) := by decide +kernel
theorem d_Md_tag_119 : decode c_Md_tag 119 = .ok (.iaload, 1) := by decide +kernel
theorem d_Md_tag_120 : decode c_Md_tag 120 = .ok (.imul, 1) := by decide +kernel
theorem d_Md_tag_121 : decode c_Md_tag 121 = .ok (.iload_n 3, 1) := by decide +kernel
theorem d_Md_tag_122 : decode c_Md_tag 122 = .ok (.iadd, 1) := by decide +kernel
theorem d_Md_tag_123 : decode c_Md_tag 123 = .ok (.iconst 1, 1) := by decide +kernel
theorem d_Md_tag_124 : decode c_Md_tag 124 = .ok (.isub, 1) := by decide +kernel
theorem d_Md_tag_125 : decode c_Md_tag 125 = .ok (.iaload, 1) := by decide +kernel
theorem d_Md_tag_126 : decode c_Md_tag 126 = .ok (.istore 4, 2) := by decide +kernel
theorem d_Md_tag_128 : decode c_Md_tag 128 = .ok (.iload 4, 2) := by decide +kernel
theorem d_Md_tag_130 : decode c_Md_tag 130 = .ok (.ifCond .le 31, 3) := by decide +kernel
theorem d_Md_tag_133 : decode c_Md_tag 133 = .ok (.aload_n 0, 1) := by decide +kernel
theorem d_Md_tag_134 : decode c_Md_tag 134 = .ok (.iload 4, 2) := by decide +kernel
theorem d_Md_tag_136 : decode c_Md_tag 136 = .ok (.iconst 1, 1) := by decide +kernel
theorem d_Md_tag_137 : decode c_Md_tag 137 = .ok (.if_icmp .ne 8, 3) := by decide +kernel
theorem d_Md_tag_140 : decode c_Md_tag 140 = .ok (.bipush 76, 2) := by decide +kernel
theorem d_Md_tag_142 : decode c_Md_tag 142 = .ok (.goto 16, 3) := by decide +kernel
theorem d_Md_tag_145 : decode c_Md_tag 145 = .ok (.iload 4, 2) := by decide +kernel
theorem d_Md_tag_147 : decode c_Md_tag 147 = .ok (.iconst 2, 1) := by decide +kernel
theorem d_Md_tag_148 : decode c_Md_tag 148 = .ok (.if_icmp .ne 8, 3) := by decide +kernel
theorem d_Md_tag_151 : decode c_Md_tag 151 = .ok (.bipush 82, 2) := by decide +kernel
theorem d_Md_tag_153 : decode c_Md_tag 153 = .ok (.goto 5, 3) := by decide +kernel
theorem d_Md_tag_156 : decode c_Md_tag 156 = .ok (.bipush 85, 2) := by decide +kernel
theorem d_Md_tag_158 : decode c_Md_tag 158 = .ok (.invokevirtual 254, 3) := by decide +kernel
theorem d_Md_tag_161 : decode c_Md_tag 161 = .ok (.aload_n 0, 1) := by decide +kernel
theorem d_Md_tag_162 : decode c_Md_tag 162 = .ok (.bipush 65, 2) := by decide +kernel
theorem d_Md_tag_164 : decode c_Md_tag 164 = .ok (.iload_n 3, 1) := by decide +kernel
theorem d_Md_tag_165 : decode c_Md_tag 165 = .ok (.iadd, 1) := by decide +kernel
theorem d_Md_tag_166 : decode c_Md_tag 166 = .ok (.invokevirtual 254, 3) := by decide +kernel
theorem d_Md_tag_169 : decode c_Md_tag 169 = .ok (.iinc 3 1, 3) := by decide +kernel
theorem d_Md_tag_172 : decode c_Md_tag 172 = .ok (.goto (-87), 3) := by decide +kernel
theorem d_Md_tag_175 : decode c_Md_tag 175 = .ok (.iload_n 2, 1) := by decide +kernel
theorem d_Md_tag_176 : decode c_Md_tag 176 = .ok (.ifCond .lt 11, 3) := by decide +kernel
theorem d_Md_tag_179 : decode c_Md_tag 179 = .ok (.iload_n 2, 1) := by decide +kernel
theorem d_Md_tag_180 : decode c_Md_tag 180 = .ok (.aload_n 0, 1) := by decide +kernel
theorem d_Md_tag_181 : decode c_Md_tag 181 = .ok (.getfield 251, 3) := by decide +kernel
theorem d_Md_tag_184 : decode c_Md_tag 184 = .ok (.if_icmp .lt 7, 3) := by decide +kernel
theorem d_Md_tag_187 : decode c_Md_tag 187 = .ok (.iconst (-1), 1) := by decide +kernel
theorem d_Md_tag_188 : decode c_Md_tag 188 = .ok (.goto 9, 3) := by decide +kernel
theorem d_Md_tag_191 : decode c_Md_tag 191 = .ok (.aload_n 0, 1) := by decide +kernel
theorem d_Md_tag_192 : decode c_Md_tag 192 = .ok (.getfield 117, 3) := by decide +kernel
theorem d_Md_tag_195 : decode c_Md_tag 195 = .ok (.iload_n 2, 1) := by decide +kernel
theorem d_Md_tag_196 : decode c_Md_tag 196 = .ok (.iaload, 1) := by decide +kernel
theorem d_Md_tag_197 : decode c_Md_tag 197 = .ok (.ireturn, 1) := by decide +kernel
theorem d_Md_differ_0 : decode c_Md_differ 0 = .ok (.iload_n 3, 1) := by decide +kernel
theorem d_Md_differ_1 : decode c_Md_differ 1 = .ok (.ifCond .ne 26, 3) := by decide +kernel
theorem d_Md_differ_4 : decode c_Md_differ 4 = .ok (.aload_n 0, 1) := by decide +kernel
theorem d_Md_differ_5 : decode c_Md_differ 5 = .ok (.getfield 23, 3) := by decide +kernel
theorem d_Md_differ_8 : decode c_Md_differ 8 = .ok (.iload_n 1, 1) := by decide +kernel
theorem d_Md_differ_9 : decode c_Md_differ 9 = .ok (.iaload, 1) := by decide +kernel
theorem d_Md_differ_10 : decode c_Md_differ 10 = .ok (.aload_n 0, 1) := by decide +kernel
theorem d_Md_differ_11 : decode c_Md_differ 11 = .ok (.getfield 23, 3) := by decide +kernel
theorem d_Md_differ_14 : decode c_Md_differ 14 = .ok (.iload_n 2, 1) := by decide +kernel
theorem d_Md_differ_15 : decode c_Md_differ 15 = .ok (.iaload, 1) := by decide +kernel
theorem d_Md_differ_16 : decode c_Md_differ 16 = .ok (.if_icmp .eq 7, 3) := by decide +kernel
theorem d_Md_differ_19 : decode c_Md_differ 19 = .ok (.iconst 1, 1) := by decide +kernel
theorem d_Md_differ_20 : decode c_Md_differ 20 = .ok (.goto 98, 3) := by decide +kernel
theorem d_Md_differ_23 : decode c_Md_differ 23 = .ok (.iconst 0, 1) := by decide +kernel
theorem d_Md_differ_24 : decode c_Md_differ 24 = .ok (.goto 94, 3) := by decide +kernel
theorem d_Md_differ_27 : decode c_Md_differ 27 = .ok (.iload_n 3, 1) := by decide +kernel
theorem d_Md_differ_28 : decode c_Md_differ 28 = .ok (.iconst 1, 1) := by decide +kernel
theorem d_Md_differ_29 : decode c_Md_differ 29 = .ok (.if_icmp .ne 26, 3) := by decide +kernel
theorem d_Md_differ_32 : decode c_Md_differ 32 = .ok (.aload_n 0, 1) := by decide +kernel
theorem d_Md_differ_33 : decode c_Md_differ 33 = .ok (.getfield 26, 3) := by decide +kernel
theorem d_Md_differ_36 : decode c_Md_differ 36 = .ok (.iload_n 1, 1) := by decide +kernel
theorem d_Md_differ_37 : decode c_Md_differ 37 = .ok (.iaload, 1) := by decide +kernel
theorem d_Md_differ_38 : decode c_Md_differ 38 = .ok (.aload_n 0, 1) := by decide +kernel
theorem d_Md_differ_39 : decode c_Md_differ 39 = .ok (.getfield 26, 3) := by decide +kernel
theorem d_Md_differ_42 : decode c_Md_differ 42 = .ok (.iload_n 2, 1) := by decide +kernel
theorem d_Md_differ_43 : decode c_Md_differ 43 = .ok (.iaload, 1) := by decide +kernel
theorem d_Md_differ_44 : decode c_Md_differ 44 = .ok (.if_icmp .eq 7, 3) := by decide +kernel
theorem d_Md_differ_47 : decode c_Md_differ 47 = .ok (.iconst 1, 1) := by decide +kernel
theorem d_Md_differ_48 : decode c_Md_differ 48 = .ok (.goto 70, 3) := by decide +kernel
theorem d_Md_differ_51 : decode c_Md_differ 51 = .ok (.iconst 0, 1) := by decide +kernel
theorem d_Md_differ_52 : decode c_Md_differ 52 = .ok (.goto 66, 3) := by decide +kernel
theorem d_Md_differ_55 : decode c_Md_differ 55 = .ok (.iload_n 3, 1) := by decide +kernel
theorem d_Md_differ_56 : decode c_Md_differ 56 = .ok (.iconst 2, 1) := by decide +kernel
theorem d_Md_differ_57 : decode c_Md_differ 57 = .ok (.if_icmp .ne 26, 3) := by decide +kernel
theorem d_Md_differ_60 : decode c_Md_differ 60 = .ok (.aload_n 0, 1) := by decide +kernel
theorem d_Md_differ_61 : decode c_Md_differ 61 = .ok (.getfield 29, 3) := by decide +kernel
theorem d_Md_differ_64 : decode c_Md_differ 64 = .ok (.iload_n 1, 1) := by decide +kernel
theorem d_Md_differ_65 : decode c_Md_differ 65 = .ok (.iaload, 1) := by decide +kernel
theorem d_Md_differ_66 : decode c_Md_differ 66 = .ok (.aload_n 0, 1) := by decide +kernel
theorem d_Md_differ_67 : decode c_Md_differ 67 = .ok (.getfield 29, 3) := by decide +kernel
theorem d_Md_differ_70 : decode c_Md_differ 70 = .ok (.iload_n 2, 1) := by decide +kernel
theorem d_Md_differ_71 : decode c_Md_differ 71 = .ok (.iaload, 1) := by decide +kernel
theorem d_Md_differ_72 : decode c_Md_differ 72 = .ok (.if_icmp .eq 7, 3) := by decide +kernel
theorem d_Md_differ_75 : decode c_Md_differ 75 = .ok (.iconst 1, 1) := by decide +kernel
theorem d_Md_differ_76 : decode c_Md_differ 76 = .ok (.goto 42, 3) := by decide +kernel
theorem d_Md_differ_79 : decode c_Md_differ 79 = .ok (.iconst 0, 1) := by decide +kernel
theorem d_Md_differ_80 : decode c_Md_differ 80 = .ok (.goto 38, 3) := by decide +kernel
theorem d_Md_differ_83 : decode c_Md_differ 83 = .ok (.aload_n 0, 1) := by decide +kernel
theorem d_Md_differ_84 : decode c_Md_differ 84 = .ok (.getfield 32, 3) := by decide +kernel
theorem d_Md_differ_87 : decode c_Md_differ 87 = .ok (.bipush 6, 2) := by decide +kernel
theorem d_Md_differ_89 : decode c_Md_differ 89 = .ok (.iload_n 1, 1) := by decide +kernel
theorem d_Md_differ_90 : decode c_Md_differ 90 = .ok (.imul, 1) := by decide +kernel
theorem d_Md_differ_91 : decode c_Md_differ 91 = .ok (.iload_n 3, 1) := by decide +kernel
theorem d_Md_differ_92 : decode c_Md_differ 92 = .ok (.iadd, 1) := by decide +kernel
theorem d_Md_differ_93 : decode c_Md_differ 93 = .ok (.iconst 3, 1) := by decide +kernel
theorem d_Md_differ_94 : decode c_Md_differ 94 = .ok (.isub, 1) := by decide +kernel
theorem d_Md_differ_95 : decode c_Md_differ 95 = .ok (.laload, 1) := by decide +kernel
theorem d_Md_differ_96 : decode c_Md_differ 96 = .ok (.aload_n 0, 1) := by decide +kernel
theorem d_Md_differ_97 : decode c_Md_differ 97 = .ok (.getfield 32, 3) := by decide +kernel
theorem d_Md_differ_100 : decode c_Md_differ 100 = .ok (.bipush 6, 2) := by decide +kernel
theorem d_Md_differ_102 : decode c_Md_differ 102 = .ok (.iload_n 2, 1) := by decide +kernel
theorem d_Md_differ_103 : decode c_Md_differ 103 = .ok (.imul, 1) := by decide +kernel
theorem d_Md_differ_104 : decode c_Md_differ 104 = .ok (.iload_n 3, 1) := by decide +kernel
theorem d_Md_differ_105 : decode c_Md_differ 105 = .ok (.iadd, 1) := by decide +kernel
theorem d_Md_differ_106 : decode c_Md_differ 106 = .ok (.iconst 3, 1) := by decide +kernel
theorem d_Md_differ_107 : decode c_Md_differ 107 = .ok (.isub, 1) := by decide +kernel
theorem d_Md_differ_108 : decode c_Md_differ 108 = .ok (.laload, 1) := by decide +kernel
theorem d_Md_differ_109 : decode c_Md_differ 109 = .ok (.lcmp, 1) := by decide +kernel
theorem d_Md_differ_110 : decode c_Md_differ 110 = .ok (.ifCond .eq 7, 3) := by decide +kernel
theorem d_Md_differ_113 : decode c_Md_differ 113 = .ok (.iconst 1, 1) := by decide +kernel
theorem d_Md_differ_114 : decode c_Md_differ 114 = .ok (.goto 4, 3) := by decide +kernel
theorem d_Md_differ_117 : decode c_Md_differ 117 = .ok (.iconst 0, 1) := by decide +kernel
theorem d_Md_differ_118 : decode c_Md_differ 118 = .ok (.ireturn, 1) := by decide +kernel
theorem d_Md_differs_0 : decode c_Md_differs 0 = .ok (.aload_n 0, 1) := by decide +kernel
theorem d_Md_differs_1 : decode c_Md_differs 1 = .ok (.iload_n 1, 1) := by decide +kernel
theorem d_Md_differs_2 : decode c_Md_differs 2 = .ok (.invokevirtual 154, 3) := by decide +kernel
theorem d_Md_differs_5 : decode c_Md_differs 5 = .ok (.ifCond .eq 15, 3) := by decide +kernel
theorem d_Md_differs_8 : decode c_Md_differs 8 = .ok (.aload_n 0, 1) := by decide +kernel
theorem d_Md_differs_9 : decode c_Md_differs 9 = .ok (.iload_n 2, 1) := by decide +kernel
theorem d_Md_differs_10 : decode c_Md_differs 10 = .ok (.invokevirtual 154, 3) := by decide +kernel
theorem d_Md_differs_13 : decode c_Md_differs 13 = .ok (.ifCond .eq 7, 3) := by decide +kernel
theorem d_Md_differs_16 : decode c_Md_differs 16 = .ok (.iload_n 3, 1) := by decide +kernel
theorem d_Md_differs_17 : decode c_Md_differs 17 = .ok (.ifCond .ge 5, 3) := by decide +kernel
theorem d_Md_differs_20 : decode c_Md_differs 20 = .ok (.iconst (-1), 1) := by decide +kernel
theorem d_Md_differs_21 : decode c_Md_differs 21 = .ok (.ireturn, 1) := by decide +kernel
theorem d_Md_differs_22 : decode c_Md_differs 22 = .ok (.iconst 0, 1) := by decide +kernel
theorem d_Md_differs_23 : decode c_Md_differs 23 = .ok (.istore 4, 2) := by decide +kernel
theorem d_Md_differs_25 : decode c_Md_differs 25 = .ok (.iconst 0, 1) := by decide +kernel
theorem d_Md_differs_26 : decode c_Md_differs 26 = .ok (.istore 5, 2) := by decide +kernel
theorem d_Md_differs_28 : decode c_Md_differs 28 = .ok (.iload 5, 2) := by decide +kernel
theorem d_Md_differs_30 : decode c_Md_differs 30 = .ok (.bipush 9, 2) := by decide +kernel
theorem d_Md_differs_32 : decode c_Md_differs 32 = .ok (.if_icmp .ge 32, 3) := by decide +kernel
theorem d_Md_differs_35 : decode c_Md_differs 35 = .ok (.aload_n 0, 1) := by decide +kernel
theorem d_Md_differs_36 : decode c_Md_differs 36 = .ok (.iload_n 1, 1) := by decide +kernel
theorem d_Md_differs_37 : decode c_Md_differs 37 = .ok (.iload_n 2, 1) := by decide +kernel
theorem d_Md_differs_38 : decode c_Md_differs 38 = .ok (.iload 5, 2) := by decide +kernel
theorem d_Md_differs_40 : decode c_Md_differs 40 = .ok (.invokevirtual 257, 3) := by decide +kernel
theorem d_Md_differs_43 : decode c_Md_differs 43 = .ok (.ifCond .eq 15, 3) := by decide +kernel
theorem d_Md_differs_46 : decode c_Md_differs 46 = .ok (.iload 4, 2) := by decide +kernel
theorem d_Md_differs_48 : decode c_Md_differs 48 = .ok (.iload_n 3, 1) := by decide +kernel
theorem d_Md_differs_49 : decode c_Md_differs 49 = .ok (.if_icmp .ne 6, 3) := by decide +kernel
theorem d_Md_differs_52 : decode c_Md_differs 52 = .ok (.iload 5, 2) := by decide +kernel
theorem d_Md_differs_54 : decode c_Md_differs 54 = .ok (.ireturn, 1) := by decide +kernel
theorem d_Md_differs_55 : decode c_Md_differs 55 = .ok (.iinc 4 1, 3) := by decide +kernel
theorem d_Md_differs_58 : decode c_Md_differs 58 = .ok (.iinc 5 1, 3) := by decide +kernel
theorem d_Md_differs_61 : decode c_Md_differs 61 = .ok (.goto (-33), 3) := by decide +kernel
theorem d_Md_differs_64 : decode c_Md_differs 64 = .ok (.iconst (-1), 1) := by decide +kernel
theorem d_Md_differs_65 : decode c_Md_differs 65 = .ok (.ireturn, 1) := by decide +kernel
theorem d_Md_isBentBefore_0 : decode c_Md_isBentBefore 0 = .ok (.aload_n 0, 1) := by decide +kernel
theorem d_Md_isBentBefore_1 : decode c_Md_isBentBefore 1 = .ok (.getfield 26, 3) := by decide +kernel
theorem d_Md_isBentBefore_4 : decode c_Md_isBentBefore 4 = .ok (.iload_n 1, 1) := by decide +kernel
theorem d_Md_isBentBefore_5 : decode c_Md_isBentBefore 5 = .ok (.iaload, 1) := by decide +kernel
theorem d_Md_isBentBefore_6 : decode c_Md_isBentBefore 6 = .ok (.aload_n 0, 1) := by decide +kernel
theorem d_Md_isBentBefore_7 : decode c_Md_isBentBefore 7 = .ok (.getfield 26, 3) := by decide +kernel
theorem d_Md_isBentBefore_10 : decode c_Md_isBentBefore 10 = .ok (.iload_n 2, 1) := by decide +kernel
theorem d_Md_isBentBefore_11 : decode c_Md_isBentBefore 11 = .ok (.iaload, 1) := by decide +kernel
theorem d_Md_isBentBefore_12 : decode c_Md_isBentBefore 12 = .ok (.if_icmp .eq 24, 3) := by decide +kernel
theorem d_Md_isBentBefore_15 : decode c_Md_isBentBefore 15 = .ok (.aload_n 0, 1) := by decide +kernel
theorem d_Md_isBentBefore_16 : decode c_Md_isBentBefore 16 = .ok (.getfield 26, 3) := by decide +kernel
theorem d_Md_isBentBefore_19 : decode c_Md_isBentBefore 19 = .ok (.iload_n 1, 1) := by decide +kernel
theorem d_Md_isBentBefore_20 : decode c_Md_isBentBefore 20 = .ok (.iaload, 1) := by decide +kernel
theorem d_Md_isBentBefore_21 : decode c_Md_isBentBefore 21 = .ok (.aload_n 0, 1) := by decide +kernel
theorem d_Md_isBentBefore_22 : decode c_Md_isBentBefore 22 = .ok (.getfield 26, 3) := by decide +kernel
theorem d_Md_isBentBefore_25 : decode c_Md_isBentBefore 25 = .ok (.iload_n 2, 1) := by decide +kernel
theorem d_Md_isBentBefore_26 : decode c_Md_isBentBefore 26 = .ok (.iaload, 1) := by decide +kernel
theorem d_Md_isBentBefore_27 : decode c_Md_isBentBefore 27 = .ok (.if_icmp .ge 7, 3) := by decide +kernel
theorem d_Md_isBentBefore_30 : decode c_Md_isBentBefore 30 = .ok (.iconst 1, 1) := by decide +kernel
theorem d_Md_isBentBefore_31 : decode c_Md_isBentBefore 31 = .ok (.goto 4, 3) := by decide +kernel
theorem d_Md_isBentBefore_34 : decode c_Md_isBentBefore 34 = .ok (.iconst 0, 1) := by decide +kernel
theorem d_Md_isBentBefore_35 : decode c_Md_isBentBefore 35 = .ok (.ireturn, 1) := by decide +kernel
theorem d_Md_isBentBefore_36 : decode c_Md_isBentBefore 36 = .ok (.aload_n 0, 1) := by decide +kernel
theorem d_Md_isBentBefore_37 : decode c_Md_isBentBefore 37 = .ok (.getfield 23, 3) := by decide +kernel
theorem d_Md_isBentBefore_40 : decode c_Md_isBentBefore 40 = .ok (.iload_n 1, 1) := by decide +kernel
theorem d_Md_isBentBefore_41 : decode c_Md_isBentBefore 41 = .ok (.iaload, 1) := by decide +kernel
theorem d_Md_isBentBefore_42 : decode c_Md_isBentBefore 42 = .ok (.aload_n 0, 1) := by decide +kernel
theorem d_Md_isBentBefore_43 : decode c_Md_isBentBefore 43 = .ok (.getfield 23, 3) := by decide +kernel
theorem d_Md_isBentBefore_46 : decode c_Md_isBentBefore 46 = .ok (.iload_n 2, 1) := by decide +kernel
theorem d_Md_isBentBefore_47 : decode c_Md_isBentBefore 47 = .ok (.iaload, 1) := by decide +kernel
theorem d_Md_isBentBefore_48 : decode c_Md_isBentBefore 48 = .ok (.if_icmp .eq 26, 3) := by decide +kernel
theorem d_Md_isBentBefore_51 : decode c_Md_isBentBefore 51 = .ok (.aload_n 0, 1) := by decide +kernel
theorem d_Md_isBentBefore_52 : decode c_Md_isBentBefore 52 = .ok (.getfield 23, 3) := by decide +kernel
theorem d_Md_isBentBefore_55 : decode c_Md_isBentBefore 55 = .ok (.iload_n 1, 1) := by decide +kernel
theorem d_Md_isBentBefore_56 : decode c_Md_isBentBefore 56 = .ok (.iaload, 1) := by decide +kernel
theorem d_Md_isBentBefore_57 : decode c_Md_isBentBefore 57 = .ok (.aload_n 0, 1) := by decide +kernel
theorem d_Md_isBentBefore_58 : decode c_Md_isBentBefore 58 = .ok (.getfield 23, 3) := by decide +kernel
theorem d_Md_isBentBefore_61 : decode c_Md_isBentBefore 61 = .ok (.iload_n 2, 1) := by decide +kernel
theorem d_Md_isBentBefore_62 : decode c_Md_isBentBefore 62 = .ok (.iaload, 1) := by decide +kernel
theorem d_Md_isBentBefore_63 : decode c_Md_isBentBefore 63 = .ok (.if_icmp .ge 7, 3) := by decide +kernel
theorem d_Md_isBentBefore_66 : decode c_Md_isBentBefore 66 = .ok (.iconst 1, 1) := by decide +kernel
theorem d_Md_isBentBefore_67 : decode c_Md_isBentBefore 67 = .ok (.goto 17, 3) := by decide +kernel
theorem d_Md_isBentBefore_70 : decode c_Md_isBentBefore 70 = .ok (.iconst 0, 1) := by decide +kernel
theorem d_Md_isBentBefore_71 : decode c_Md_isBentBefore 71 = .ok (.goto 13, 3) := by decide +kernel
theorem d_Md_isBentBefore_74 : decode c_Md_isBentBefore 74 = .ok (.iload_n 1, 1) := by decide +kernel
theorem d_Md_isBentBefore_75 : decode c_Md_isBentBefore 75 = .ok (.iload_n 2, 1) := by decide +kernel
theorem d_Md_isBentBefore_76 : decode c_Md_isBentBefore 76 = .ok (.if_icmp .ge 7, 3) := by decide +kernel
theorem d_Md_isBentBefore_79 : decode c_Md_isBentBefore 79 = .ok (.iconst 1, 1) := by decide +kernel
theorem d_Md_isBentBefore_80 : decode c_Md_isBentBefore 80 = .ok (.goto 4, 3) := by decide +kernel
theorem d_Md_isBentBefore_83 : decode c_Md_isBentBefore 83 = .ok (.iconst 0, 1) := by decide +kernel
theorem d_Md_isBentBefore_84 : decode c_Md_isBentBefore 84 = .ok (.ireturn, 1) := by decide +kernel
theorem d_Md_order_0 : decode c_Md_order 0 = .ok (.iconst 0, 1) := by decide +kernel
theorem d_Md_order_1 : decode c_Md_order 1 = .ok (.istore_n 2, 1) := by decide +kernel
theorem d_Md_order_2 : decode c_Md_order 2 = .ok (.iload_n 2, 1) := by decide +kernel
theorem d_Md_order_3 : decode c_Md_order 3 = .ok (.aload_n 0, 1) := by decide +kernel
theorem d_Md_order_4 : decode c_Md_order 4 = .ok (.getfield 120, 3) := by decide +kernel
theorem d_Md_order_7 : decode c_Md_order 7 = .ok (.if_icmp .ge 54, 3) := by decide +kernel
theorem d_Md_order_10 : decode c_Md_order 10 = .ok (.iconst 0, 1) := by decide +kernel
theorem d_Md_order_11 : decode c_Md_order 11 = .ok (.istore_n 3, 1) := by decide +kernel
theorem d_Md_order_12 : decode c_Md_order 12 = .ok (.iconst 0, 1) := by decide +kernel
theorem d_Md_order_13 : decode c_Md_order 13 = .ok (.istore 4, 2) := by decide +kernel
theorem d_Md_order_15 : decode c_Md_order 15 = .ok (.iload 4, 2) := by decide +kernel
theorem d_Md_order_17 : decode c_Md_order 17 = .ok (.aload_n 0, 1) := by decide +kernel
theorem d_Md_order_18 : decode c_Md_order 18 = .ok (.getfield 120, 3) := by decide +kernel
theorem d_Md_order_21 : decode c_Md_order 21 = .ok (.if_icmp .ge 27, 3) := by decide +kernel
theorem d_Md_order_24 : decode c_Md_order 24 = .ok (.iload_n 3, 1) := by decide +kernel
theorem d_Md_order_25 : decode c_Md_order 25 = .ok (.aload_n 0, 1) := by decide +kernel
theorem d_Md_order_26 : decode c_Md_order 26 = .ok (.iload 4, 2) := by decide +kernel
theorem d_Md_order_28 : decode c_Md_order 28 = .ok (.iload_n 2, 1) := by decide +kernel
theorem d_Md_order_29 : decode c_Md_order 29 = .ok (.invokevirtual 261, 3) := by decide +kernel
theorem d_Md_order_32 : decode c_Md_order 32 = .ok (.ifCond .eq 7, 3) := by decide +kernel
theorem d_Md_order_35 : decode c_Md_order 35 = .ok (.iconst 1, 1) := by decide +kernel
theorem d_Md_order_36 : decode c_Md_order 36 = .ok (.goto 4, 3) := by decide +kernel
theorem d_Md_order_39 : decode c_Md_order 39 = .ok (.iconst 0, 1) := by decide +kernel
theorem d_Md_order_40 : decode c_Md_order 40 = .ok (.iadd, 1) := by decide +kernel
theorem d_Md_order_41 : decode c_Md_order 41 = .ok (.istore_n 3, 1) := by decide +kernel
theorem d_Md_order_42 : decode c_Md_order 42 = .ok (.iinc 4 1, 3) := by decide +kernel
theorem d_Md_order_45 : decode c_Md_order 45 = .ok (.goto (-30), 3) := by decide +kernel
theorem d_Md_order_48 : decode c_Md_order 48 = .ok (.iload_n 3, 1) := by decide +kernel
theorem d_Md_order_49 : decode c_Md_order 49 = .ok (.iload_n 1, 1) := by decide +kernel
theorem d_Md_order_50 : decode c_Md_order 50 = .ok (.if_icmp .ne 5, 3) := by decide +kernel
theorem d_Md_order_53 : decode c_Md_order 53 = .ok (.iload_n 2, 1) := by decide +kernel
theorem d_Md_order_54 : decode c_Md_order 54 = .ok (.ireturn, 1) := by decide +kernel
theorem d_Md_order_55 : decode c_Md_order 55 = .ok (.iinc 2 1, 3) := by decide +kernel
theorem d_Md_order_58 : decode c_Md_order 58 = .ok (.goto (-56), 3) := by decide +kernel
theorem d_Md_order_61 : decode c_Md_order 61 = .ok (.iconst (-1), 1) := by decide +kernel
theorem d_Md_order_62 : decode c_Md_order 62 = .ok (.ireturn, 1) := by decide +kernel
end
section
theorem d_L_law_0 : decode c_L_law 0 = .ok (.new 7, 3) := by decide +kernel
theorem d_L_law_3 : decode c_L_law 3 = .ok (.dup, 1) := by decide +kernel
theorem d_L_law_4 : decode c_L_law 4 = .ok (.invokespecial 9, 3) := by decide +kernel
theorem d_L_law_7 : decode c_L_law 7 = .ok (.astore_n 1, 1) := by decide +kernel
theorem d_L_law_8 : decode c_L_law 8 = .ok (.new 10, 3) := by decide +kernel
theorem d_L_law_11 : decode c_L_law 11 = .ok (.dup, 1) := by decide +kernel
theorem d_L_law_12 : decode c_L_law 12 = .ok (.invokespecial 12, 3) := by decide +kernel
theorem d_L_law_15 : decode c_L_law 15 = .ok (.astore_n 2, 1) := by decide +kernel
theorem d_L_law_16 : decode c_L_law 16 = .ok (.iconst 0, 1) := by decide +kernel
theorem d_L_law_17 : decode c_L_law 17 = .ok (.istore_n 3, 1) := by decide +kernel
theorem d_L_law_18 : decode c_L_law 18 = .ok (.iload_n 3, 1) := by decide +kernel
theorem d_L_law_19 : decode c_L_law 19 = .ok (.aload_n 0, 1) := by decide +kernel
theorem d_L_law_20 : decode c_L_law 20 = .ok (.arraylength, 1) := by decide +kernel
theorem d_L_law_21 : decode c_L_law 21 = .ok (.bipush 8, 2) := by decide +kernel
theorem d_L_law_23 : decode c_L_law 23 = .ok (.isub, 1) := by decide +kernel
theorem d_L_law_24 : decode c_L_law 24 = .ok (.if_icmp .gt 988, 3) := by decide +kernel
theorem d_L_law_27 : decode c_L_law 27 = .ok (.aload_n 0, 1) := by decide +kernel
theorem d_L_law_28 : decode c_L_law 28 = .ok (.iload_n 3, 1) := by decide +kernel
theorem d_L_law_29 : decode c_L_law 29 = .ok (.iaload, 1) := by decide +kernel
theorem d_L_law_30 : decode c_L_law 30 = .ok (.bipush 31, 2) := by decide +kernel
theorem d_L_law_32 : decode c_L_law 32 = .ok (.iand, 1) := by decide +kernel
theorem d_L_law_33 : decode c_L_law 33 = .ok (.tableswitch 973 0 19 #[95, 118, 131, 194, 237, 310, 344, 417, 470, 494, 518, 531, 564, 711, 744, 777, 840, 874, 907, 950], 95) := by decide +kernel
theorem d_L_law_128 : decode c_L_law 128 = .ok (.aload_n 1, 1) := by decide +kernel
theorem d_L_law_129 : decode c_L_law 129 = .ok (.aload_n 0, 1) := by decide +kernel
theorem d_L_law_130 : decode c_L_law 130 = .ok (.iload_n 3, 1) := by decide +kernel
theorem d_L_law_131 : decode c_L_law 131 = .ok (.iconst 1, 1) := by decide +kernel
theorem d_L_law_132 : decode c_L_law 132 = .ok (.iadd, 1) := by decide +kernel
theorem d_L_law_133 : decode c_L_law 133 = .ok (.iaload, 1) := by decide +kernel
theorem d_L_law_134 : decode c_L_law 134 = .ok (.invokevirtual 13, 3) := by decide +kernel
theorem d_L_law_137 : decode c_L_law 137 = .ok (.aload_n 2, 1) := by decide +kernel
theorem d_L_law_138 : decode c_L_law 138 = .ok (.aload_n 0, 1) := by decide +kernel
theorem d_L_law_139 : decode c_L_law 139 = .ok (.iload_n 3, 1) := by decide +kernel
theorem d_L_law_140 : decode c_L_law 140 = .ok (.iconst 1, 1) := by decide +kernel
theorem d_L_law_141 : decode c_L_law 141 = .ok (.iadd, 1) := by decide +kernel
theorem d_L_law_142 : decode c_L_law 142 = .ok (.iaload, 1) := by decide +kernel
theorem d_L_law_143 : decode c_L_law 143 = .ok (.invokevirtual 17, 3) := by decide +kernel
theorem d_L_law_146 : decode c_L_law 146 = .ok (.if_icmp .eq 860, 3) := by decide +kernel
theorem d_L_law_149 : decode c_L_law 149 = .ok (.iconst 0, 1) := by decide +kernel
theorem d_L_law_150 : decode c_L_law 150 = .ok (.ireturn, 1) := by decide +kernel
theorem d_L_law_151 : decode c_L_law 151 = .ok (.aload_n 1, 1) := by decide +kernel
theorem d_L_law_152 : decode c_L_law 152 = .ok (.invokevirtual 18, 3) := by decide +kernel
theorem d_L_law_155 : decode c_L_law 155 = .ok (.aload_n 2, 1) := by decide +kernel
theorem d_L_law_156 : decode c_L_law 156 = .ok (.invokevirtual 22, 3) := by decide +kernel
theorem d_L_law_159 : decode c_L_law 159 = .ok (.if_icmp .eq 847, 3) := by decide +kernel
theorem d_L_law_162 : decode c_L_law 162 = .ok (.iconst 0, 1) := by decide +kernel
theorem d_L_law_163 : decode c_L_law 163 = .ok (.ireturn, 1) := by decide +kernel
theorem d_L_law_164 : decode c_L_law 164 = .ok (.aload_n 1, 1) := by decide +kernel
theorem d_L_law_165 : decode c_L_law 165 = .ok (.aload_n 0, 1) := by decide +kernel
theorem d_L_law_166 : decode c_L_law 166 = .ok (.iload_n 3, 1) := by decide +kernel
theorem d_L_law_167 : decode c_L_law 167 = .ok (.iconst 1, 1) := by decide +kernel
theorem d_L_law_168 : decode c_L_law 168 = .ok (.iadd, 1) := by decide +kernel
theorem d_L_law_169 : decode c_L_law 169 = .ok (.iaload, 1) := by decide +kernel
theorem d_L_law_170 : decode c_L_law 170 = .ok (.aload_n 0, 1) := by decide +kernel
theorem d_L_law_171 : decode c_L_law 171 = .ok (.iload_n 3, 1) := by decide +kernel
theorem d_L_law_172 : decode c_L_law 172 = .ok (.iconst 2, 1) := by decide +kernel
theorem d_L_law_173 : decode c_L_law 173 = .ok (.iadd, 1) := by decide +kernel
theorem d_L_law_174 : decode c_L_law 174 = .ok (.iaload, 1) := by decide +kernel
theorem d_L_law_175 : decode c_L_law 175 = .ok (.i2l, 1) := by decide +kernel
theorem d_L_law_176 : decode c_L_law 176 = .ok (.bipush 32, 2) := by decide +kernel
theorem d_L_law_178 : decode c_L_law 178 = .ok (.lshl, 1) := by decide +kernel
theorem d_L_law_179 : decode c_L_law 179 = .ok (.aload_n 0, 1) := by decide +kernel
theorem d_L_law_180 : decode c_L_law 180 = .ok (.iload_n 3, 1) := by decide +kernel
theorem d_L_law_181 : decode c_L_law 181 = .ok (.iconst 3, 1) := by decide +kernel
theorem d_L_law_182 : decode c_L_law 182 = .ok (.iadd, 1) := by decide +kernel
theorem d_L_law_183 : decode c_L_law 183 = .ok (.iaload, 1) := by decide +kernel
theorem d_L_law_184 : decode c_L_law 184 = .ok (.i2l, 1) := by decide +kernel
theorem d_L_law_185 : decode c_L_law 185 = .ok (.ldc2_w 23, 3) := by decide +kernel
theorem d_L_law_188 : decode c_L_law 188 = .ok (.land, 1) := by decide +kernel
theorem d_L_law_189 : decode c_L_law 189 = .ok (.lor, 1) := by decide +kernel
theorem d_L_law_190 : decode c_L_law 190 = .ok (.invokevirtual 25, 3) := by decide +kernel
theorem d_L_law_193 : decode c_L_law 193 = .ok (.aload_n 2, 1) := by decide +kernel
theorem d_L_law_194 : decode c_L_law 194 = .ok (.aload_n 0, 1) := by decide +kernel
theorem d_L_law_195 : decode c_L_law 195 = .ok (.iload_n 3, 1) := by decide +kernel
theorem d_L_law_196 : decode c_L_law 196 = .ok (.iconst 1, 1) := by decide +kernel
theorem d_L_law_197 : decode c_L_law 197 = .ok (.iadd, 1) := by decide +kernel
theorem d_L_law_198 : decode c_L_law 198 = .ok (.iaload, 1) := by decide +kernel
theorem d_L_law_199 : decode c_L_law 199 = .ok (.aload_n 0, 1) := by decide +kernel
theorem d_L_law_200 : decode c_L_law 200 = .ok (.iload_n 3, 1) := by decide +kernel
theorem d_L_law_201 : decode c_L_law 201 = .ok (.iconst 2, 1) := by decide +kernel
theorem d_L_law_202 : decode c_L_law 202 = .ok (.iadd, 1) := by decide +kernel
theorem d_L_law_203 : decode c_L_law 203 = .ok (.iaload, 1) := by decide +kernel
theorem d_L_law_204 : decode c_L_law 204 = .ok (.i2l, 1) := by decide +kernel
theorem d_L_law_205 : decode c_L_law 205 = .ok (.bipush 32, 2) := by decide +kernel
theorem d_L_law_207 : decode c_L_law 207 = .ok (.lshl, 1) := by decide +kernel
theorem d_L_law_208 : decode c_L_law 208 = .ok (.aload_n 0, 1) := by decide +kernel
theorem d_L_law_209 : decode c_L_law 209 = .ok (.iload_n 3, 1) := by decide +kernel
theorem d_L_law_210 : decode c_L_law 210 = .ok (.iconst 3, 1) := by decide +kernel
theorem d_L_law_211 : decode c_L_law 211 = .ok (.iadd, 1) := by decide +kernel
theorem d_L_law_212 : decode c_L_law 212 = .ok (.iaload, 1) := by decide +kernel
theorem d_L_law_213 : decode c_L_law 213 = .ok (.i2l, 1) := by decide +kernel
theorem d_L_law_214 : decode c_L_law 214 = .ok (.ldc2_w 23, 3) := by decide +kernel
theorem d_L_law_217 : decode c_L_law 217 = .ok (.land, 1) := by decide +kernel
theorem d_L_law_218 : decode c_L_law 218 = .ok (.lor, 1) := by decide +kernel
theorem d_L_law_219 : decode c_L_law 219 = .ok (.invokevirtual 29, 3) := by decide +kernel
theorem d_L_law_222 : decode c_L_law 222 = .ok (.if_icmp .eq 784, 3) := by decide +kernel
theorem d_L_law_225 : decode c_L_law 225 = .ok (.iconst 0, 1) := by decide +kernel
theorem d_L_law_226 : decode c_L_law 226 = .ok (.ireturn, 1) := by decide +kernel
theorem d_L_law_227 : decode c_L_law 227 = .ok (.aload_n 1, 1) := by decide +kernel
theorem d_L_law_228 : decode c_L_law 228 = .ok (.aload_n 0, 1) := by decide +kernel
theorem d_L_law_229 : decode c_L_law 229 = .ok (.iload_n 3, 1) := by decide +kernel
theorem d_L_law_230 : decode c_L_law 230 = .ok (.iconst 1, 1) := by decide +kernel
theorem d_L_law_231 : decode c_L_law 231 = .ok (.iadd, 1) := by decide +kernel
theorem d_L_law_232 : decode c_L_law 232 = .ok (.iaload, 1) := by decide +kernel
theorem d_L_law_233 : decode c_L_law 233 = .ok (.aload_n 0, 1) := by decide +kernel
theorem d_L_law_234 : decode c_L_law 234 = .ok (.iload_n 3, 1) := by decide +kernel
theorem d_L_law_235 : decode c_L_law 235 = .ok (.iconst 2, 1) := by decide +kernel
theorem d_L_law_236 : decode c_L_law 236 = .ok (.iadd, 1) := by decide +kernel
theorem d_L_law_237 : decode c_L_law 237 = .ok (.iaload, 1) := by decide +kernel
theorem d_L_law_238 : decode c_L_law 238 = .ok (.aload_n 0, 1) := by decide +kernel
theorem d_L_law_239 : decode c_L_law 239 = .ok (.iload_n 3, 1) := by decide +kernel
theorem d_L_law_240 : decode c_L_law 240 = .ok (.iconst 3, 1) := by decide +kernel
theorem d_L_law_241 : decode c_L_law 241 = .ok (.iadd, 1) := by decide +kernel
theorem d_L_law_242 : decode c_L_law 242 = .ok (.iaload, 1) := by decide +kernel
theorem d_L_law_243 : decode c_L_law 243 = .ok (.invokevirtual 30, 3) := by decide +kernel
theorem d_L_law_246 : decode c_L_law 246 = .ok (.aload_n 2, 1) := by decide +kernel
theorem d_L_law_247 : decode c_L_law 247 = .ok (.aload_n 0, 1) := by decide +kernel
theorem d_L_law_248 : decode c_L_law 248 = .ok (.iload_n 3, 1) := by decide +kernel
theorem d_L_law_249 : decode c_L_law 249 = .ok (.iconst 1, 1) := by decide +kernel
theorem d_L_law_250 : decode c_L_law 250 = .ok (.iadd, 1) := by decide +kernel
theorem d_L_law_251 : decode c_L_law 251 = .ok (.iaload, 1) := by decide +kernel
theorem d_L_law_252 : decode c_L_law 252 = .ok (.aload_n 0, 1) := by decide +kernel
theorem d_L_law_253 : decode c_L_law 253 = .ok (.iload_n 3, 1) := by decide +kernel
theorem d_L_law_254 : decode c_L_law 254 = .ok (.iconst 2, 1) := by decide +kernel
theorem d_L_law_255 : decode c_L_law 255 = .ok (.iadd, 1) := by decide +kernel
theorem d_L_law_256 : decode c_L_law 256 = .ok (.iaload, 1) := by decide +kernel
theorem d_L_law_257 : decode c_L_law 257 = .ok (.aload_n 0, 1) := by decide +kernel
theorem d_L_law_258 : decode c_L_law 258 = .ok (.iload_n 3, 1) := by decide +kernel
theorem d_L_law_259 : decode c_L_law 259 = .ok (.iconst 3, 1) := by decide +kernel
theorem d_L_law_260 : decode c_L_law 260 = .ok (.iadd, 1) := by decide +kernel
theorem d_L_law_261 : decode c_L_law 261 = .ok (.iaload, 1) := by decide +kernel
theorem d_L_law_262 : decode c_L_law 262 = .ok (.invokevirtual 34, 3) := by decide +kernel
theorem d_L_law_265 : decode c_L_law 265 = .ok (.if_icmp .eq 741, 3) := by decide +kernel
theorem d_L_law_268 : decode c_L_law 268 = .ok (.iconst 0, 1) := by decide +kernel
theorem d_L_law_269 : decode c_L_law 269 = .ok (.ireturn, 1) := by decide +kernel
theorem d_L_law_270 : decode c_L_law 270 = .ok (.aload_n 1, 1) := by decide +kernel
theorem d_L_law_271 : decode c_L_law 271 = .ok (.aload_n 0, 1) := by decide +kernel
theorem d_L_law_272 : decode c_L_law 272 = .ok (.iload_n 3, 1) := by decide +kernel
theorem d_L_law_273 : decode c_L_law 273 = .ok (.iconst 1, 1) := by decide +kernel
theorem d_L_law_274 : decode c_L_law 274 = .ok (.iadd, 1) := by decide +kernel
theorem d_L_law_275 : decode c_L_law 275 = .ok (.iaload, 1) := by decide +kernel
theorem d_L_law_276 : decode c_L_law 276 = .ok (.aload_n 0, 1) := by decide +kernel
theorem d_L_law_277 : decode c_L_law 277 = .ok (.iload_n 3, 1) := by decide +kernel
theorem d_L_law_278 : decode c_L_law 278 = .ok (.iconst 2, 1) := by decide +kernel
theorem d_L_law_279 : decode c_L_law 279 = .ok (.iadd, 1) := by decide +kernel
theorem d_L_law_280 : decode c_L_law 280 = .ok (.iaload, 1) := by decide +kernel
theorem d_L_law_281 : decode c_L_law 281 = .ok (.aload_n 0, 1) := by decide +kernel
theorem d_L_law_282 : decode c_L_law 282 = .ok (.iload_n 3, 1) := by decide +kernel
theorem d_L_law_283 : decode c_L_law 283 = .ok (.iconst 3, 1) := by decide +kernel
theorem d_L_law_284 : decode c_L_law 284 = .ok (.iadd, 1) := by decide +kernel
theorem d_L_law_285 : decode c_L_law 285 = .ok (.iaload, 1) := by decide +kernel
theorem d_L_law_286 : decode c_L_law 286 = .ok (.i2l, 1) := by decide +kernel
theorem d_L_law_287 : decode c_L_law 287 = .ok (.bipush 32, 2) := by decide +kernel
theorem d_L_law_289 : decode c_L_law 289 = .ok (.lshl, 1) := by decide +kernel
theorem d_L_law_290 : decode c_L_law 290 = .ok (.aload_n 0, 1) := by decide +kernel
theorem d_L_law_291 : decode c_L_law 291 = .ok (.iload_n 3, 1) := by decide +kernel
theorem d_L_law_292 : decode c_L_law 292 = .ok (.iconst 4, 1) := by decide +kernel
theorem d_L_law_293 : decode c_L_law 293 = .ok (.iadd, 1) := by decide +kernel
theorem d_L_law_294 : decode c_L_law 294 = .ok (.iaload, 1) := by decide +kernel
theorem d_L_law_295 : decode c_L_law 295 = .ok (.i2l, 1) := by decide +kernel
theorem d_L_law_296 : decode c_L_law 296 = .ok (.ldc2_w 23, 3) := by decide +kernel
theorem d_L_law_299 : decode c_L_law 299 = .ok (.land, 1) := by decide +kernel
theorem d_L_law_300 : decode c_L_law 300 = .ok (.lor, 1) := by decide +kernel
theorem d_L_law_301 : decode c_L_law 301 = .ok (.invokevirtual 35, 3) := by decide +kernel
theorem d_L_law_304 : decode c_L_law 304 = .ok (.aload_n 2, 1) := by decide +kernel
theorem d_L_law_305 : decode c_L_law 305 = .ok (.aload_n 0, 1) := by decide +kernel
theorem d_L_law_306 : decode c_L_law 306 = .ok (.iload_n 3, 1) := by decide +kernel
theorem d_L_law_307 : decode c_L_law 307 = .ok (.iconst 1, 1) := by decide +kernel
theorem d_L_law_308 : decode c_L_law 308 = .ok (.iadd, 1) := by decide +kernel
theorem d_L_law_309 : decode c_L_law 309 = .ok (.iaload, 1) := by decide +kernel
theorem d_L_law_310 : decode c_L_law 310 = .ok (.aload_n 0, 1) := by decide +kernel
theorem d_L_law_311 : decode c_L_law 311 = .ok (.iload_n 3, 1) := by decide +kernel
theorem d_L_law_312 : decode c_L_law 312 = .ok (.iconst 2, 1) := by decide +kernel
theorem d_L_law_313 : decode c_L_law 313 = .ok (.iadd, 1) := by decide +kernel
theorem d_L_law_314 : decode c_L_law 314 = .ok (.iaload, 1) := by decide +kernel
theorem d_L_law_315 : decode c_L_law 315 = .ok (.aload_n 0, 1) := by decide +kernel
theorem d_L_law_316 : decode c_L_law 316 = .ok (.iload_n 3, 1) := by decide +kernel
theorem d_L_law_317 : decode c_L_law 317 = .ok (.iconst 3, 1) := by decide +kernel
theorem d_L_law_318 : decode c_L_law 318 = .ok (.iadd, 1) := by decide +kernel
theorem d_L_law_319 : decode c_L_law 319 = .ok (.iaload, 1) := by decide +kernel
theorem d_L_law_320 : decode c_L_law 320 = .ok (.i2l, 1) := by decide +kernel
theorem d_L_law_321 : decode c_L_law 321 = .ok (.bipush 32, 2) := by decide +kernel
theorem d_L_law_323 : decode c_L_law 323 = .ok (.lshl, 1) := by decide +kernel
theorem d_L_law_324 : decode c_L_law 324 = .ok (.aload_n 0, 1) := by decide +kernel
theorem d_L_law_325 : decode c_L_law 325 = .ok (.iload_n 3, 1) := by decide +kernel
theorem d_L_law_326 : decode c_L_law 326 = .ok (.iconst 4, 1) := by decide +kernel
theorem d_L_law_327 : decode c_L_law 327 = .ok (.iadd, 1) := by decide +kernel
theorem d_L_law_328 : decode c_L_law 328 = .ok (.iaload, 1) := by decide +kernel
theorem d_L_law_329 : decode c_L_law 329 = .ok (.i2l, 1) := by decide +kernel
theorem d_L_law_330 : decode c_L_law 330 = .ok (.ldc2_w 23, 3) := by decide +kernel
theorem d_L_law_333 : decode c_L_law 333 = .ok (.land, 1) := by decide +kernel
theorem d_L_law_334 : decode c_L_law 334 = .ok (.lor, 1) := by decide +kernel
theorem d_L_law_335 : decode c_L_law 335 = .ok (.invokevirtual 39, 3) := by decide +kernel
theorem d_L_law_338 : decode c_L_law 338 = .ok (.if_icmp .eq 668, 3) := by decide +kernel
theorem d_L_law_341 : decode c_L_law 341 = .ok (.iconst 0, 1) := by decide +kernel
theorem d_L_law_342 : decode c_L_law 342 = .ok (.ireturn, 1) := by decide +kernel
theorem d_L_law_343 : decode c_L_law 343 = .ok (.aload_n 1, 1) := by decide +kernel
theorem d_L_law_344 : decode c_L_law 344 = .ok (.aload_n 0, 1) := by decide +kernel
theorem d_L_law_345 : decode c_L_law 345 = .ok (.iload_n 3, 1) := by decide +kernel
theorem d_L_law_346 : decode c_L_law 346 = .ok (.iconst 1, 1) := by decide +kernel
theorem d_L_law_347 : decode c_L_law 347 = .ok (.iadd, 1) := by decide +kernel
theorem d_L_law_348 : decode c_L_law 348 = .ok (.iaload, 1) := by decide +kernel
theorem d_L_law_349 : decode c_L_law 349 = .ok (.aload_n 0, 1) := by decide +kernel
theorem d_L_law_350 : decode c_L_law 350 = .ok (.iload_n 3, 1) := by decide +kernel
theorem d_L_law_351 : decode c_L_law 351 = .ok (.iconst 2, 1) := by decide +kernel
theorem d_L_law_352 : decode c_L_law 352 = .ok (.iadd, 1) := by decide +kernel
theorem d_L_law_353 : decode c_L_law 353 = .ok (.iaload, 1) := by decide +kernel
theorem d_L_law_354 : decode c_L_law 354 = .ok (.invokevirtual 40, 3) := by decide +kernel
theorem d_L_law_357 : decode c_L_law 357 = .ok (.aload_n 2, 1) := by decide +kernel
theorem d_L_law_358 : decode c_L_law 358 = .ok (.aload_n 0, 1) := by decide +kernel
theorem d_L_law_359 : decode c_L_law 359 = .ok (.iload_n 3, 1) := by decide +kernel
theorem d_L_law_360 : decode c_L_law 360 = .ok (.iconst 1, 1) := by decide +kernel
theorem d_L_law_361 : decode c_L_law 361 = .ok (.iadd, 1) := by decide +kernel
theorem d_L_law_362 : decode c_L_law 362 = .ok (.iaload, 1) := by decide +kernel
theorem d_L_law_363 : decode c_L_law 363 = .ok (.aload_n 0, 1) := by decide +kernel
theorem d_L_law_364 : decode c_L_law 364 = .ok (.iload_n 3, 1) := by decide +kernel
theorem d_L_law_365 : decode c_L_law 365 = .ok (.iconst 2, 1) := by decide +kernel
theorem d_L_law_366 : decode c_L_law 366 = .ok (.iadd, 1) := by decide +kernel
theorem d_L_law_367 : decode c_L_law 367 = .ok (.iaload, 1) := by decide +kernel
theorem d_L_law_368 : decode c_L_law 368 = .ok (.invokevirtual 44, 3) := by decide +kernel
theorem d_L_law_371 : decode c_L_law 371 = .ok (.lcmp, 1) := by decide +kernel
theorem d_L_law_372 : decode c_L_law 372 = .ok (.ifCond .eq 634, 3) := by decide +kernel
theorem d_L_law_375 : decode c_L_law 375 = .ok (.iconst 0, 1) := by decide +kernel
theorem d_L_law_376 : decode c_L_law 376 = .ok (.ireturn, 1) := by decide +kernel
theorem d_L_law_377 : decode c_L_law 377 = .ok (.aload_n 1, 1) := by decide +kernel
theorem d_L_law_378 : decode c_L_law 378 = .ok (.aload_n 0, 1) := by decide +kernel
theorem d_L_law_379 : decode c_L_law 379 = .ok (.iload_n 3, 1) := by decide +kernel
theorem d_L_law_380 : decode c_L_law 380 = .ok (.iconst 1, 1) := by decide +kernel
theorem d_L_law_381 : decode c_L_law 381 = .ok (.iadd, 1) := by decide +kernel
theorem d_L_law_382 : decode c_L_law 382 = .ok (.iaload, 1) := by decide +kernel
theorem d_L_law_383 : decode c_L_law 383 = .ok (.aload_n 0, 1) := by decide +kernel
theorem d_L_law_384 : decode c_L_law 384 = .ok (.iload_n 3, 1) := by decide +kernel
theorem d_L_law_385 : decode c_L_law 385 = .ok (.iconst 2, 1) := by decide +kernel
theorem d_L_law_386 : decode c_L_law 386 = .ok (.iadd, 1) := by decide +kernel
theorem d_L_law_387 : decode c_L_law 387 = .ok (.iaload, 1) := by decide +kernel
theorem d_L_law_388 : decode c_L_law 388 = .ok (.i2l, 1) := by decide +kernel
theorem d_L_law_389 : decode c_L_law 389 = .ok (.bipush 32, 2) := by decide +kernel
theorem d_L_law_391 : decode c_L_law 391 = .ok (.lshl, 1) := by decide +kernel
theorem d_L_law_392 : decode c_L_law 392 = .ok (.aload_n 0, 1) := by decide +kernel
theorem d_L_law_393 : decode c_L_law 393 = .ok (.iload_n 3, 1) := by decide +kernel
theorem d_L_law_394 : decode c_L_law 394 = .ok (.iconst 3, 1) := by decide +kernel
theorem d_L_law_395 : decode c_L_law 395 = .ok (.iadd, 1) := by decide +kernel
theorem d_L_law_396 : decode c_L_law 396 = .ok (.iaload, 1) := by decide +kernel
theorem d_L_law_397 : decode c_L_law 397 = .ok (.i2l, 1) := by decide +kernel
theorem d_L_law_398 : decode c_L_law 398 = .ok (.ldc2_w 23, 3) := by decide +kernel
theorem d_L_law_401 : decode c_L_law 401 = .ok (.land, 1) := by decide +kernel
theorem d_L_law_402 : decode c_L_law 402 = .ok (.lor, 1) := by decide +kernel
theorem d_L_law_403 : decode c_L_law 403 = .ok (.aload_n 0, 1) := by decide +kernel
theorem d_L_law_404 : decode c_L_law 404 = .ok (.iload_n 3, 1) := by decide +kernel
theorem d_L_law_405 : decode c_L_law 405 = .ok (.iconst 4, 1) := by decide +kernel
theorem d_L_law_406 : decode c_L_law 406 = .ok (.iadd, 1) := by decide +kernel
theorem d_L_law_407 : decode c_L_law 407 = .ok (.iaload, 1) := by decide +kernel
theorem d_L_law_408 : decode c_L_law 408 = .ok (.invokevirtual 45, 3) := by decide +kernel
theorem d_L_law_411 : decode c_L_law 411 = .ok (.aload_n 2, 1) := by decide +kernel
theorem d_L_law_412 : decode c_L_law 412 = .ok (.aload_n 0, 1) := by decide +kernel
theorem d_L_law_413 : decode c_L_law 413 = .ok (.iload_n 3, 1) := by decide +kernel
theorem d_L_law_414 : decode c_L_law 414 = .ok (.iconst 1, 1) := by decide +kernel
theorem d_L_law_415 : decode c_L_law 415 = .ok (.iadd, 1) := by decide +kernel
theorem d_L_law_416 : decode c_L_law 416 = .ok (.iaload, 1) := by decide +kernel
theorem d_L_law_417 : decode c_L_law 417 = .ok (.aload_n 0, 1) := by decide +kernel
theorem d_L_law_418 : decode c_L_law 418 = .ok (.iload_n 3, 1) := by decide +kernel
theorem d_L_law_419 : decode c_L_law 419 = .ok (.iconst 2, 1) := by decide +kernel
theorem d_L_law_420 : decode c_L_law 420 = .ok (.iadd, 1) := by decide +kernel
theorem d_L_law_421 : decode c_L_law 421 = .ok (.iaload, 1) := by decide +kernel
theorem d_L_law_422 : decode c_L_law 422 = .ok (.i2l, 1) := by decide +kernel
theorem d_L_law_423 : decode c_L_law 423 = .ok (.bipush 32, 2) := by decide +kernel
theorem d_L_law_425 : decode c_L_law 425 = .ok (.lshl, 1) := by decide +kernel
theorem d_L_law_426 : decode c_L_law 426 = .ok (.aload_n 0, 1) := by decide +kernel
theorem d_L_law_427 : decode c_L_law 427 = .ok (.iload_n 3, 1) := by decide +kernel
theorem d_L_law_428 : decode c_L_law 428 = .ok (.iconst 3, 1) := by decide +kernel
theorem d_L_law_429 : decode c_L_law 429 = .ok (.iadd, 1) := by decide +kernel
theorem d_L_law_430 : decode c_L_law 430 = .ok (.iaload, 1) := by decide +kernel
theorem d_L_law_431 : decode c_L_law 431 = .ok (.i2l, 1) := by decide +kernel
theorem d_L_law_432 : decode c_L_law 432 = .ok (.ldc2_w 23, 3) := by decide +kernel
theorem d_L_law_435 : decode c_L_law 435 = .ok (.land, 1) := by decide +kernel
theorem d_L_law_436 : decode c_L_law 436 = .ok (.lor, 1) := by decide +kernel
theorem d_L_law_437 : decode c_L_law 437 = .ok (.aload_n 0, 1) := by decide +kernel
theorem d_L_law_438 : decode c_L_law 438 = .ok (.iload_n 3, 1) := by decide +kernel
theorem d_L_law_439 : decode c_L_law 439 = .ok (.iconst 4, 1) := by decide +kernel
theorem d_L_law_440 : decode c_L_law 440 = .ok (.iadd, 1) := by decide +kernel
theorem d_L_law_441 : decode c_L_law 441 = .ok (.iaload, 1) := by decide +kernel
theorem d_L_law_442 : decode c_L_law 442 = .ok (.invokevirtual 49, 3) := by decide +kernel
theorem d_L_law_445 : decode c_L_law 445 = .ok (.if_icmp .eq 561, 3) := by decide +kernel
theorem d_L_law_448 : decode c_L_law 448 = .ok (.iconst 0, 1) := by decide +kernel
theorem d_L_law_449 : decode c_L_law 449 = .ok (.ireturn, 1) := by decide +kernel
theorem d_L_law_450 : decode c_L_law 450 = .ok (.aload_n 1, 1) := by decide +kernel
theorem d_L_law_451 : decode c_L_law 451 = .ok (.aload_n 0, 1) := by decide +kernel
theorem d_L_law_452 : decode c_L_law 452 = .ok (.iload_n 3, 1) := by decide +kernel
theorem d_L_law_453 : decode c_L_law 453 = .ok (.iconst 1, 1) := by decide +kernel
theorem d_L_law_454 : decode c_L_law 454 = .ok (.iadd, 1) := by decide +kernel
theorem d_L_law_455 : decode c_L_law 455 = .ok (.iaload, 1) := by decide +kernel
theorem d_L_law_456 : decode c_L_law 456 = .ok (.i2l, 1) := by decide +kernel
theorem d_L_law_457 : decode c_L_law 457 = .ok (.bipush 32, 2) := by decide +kernel
theorem d_L_law_459 : decode c_L_law 459 = .ok (.lshl, 1) := by decide +kernel
theorem d_L_law_460 : decode c_L_law 460 = .ok (.aload_n 0, 1) := by decide +kernel
theorem d_L_law_461 : decode c_L_law 461 = .ok (.iload_n 3, 1) := by decide +kernel
theorem d_L_law_462 : decode c_L_law 462 = .ok (.iconst 2, 1) := by decide +kernel
theorem d_L_law_463 : decode c_L_law 463 = .ok (.iadd, 1) := by decide +kernel
theorem d_L_law_464 : decode c_L_law 464 = .ok (.iaload, 1) := by decide +kernel
theorem d_L_law_465 : decode c_L_law 465 = .ok (.i2l, 1) := by decide +kernel
theorem d_L_law_466 : decode c_L_law 466 = .ok (.ldc2_w 23, 3) := by decide +kernel
theorem d_L_law_469 : decode c_L_law 469 = .ok (.land, 1) := by decide +kernel
theorem d_L_law_470 : decode c_L_law 470 = .ok (.lor, 1) := by decide +kernel
theorem d_L_law_471 : decode c_L_law 471 = .ok (.invokevirtual 50, 3) := by decide +kernel
theorem d_L_law_474 : decode c_L_law 474 = .ok (.aload_n 2, 1) := by decide +kernel
theorem d_L_law_475 : decode c_L_law 475 = .ok (.aload_n 0, 1) := by decide +kernel
theorem d_L_law_476 : decode c_L_law 476 = .ok (.iload_n 3, 1) := by decide +kernel
theorem d_L_law_477 : decode c_L_law 477 = .ok (.iconst 1, 1) := by decide +kernel
theorem d_L_law_478 : decode c_L_law 478 = .ok (.iadd, 1) := by decide +kernel
theorem d_L_law_479 : decode c_L_law 479 = .ok (.iaload, 1) := by decide +kernel
theorem d_L_law_480 : decode c_L_law 480 = .ok (.i2l, 1) := by decide +kernel
theorem d_L_law_481 : decode c_L_law 481 = .ok (.bipush 32, 2) := by decide +kernel
theorem d_L_law_483 : decode c_L_law 483 = .ok (.lshl, 1) := by decide +kernel
theorem d_L_law_484 : decode c_L_law 484 = .ok (.aload_n 0, 1) := by decide +kernel
theorem d_L_law_485 : decode c_L_law 485 = .ok (.iload_n 3, 1) := by decide +kernel
theorem d_L_law_486 : decode c_L_law 486 = .ok (.iconst 2, 1) := by decide +kernel
theorem d_L_law_487 : decode c_L_law 487 = .ok (.iadd, 1) := by decide +kernel
theorem d_L_law_488 : decode c_L_law 488 = .ok (.iaload, 1) := by decide +kernel
theorem d_L_law_489 : decode c_L_law 489 = .ok (.i2l, 1) := by decide +kernel
theorem d_L_law_490 : decode c_L_law 490 = .ok (.ldc2_w 23, 3) := by decide +kernel
theorem d_L_law_493 : decode c_L_law 493 = .ok (.land, 1) := by decide +kernel
theorem d_L_law_494 : decode c_L_law 494 = .ok (.lor, 1) := by decide +kernel
theorem d_L_law_495 : decode c_L_law 495 = .ok (.invokevirtual 54, 3) := by decide +kernel
theorem d_L_law_498 : decode c_L_law 498 = .ok (.if_icmp .eq 508, 3) := by decide +kernel
theorem d_L_law_501 : decode c_L_law 501 = .ok (.iconst 0, 1) := by decide +kernel
theorem d_L_law_502 : decode c_L_law 502 = .ok (.ireturn, 1) := by decide +kernel
theorem d_L_law_503 : decode c_L_law 503 = .ok (.aload_n 1, 1) := by decide +kernel
theorem d_L_law_504 : decode c_L_law 504 = .ok (.aload_n 0, 1) := by decide +kernel
theorem d_L_law_505 : decode c_L_law 505 = .ok (.iload_n 3, 1) := by decide +kernel
theorem d_L_law_506 : decode c_L_law 506 = .ok (.iconst 1, 1) := by decide +kernel
theorem d_L_law_507 : decode c_L_law 507 = .ok (.iadd, 1) := by decide +kernel
theorem d_L_law_508 : decode c_L_law 508 = .ok (.iaload, 1) := by decide +kernel
theorem d_L_law_509 : decode c_L_law 509 = .ok (.invokevirtual 55, 3) := by decide +kernel
theorem d_L_law_512 : decode c_L_law 512 = .ok (.aload_n 2, 1) := by decide +kernel
theorem d_L_law_513 : decode c_L_law 513 = .ok (.aload_n 0, 1) := by decide +kernel
theorem d_L_law_514 : decode c_L_law 514 = .ok (.iload_n 3, 1) := by decide +kernel
theorem d_L_law_515 : decode c_L_law 515 = .ok (.iconst 1, 1) := by decide +kernel
theorem d_L_law_516 : decode c_L_law 516 = .ok (.iadd, 1) := by decide +kernel
theorem d_L_law_517 : decode c_L_law 517 = .ok (.iaload, 1) := by decide +kernel
theorem d_L_law_518 : decode c_L_law 518 = .ok (.invokevirtual 59, 3) := by decide +kernel
theorem d_L_law_521 : decode c_L_law 521 = .ok (.lcmp, 1) := by decide +kernel
theorem d_L_law_522 : decode c_L_law 522 = .ok (.ifCond .eq 484, 3) := by decide +kernel
theorem d_L_law_525 : decode c_L_law 525 = .ok (.iconst 0, 1) := by decide +kernel
theorem d_L_law_526 : decode c_L_law 526 = .ok (.ireturn, 1) := by decide +kernel
theorem d_L_law_527 : decode c_L_law 527 = .ok (.aload_n 1, 1) := by decide +kernel
theorem d_L_law_528 : decode c_L_law 528 = .ok (.aload_n 0, 1) := by decide +kernel
theorem d_L_law_529 : decode c_L_law 529 = .ok (.iload_n 3, 1) := by decide +kernel
theorem d_L_law_530 : decode c_L_law 530 = .ok (.iconst 1, 1) := by decide +kernel
theorem d_L_law_531 : decode c_L_law 531 = .ok (.iadd, 1) := by decide +kernel
theorem d_L_law_532 : decode c_L_law 532 = .ok (.iaload, 1) := by decide +kernel
theorem d_L_law_533 : decode c_L_law 533 = .ok (.invokevirtual 60, 3) := by decide +kernel
theorem d_L_law_536 : decode c_L_law 536 = .ok (.aload_n 2, 1) := by decide +kernel
theorem d_L_law_537 : decode c_L_law 537 = .ok (.aload_n 0, 1) := by decide +kernel
theorem d_L_law_538 : decode c_L_law 538 = .ok (.iload_n 3, 1) := by decide +kernel
theorem d_L_law_539 : decode c_L_law 539 = .ok (.iconst 1, 1) := by decide +kernel
theorem d_L_law_540 : decode c_L_law 540 = .ok (.iadd, 1) := by decide +kernel
theorem d_L_law_541 : decode c_L_law 541 = .ok (.iaload, 1) := by decide +kernel
theorem d_L_law_542 : decode c_L_law 542 = .ok (.invokevirtual 63, 3) := by decide +kernel
theorem d_L_law_545 : decode c_L_law 545 = .ok (.lcmp, 1) := by decide +kernel
theorem d_L_law_546 : decode c_L_law 546 = .ok (.ifCond .eq 460, 3) := by decide +kernel
theorem d_L_law_549 : decode c_L_law 549 = .ok (.iconst 0, 1) := by decide +kernel
theorem d_L_law_550 : decode c_L_law 550 = .ok (.ireturn, 1) := by decide +kernel
theorem d_L_law_551 : decode c_L_law 551 = .ok (.aload_n 1, 1) := by decide +kernel
theorem d_L_law_552 : decode c_L_law 552 = .ok (.invokevirtual 64, 3) := by decide +kernel
theorem d_L_law_555 : decode c_L_law 555 = .ok (.aload_n 2, 1) := by decide +kernel
theorem d_L_law_556 : decode c_L_law 556 = .ok (.invokevirtual 68, 3) := by decide +kernel
theorem d_L_law_559 : decode c_L_law 559 = .ok (.if_icmp .eq 447, 3) := by decide +kernel
theorem d_L_law_562 : decode c_L_law 562 = .ok (.iconst 0, 1) := by decide +kernel
theorem d_L_law_563 : decode c_L_law 563 = .ok (.ireturn, 1) := by decide +kernel
theorem d_L_law_564 : decode c_L_law 564 = .ok (.aload_n 1, 1) := by decide +kernel
theorem d_L_law_565 : decode c_L_law 565 = .ok (.aload_n 0, 1) := by decide +kernel
theorem d_L_law_566 : decode c_L_law 566 = .ok (.iload_n 3, 1) := by decide +kernel
theorem d_L_law_567 : decode c_L_law 567 = .ok (.iconst 1, 1) := by decide +kernel
theorem d_L_law_568 : decode c_L_law 568 = .ok (.iadd, 1) := by decide +kernel
theorem d_L_law_569 : decode c_L_law 569 = .ok (.iaload, 1) := by decide +kernel
theorem d_L_law_570 : decode c_L_law 570 = .ok (.aload_n 0, 1) := by decide +kernel
theorem d_L_law_571 : decode c_L_law 571 = .ok (.iload_n 3, 1) := by decide +kernel
theorem d_L_law_572 : decode c_L_law 572 = .ok (.iconst 2, 1) := by decide +kernel
theorem d_L_law_573 : decode c_L_law 573 = .ok (.iadd, 1) := by decide +kernel
theorem d_L_law_574 : decode c_L_law 574 = .ok (.iaload, 1) := by decide +kernel
theorem d_L_law_575 : decode c_L_law 575 = .ok (.invokevirtual 69, 3) := by decide +kernel
theorem d_L_law_578 : decode c_L_law 578 = .ok (.aload_n 2, 1) := by decide +kernel
theorem d_L_law_579 : decode c_L_law 579 = .ok (.aload_n 0, 1) := by decide +kernel
theorem d_L_law_580 : decode c_L_law 580 = .ok (.iload_n 3, 1) := by decide +kernel
theorem d_L_law_581 : decode c_L_law 581 = .ok (.iconst 1, 1) := by decide +kernel
theorem d_L_law_582 : decode c_L_law 582 = .ok (.iadd, 1) := by decide +kernel
theorem d_L_law_583 : decode c_L_law 583 = .ok (.iaload, 1) := by decide +kernel
theorem d_L_law_584 : decode c_L_law 584 = .ok (.aload_n 0, 1) := by decide +kernel
theorem d_L_law_585 : decode c_L_law 585 = .ok (.iload_n 3, 1) := by decide +kernel
theorem d_L_law_586 : decode c_L_law 586 = .ok (.iconst 2, 1) := by decide +kernel
theorem d_L_law_587 : decode c_L_law 587 = .ok (.iadd, 1) := by decide +kernel
theorem d_L_law_588 : decode c_L_law 588 = .ok (.iaload, 1) := by decide +kernel
theorem d_L_law_589 : decode c_L_law 589 = .ok (.invokevirtual 73, 3) := by decide +kernel
theorem d_L_law_592 : decode c_L_law 592 = .ok (.if_icmp .eq 414, 3) := by decide +kernel
theorem d_L_law_595 : decode c_L_law 595 = .ok (.iconst 0, 1) := by decide +kernel
theorem d_L_law_596 : decode c_L_law 596 = .ok (.ireturn, 1) := by decide +kernel
theorem d_L_law_597 : decode c_L_law 597 = .ok (.aload_n 1, 1) := by decide +kernel
theorem d_L_law_598 : decode c_L_law 598 = .ok (.aload_n 0, 1) := by decide +kernel
theorem d_L_law_599 : decode c_L_law 599 = .ok (.iload_n 3, 1) := by decide +kernel
theorem d_L_law_600 : decode c_L_law 600 = .ok (.iconst 1, 1) := by decide +kernel
theorem d_L_law_601 : decode c_L_law 601 = .ok (.iadd, 1) := by decide +kernel
theorem d_L_law_602 : decode c_L_law 602 = .ok (.iaload, 1) := by decide +kernel
theorem d_L_law_603 : decode c_L_law 603 = .ok (.aload_n 0, 1) := by decide +kernel
theorem d_L_law_604 : decode c_L_law 604 = .ok (.iload_n 3, 1) := by decide +kernel
theorem d_L_law_605 : decode c_L_law 605 = .ok (.iconst 2, 1) := by decide +kernel
theorem d_L_law_606 : decode c_L_law 606 = .ok (.iadd, 1) := by decide +kernel
theorem d_L_law_607 : decode c_L_law 607 = .ok (.iaload, 1) := by decide +kernel
theorem d_L_law_608 : decode c_L_law 608 = .ok (.i2l, 1) := by decide +kernel
theorem d_L_law_609 : decode c_L_law 609 = .ok (.bipush 32, 2) := by decide +kernel
theorem d_L_law_611 : decode c_L_law 611 = .ok (.lshl, 1) := by decide +kernel
theorem d_L_law_612 : decode c_L_law 612 = .ok (.aload_n 0, 1) := by decide +kernel
theorem d_L_law_613 : decode c_L_law 613 = .ok (.iload_n 3, 1) := by decide +kernel
theorem d_L_law_614 : decode c_L_law 614 = .ok (.iconst 3, 1) := by decide +kernel
theorem d_L_law_615 : decode c_L_law 615 = .ok (.iadd, 1) := by decide +kernel
theorem d_L_law_616 : decode c_L_law 616 = .ok (.iaload, 1) := by decide +kernel
theorem d_L_law_617 : decode c_L_law 617 = .ok (.i2l, 1) := by decide +kernel
theorem d_L_law_618 : decode c_L_law 618 = .ok (.ldc2_w 23, 3) := by decide +kernel
theorem d_L_law_621 : decode c_L_law 621 = .ok (.land, 1) := by decide +kernel
theorem d_L_law_622 : decode c_L_law 622 = .ok (.lor, 1) := by decide +kernel
theorem d_L_law_623 : decode c_L_law 623 = .ok (.aload_n 0, 1) := by decide +kernel
theorem d_L_law_624 : decode c_L_law 624 = .ok (.iload_n 3, 1) := by decide +kernel
theorem d_L_law_625 : decode c_L_law 625 = .ok (.iconst 4, 1) := by decide +kernel
theorem d_L_law_626 : decode c_L_law 626 = .ok (.iadd, 1) := by decide +kernel
theorem d_L_law_627 : decode c_L_law 627 = .ok (.iaload, 1) := by decide +kernel
theorem d_L_law_628 : decode c_L_law 628 = .ok (.i2l, 1) := by decide +kernel
theorem d_L_law_629 : decode c_L_law 629 = .ok (.bipush 32, 2) := by decide +kernel
theorem d_L_law_631 : decode c_L_law 631 = .ok (.lshl, 1) := by decide +kernel
theorem d_L_law_632 : decode c_L_law 632 = .ok (.aload_n 0, 1) := by decide +kernel
theorem d_L_law_633 : decode c_L_law 633 = .ok (.iload_n 3, 1) := by decide +kernel
theorem d_L_law_634 : decode c_L_law 634 = .ok (.iconst 5, 1) := by decide +kernel
theorem d_L_law_635 : decode c_L_law 635 = .ok (.iadd, 1) := by decide +kernel
theorem d_L_law_636 : decode c_L_law 636 = .ok (.iaload, 1) := by decide +kernel
theorem d_L_law_637 : decode c_L_law 637 = .ok (.i2l, 1) := by decide +kernel
theorem d_L_law_638 : decode c_L_law 638 = .ok (.ldc2_w 23, 3) := by decide +kernel
theorem d_L_law_641 : decode c_L_law 641 = .ok (.land, 1) := by decide +kernel
theorem d_L_law_642 : decode c_L_law 642 = .ok (.lor, 1) := by decide +kernel
theorem d_L_law_643 : decode c_L_law 643 = .ok (.aload_n 0, 1) := by decide +kernel
theorem d_L_law_644 : decode c_L_law 644 = .ok (.iload_n 3, 1) := by decide +kernel
theorem d_L_law_645 : decode c_L_law 645 = .ok (.bipush 6, 2) := by decide +kernel
theorem d_L_law_647 : decode c_L_law 647 = .ok (.iadd, 1) := by decide +kernel
theorem d_L_law_648 : decode c_L_law 648 = .ok (.iaload, 1) := by decide +kernel
theorem d_L_law_649 : decode c_L_law 649 = .ok (.i2l, 1) := by decide +kernel
theorem d_L_law_650 : decode c_L_law 650 = .ok (.bipush 32, 2) := by decide +kernel
theorem d_L_law_652 : decode c_L_law 652 = .ok (.lshl, 1) := by decide +kernel
theorem d_L_law_653 : decode c_L_law 653 = .ok (.aload_n 0, 1) := by decide +kernel
theorem d_L_law_654 : decode c_L_law 654 = .ok (.iload_n 3, 1) := by decide +kernel
theorem d_L_law_655 : decode c_L_law 655 = .ok (.bipush 7, 2) := by decide +kernel
theorem d_L_law_657 : decode c_L_law 657 = .ok (.iadd, 1) := by decide +kernel
theorem d_L_law_658 : decode c_L_law 658 = .ok (.iaload, 1) := by decide +kernel
theorem d_L_law_659 : decode c_L_law 659 = .ok (.i2l, 1) := by decide +kernel
theorem d_L_law_660 : decode c_L_law 660 = .ok (.ldc2_w 23, 3) := by decide +kernel
theorem d_L_law_663 : decode c_L_law 663 = .ok (.land, 1) := by decide +kernel
theorem d_L_law_664 : decode c_L_law 664 = .ok (.lor, 1) := by decide +kernel
theorem d_L_law_665 : decode c_L_law 665 = .ok (.invokevirtual 74, 3) := by decide +kernel
theorem d_L_law_668 : decode c_L_law 668 = .ok (.aload_n 2, 1) := by decide +kernel
theorem d_L_law_669 : decode c_L_law 669 = .ok (.aload_n 0, 1) := by decide +kernel
theorem d_L_law_670 : decode c_L_law 670 = .ok (.iload_n 3, 1) := by decide +kernel
theorem d_L_law_671 : decode c_L_law 671 = .ok (.iconst 1, 1) := by decide +kernel
theorem d_L_law_672 : decode c_L_law 672 = .ok (.iadd, 1) := by decide +kernel
theorem d_L_law_673 : decode c_L_law 673 = .ok (.iaload, 1) := by decide +kernel
theorem d_L_law_674 : decode c_L_law 674 = .ok (.aload_n 0, 1) := by decide +kernel
theorem d_L_law_675 : decode c_L_law 675 = .ok (.iload_n 3, 1) := by decide +kernel
theorem d_L_law_676 : decode c_L_law 676 = .ok (.iconst 2, 1) := by decide +kernel
theorem d_L_law_677 : decode c_L_law 677 = .ok (.iadd, 1) := by decide +kernel
theorem d_L_law_678 : decode c_L_law 678 = .ok (.iaload, 1) := by decide +kernel
theorem d_L_law_679 : decode c_L_law 679 = .ok (.i2l, 1) := by decide +kernel
theorem d_L_law_680 : decode c_L_law 680 = .ok (.bipush 32, 2) := by decide +kernel
theorem d_L_law_682 : decode c_L_law 682 = .ok (.lshl, 1) := by decide +kernel
theorem d_L_law_683 : decode c_L_law 683 = .ok (.aload_n 0, 1) := by decide +kernel
theorem d_L_law_684 : decode c_L_law 684 = .ok (.iload_n 3, 1) := by decide +kernel
theorem d_L_law_685 : decode c_L_law 685 = .ok (.iconst 3, 1) := by decide +kernel
theorem d_L_law_686 : decode c_L_law 686 = .ok (.iadd, 1) := by decide +kernel
theorem d_L_law_687 : decode c_L_law 687 = .ok (.iaload, 1) := by decide +kernel
theorem d_L_law_688 : decode c_L_law 688 = .ok (.i2l, 1) := by decide +kernel
theorem d_L_law_689 : decode c_L_law 689 = .ok (.ldc2_w 23, 3) := by decide +kernel
theorem d_L_law_692 : decode c_L_law 692 = .ok (.land, 1) := by decide +kernel
theorem d_L_law_693 : decode c_L_law 693 = .ok (.lor, 1) := by decide +kernel
theorem d_L_law_694 : decode c_L_law 694 = .ok (.aload_n 0, 1) := by decide +kernel
theorem d_L_law_695 : decode c_L_law 695 = .ok (.iload_n 3, 1) := by decide +kernel
theorem d_L_law_696 : decode c_L_law 696 = .ok (.iconst 4, 1) := by decide +kernel
theorem d_L_law_697 : decode c_L_law 697 = .ok (.iadd, 1) := by decide +kernel
theorem d_L_law_698 : decode c_L_law 698 = .ok (.iaload, 1) := by decide +kernel
theorem d_L_law_699 : decode c_L_law 699 = .ok (.i2l, 1) := by decide +kernel
theorem d_L_law_700 : decode c_L_law 700 = .ok (.bipush 32, 2) := by decide +kernel
theorem d_L_law_702 : decode c_L_law 702 = .ok (.lshl, 1) := by decide +kernel
theorem d_L_law_703 : decode c_L_law 703 = .ok (.aload_n 0, 1) := by decide +kernel
theorem d_L_law_704 : decode c_L_law 704 = .ok (.iload_n 3, 1) := by decide +kernel
theorem d_L_law_705 : decode c_L_law 705 = .ok (.iconst 5, 1) := by decide +kernel
theorem d_L_law_706 : decode c_L_law 706 = .ok (.iadd, 1) := by decide +kernel
theorem d_L_law_707 : decode c_L_law 707 = .ok (.iaload, 1) := by decide +kernel
theorem d_L_law_708 : decode c_L_law 708 = .ok (.i2l, 1) := by decide +kernel
theorem d_L_law_709 : decode c_L_law 709 = .ok (.ldc2_w 23, 3) := by decide +kernel
theorem d_L_law_712 : decode c_L_law 712 = .ok (.land, 1) := by decide +kernel
theorem d_L_law_713 : decode c_L_law 713 = .ok (.lor, 1) := by decide +kernel
theorem d_L_law_714 : decode c_L_law 714 = .ok (.aload_n 0, 1) := by decide +kernel
theorem d_L_law_715 : decode c_L_law 715 = .ok (.iload_n 3, 1) := by decide +kernel
theorem d_L_law_716 : decode c_L_law 716 = .ok (.bipush 6, 2) := by decide +kernel
theorem d_L_law_718 : decode c_L_law 718 = .ok (.iadd, 1) := by decide +kernel
theorem d_L_law_719 : decode c_L_law 719 = .ok (.iaload, 1) := by decide +kernel
theorem d_L_law_720 : decode c_L_law 720 = .ok (.i2l, 1) := by decide +kernel
theorem d_L_law_721 : decode c_L_law 721 = .ok (.bipush 32, 2) := by decide +kernel
theorem d_L_law_723 : decode c_L_law 723 = .ok (.lshl, 1) := by decide +kernel
theorem d_L_law_724 : decode c_L_law 724 = .ok (.aload_n 0, 1) := by decide +kernel
theorem d_L_law_725 : decode c_L_law 725 = .ok (.iload_n 3, 1) := by decide +kernel
theorem d_L_law_726 : decode c_L_law 726 = .ok (.bipush 7, 2) := by decide +kernel
theorem d_L_law_728 : decode c_L_law 728 = .ok (.iadd, 1) := by decide +kernel
theorem d_L_law_729 : decode c_L_law 729 = .ok (.iaload, 1) := by decide +kernel
theorem d_L_law_730 : decode c_L_law 730 = .ok (.i2l, 1) := by decide +kernel
theorem d_L_law_731 : decode c_L_law 731 = .ok (.ldc2_w 23, 3) := by decide +kernel
theorem d_L_law_734 : decode c_L_law 734 = .ok (.land, 1) := by decide +kernel
theorem d_L_law_735 : decode c_L_law 735 = .ok (.lor, 1) := by decide +kernel
theorem d_L_law_736 : decode c_L_law 736 = .ok (.invokevirtual 78, 3) := by decide +kernel
theorem d_L_law_739 : decode c_L_law 739 = .ok (.if_icmp .eq 267, 3) := by decide +kernel
theorem d_L_law_742 : decode c_L_law 742 = .ok (.iconst 0, 1) := by decide +kernel
theorem d_L_law_743 : decode c_L_law 743 = .ok (.ireturn, 1) := by decide +kernel
theorem d_L_law_744 : decode c_L_law 744 = .ok (.aload_n 1, 1) := by decide +kernel
theorem d_L_law_745 : decode c_L_law 745 = .ok (.aload_n 0, 1) := by decide +kernel
theorem d_L_law_746 : decode c_L_law 746 = .ok (.iload_n 3, 1) := by decide +kernel
theorem d_L_law_747 : decode c_L_law 747 = .ok (.iconst 1, 1) := by decide +kernel
theorem d_L_law_748 : decode c_L_law 748 = .ok (.iadd, 1) := by decide +kernel
theorem d_L_law_749 : decode c_L_law 749 = .ok (.iaload, 1) := by decide +kernel
theorem d_L_law_750 : decode c_L_law 750 = .ok (.aload_n 0, 1) := by decide +kernel
theorem d_L_law_751 : decode c_L_law 751 = .ok (.iload_n 3, 1) := by decide +kernel
theorem d_L_law_752 : decode c_L_law 752 = .ok (.iconst 2, 1) := by decide +kernel
theorem d_L_law_753 : decode c_L_law 753 = .ok (.iadd, 1) := by decide +kernel
theorem d_L_law_754 : decode c_L_law 754 = .ok (.iaload, 1) := by decide +kernel
theorem d_L_law_755 : decode c_L_law 755 = .ok (.invokevirtual 79, 3) := by decide +kernel
theorem d_L_law_758 : decode c_L_law 758 = .ok (.aload_n 2, 1) := by decide +kernel
theorem d_L_law_759 : decode c_L_law 759 = .ok (.aload_n 0, 1) := by decide +kernel
theorem d_L_law_760 : decode c_L_law 760 = .ok (.iload_n 3, 1) := by decide +kernel
theorem d_L_law_761 : decode c_L_law 761 = .ok (.iconst 1, 1) := by decide +kernel
theorem d_L_law_762 : decode c_L_law 762 = .ok (.iadd, 1) := by decide +kernel
theorem d_L_law_763 : decode c_L_law 763 = .ok (.iaload, 1) := by decide +kernel
theorem d_L_law_764 : decode c_L_law 764 = .ok (.aload_n 0, 1) := by decide +kernel
theorem d_L_law_765 : decode c_L_law 765 = .ok (.iload_n 3, 1) := by decide +kernel
theorem d_L_law_766 : decode c_L_law 766 = .ok (.iconst 2, 1) := by decide +kernel
theorem d_L_law_767 : decode c_L_law 767 = .ok (.iadd, 1) := by decide +kernel
theorem d_L_law_768 : decode c_L_law 768 = .ok (.iaload, 1) := by decide +kernel
theorem d_L_law_769 : decode c_L_law 769 = .ok (.invokevirtual 82, 3) := by decide +kernel
theorem d_L_law_772 : decode c_L_law 772 = .ok (.if_icmp .eq 234, 3) := by decide +kernel
theorem d_L_law_775 : decode c_L_law 775 = .ok (.iconst 0, 1) := by decide +kernel
theorem d_L_law_776 : decode c_L_law 776 = .ok (.ireturn, 1) := by decide +kernel
theorem d_L_law_777 : decode c_L_law 777 = .ok (.aload_n 1, 1) := by decide +kernel
theorem d_L_law_778 : decode c_L_law 778 = .ok (.aload_n 0, 1) := by decide +kernel
theorem d_L_law_779 : decode c_L_law 779 = .ok (.iload_n 3, 1) := by decide +kernel
theorem d_L_law_780 : decode c_L_law 780 = .ok (.iconst 1, 1) := by decide +kernel
theorem d_L_law_781 : decode c_L_law 781 = .ok (.iadd, 1) := by decide +kernel
theorem d_L_law_782 : decode c_L_law 782 = .ok (.iaload, 1) := by decide +kernel
theorem d_L_law_783 : decode c_L_law 783 = .ok (.aload_n 0, 1) := by decide +kernel
theorem d_L_law_784 : decode c_L_law 784 = .ok (.iload_n 3, 1) := by decide +kernel
theorem d_L_law_785 : decode c_L_law 785 = .ok (.iconst 2, 1) := by decide +kernel
theorem d_L_law_786 : decode c_L_law 786 = .ok (.iadd, 1) := by decide +kernel
theorem d_L_law_787 : decode c_L_law 787 = .ok (.iaload, 1) := by decide +kernel
theorem d_L_law_788 : decode c_L_law 788 = .ok (.invokevirtual 83, 3) := by decide +kernel
theorem d_L_law_791 : decode c_L_law 791 = .ok (.aload_n 2, 1) := by decide +kernel
theorem d_L_law_792 : decode c_L_law 792 = .ok (.aload_n 0, 1) := by decide +kernel
theorem d_L_law_793 : decode c_L_law 793 = .ok (.iload_n 3, 1) := by decide +kernel
theorem d_L_law_794 : decode c_L_law 794 = .ok (.iconst 1, 1) := by decide +kernel
theorem d_L_law_795 : decode c_L_law 795 = .ok (.iadd, 1) := by decide +kernel
theorem d_L_law_796 : decode c_L_law 796 = .ok (.iaload, 1) := by decide +kernel
theorem d_L_law_797 : decode c_L_law 797 = .ok (.aload_n 0, 1) := by decide +kernel
theorem d_L_law_798 : decode c_L_law 798 = .ok (.iload_n 3, 1) := by decide +kernel
theorem d_L_law_799 : decode c_L_law 799 = .ok (.iconst 2, 1) := by decide +kernel
theorem d_L_law_800 : decode c_L_law 800 = .ok (.iadd, 1) := by decide +kernel
theorem d_L_law_801 : decode c_L_law 801 = .ok (.iaload, 1) := by decide +kernel
theorem d_L_law_802 : decode c_L_law 802 = .ok (.invokevirtual 86, 3) := by decide +kernel
theorem d_L_law_805 : decode c_L_law 805 = .ok (.if_icmp .eq 201, 3) := by decide +kernel
theorem d_L_law_808 : decode c_L_law 808 = .ok (.iconst 0, 1) := by decide +kernel
theorem d_L_law_809 : decode c_L_law 809 = .ok (.ireturn, 1) := by decide +kernel
theorem d_L_law_810 : decode c_L_law 810 = .ok (.aload_n 1, 1) := by decide +kernel
theorem d_L_law_811 : decode c_L_law 811 = .ok (.aload_n 0, 1) := by decide +kernel
theorem d_L_law_812 : decode c_L_law 812 = .ok (.iload_n 3, 1) := by decide +kernel
theorem d_L_law_813 : decode c_L_law 813 = .ok (.iconst 1, 1) := by decide +kernel
theorem d_L_law_814 : decode c_L_law 814 = .ok (.iadd, 1) := by decide +kernel
theorem d_L_law_815 : decode c_L_law 815 = .ok (.iaload, 1) := by decide +kernel
theorem d_L_law_816 : decode c_L_law 816 = .ok (.aload_n 0, 1) := by decide +kernel
theorem d_L_law_817 : decode c_L_law 817 = .ok (.iload_n 3, 1) := by decide +kernel
theorem d_L_law_818 : decode c_L_law 818 = .ok (.iconst 2, 1) := by decide +kernel
theorem d_L_law_819 : decode c_L_law 819 = .ok (.iadd, 1) := by decide +kernel
theorem d_L_law_820 : decode c_L_law 820 = .ok (.iaload, 1) := by decide +kernel
theorem d_L_law_821 : decode c_L_law 821 = .ok (.i2l, 1) := by decide +kernel
theorem d_L_law_822 : decode c_L_law 822 = .ok (.bipush 32, 2) := by decide +kernel
theorem d_L_law_824 : decode c_L_law 824 = .ok (.lshl, 1) := by decide +kernel
theorem d_L_law_825 : decode c_L_law 825 = .ok (.aload_n 0, 1) := by decide +kernel
theorem d_L_law_826 : decode c_L_law 826 = .ok (.iload_n 3, 1) := by decide +kernel
theorem d_L_law_827 : decode c_L_law 827 = .ok (.iconst 3, 1) := by decide +kernel
theorem d_L_law_828 : decode c_L_law 828 = .ok (.iadd, 1) := by decide +kernel
theorem d_L_law_829 : decode c_L_law 829 = .ok (.iaload, 1) := by decide +kernel
theorem d_L_law_830 : decode c_L_law 830 = .ok (.i2l, 1) := by decide +kernel
theorem d_L_law_831 : decode c_L_law 831 = .ok (.ldc2_w 23, 3) := by decide +kernel
theorem d_L_law_834 : decode c_L_law 834 = .ok (.land, 1) := by decide +kernel
theorem d_L_law_835 : decode c_L_law 835 = .ok (.lor, 1) := by decide +kernel
theorem d_L_law_836 : decode c_L_law 836 = .ok (.invokevirtual 87, 3) := by decide +kernel
theorem d_L_law_839 : decode c_L_law 839 = .ok (.aload_n 2, 1) := by decide +kernel
theorem d_L_law_840 : decode c_L_law 840 = .ok (.aload_n 0, 1) := by decide +kernel
theorem d_L_law_841 : decode c_L_law 841 = .ok (.iload_n 3, 1) := by decide +kernel
theorem d_L_law_842 : decode c_L_law 842 = .ok (.iconst 1, 1) := by decide +kernel
theorem d_L_law_843 : decode c_L_law 843 = .ok (.iadd, 1) := by decide +kernel
theorem d_L_law_844 : decode c_L_law 844 = .ok (.iaload, 1) := by decide +kernel
theorem d_L_law_845 : decode c_L_law 845 = .ok (.aload_n 0, 1) := by decide +kernel
theorem d_L_law_846 : decode c_L_law 846 = .ok (.iload_n 3, 1) := by decide +kernel
theorem d_L_law_847 : decode c_L_law 847 = .ok (.iconst 2, 1) := by decide +kernel
theorem d_L_law_848 : decode c_L_law 848 = .ok (.iadd, 1) := by decide +kernel
theorem d_L_law_849 : decode c_L_law 849 = .ok (.iaload, 1) := by decide +kernel
theorem d_L_law_850 : decode c_L_law 850 = .ok (.i2l, 1) := by decide +kernel
theorem d_L_law_851 : decode c_L_law 851 = .ok (.bipush 32, 2) := by decide +kernel
theorem d_L_law_853 : decode c_L_law 853 = .ok (.lshl, 1) := by decide +kernel
theorem d_L_law_854 : decode c_L_law 854 = .ok (.aload_n 0, 1) := by decide +kernel
theorem d_L_law_855 : decode c_L_law 855 = .ok (.iload_n 3, 1) := by decide +kernel
theorem d_L_law_856 : decode c_L_law 856 = .ok (.iconst 3, 1) := by decide +kernel
theorem d_L_law_857 : decode c_L_law 857 = .ok (.iadd, 1) := by decide +kernel
theorem d_L_law_858 : decode c_L_law 858 = .ok (.iaload, 1) := by decide +kernel
theorem d_L_law_859 : decode c_L_law 859 = .ok (.i2l, 1) := by decide +kernel
theorem d_L_law_860 : decode c_L_law 860 = .ok (.ldc2_w 23, 3) := by decide +kernel
theorem d_L_law_863 : decode c_L_law 863 = .ok (.land, 1) := by decide +kernel
theorem d_L_law_864 : decode c_L_law 864 = .ok (.lor, 1) := by decide +kernel
theorem d_L_law_865 : decode c_L_law 865 = .ok (.invokevirtual 91, 3) := by decide +kernel
theorem d_L_law_868 : decode c_L_law 868 = .ok (.if_icmp .eq 138, 3) := by decide +kernel
theorem d_L_law_871 : decode c_L_law 871 = .ok (.iconst 0, 1) := by decide +kernel
theorem d_L_law_872 : decode c_L_law 872 = .ok (.ireturn, 1) := by decide +kernel
theorem d_L_law_873 : decode c_L_law 873 = .ok (.aload_n 1, 1) := by decide +kernel
theorem d_L_law_874 : decode c_L_law 874 = .ok (.aload_n 0, 1) := by decide +kernel
theorem d_L_law_875 : decode c_L_law 875 = .ok (.iload_n 3, 1) := by decide +kernel
theorem d_L_law_876 : decode c_L_law 876 = .ok (.iconst 1, 1) := by decide +kernel
theorem d_L_law_877 : decode c_L_law 877 = .ok (.iadd, 1) := by decide +kernel
theorem d_L_law_878 : decode c_L_law 878 = .ok (.iaload, 1) := by decide +kernel
theorem d_L_law_879 : decode c_L_law 879 = .ok (.aload_n 0, 1) := by decide +kernel
theorem d_L_law_880 : decode c_L_law 880 = .ok (.iload_n 3, 1) := by decide +kernel
theorem d_L_law_881 : decode c_L_law 881 = .ok (.iconst 2, 1) := by decide +kernel
theorem d_L_law_882 : decode c_L_law 882 = .ok (.iadd, 1) := by decide +kernel
theorem d_L_law_883 : decode c_L_law 883 = .ok (.iaload, 1) := by decide +kernel
theorem d_L_law_884 : decode c_L_law 884 = .ok (.invokevirtual 92, 3) := by decide +kernel
theorem d_L_law_887 : decode c_L_law 887 = .ok (.aload_n 2, 1) := by decide +kernel
theorem d_L_law_888 : decode c_L_law 888 = .ok (.aload_n 0, 1) := by decide +kernel
theorem d_L_law_889 : decode c_L_law 889 = .ok (.iload_n 3, 1) := by decide +kernel
theorem d_L_law_890 : decode c_L_law 890 = .ok (.iconst 1, 1) := by decide +kernel
theorem d_L_law_891 : decode c_L_law 891 = .ok (.iadd, 1) := by decide +kernel
theorem d_L_law_892 : decode c_L_law 892 = .ok (.iaload, 1) := by decide +kernel
theorem d_L_law_893 : decode c_L_law 893 = .ok (.aload_n 0, 1) := by decide +kernel
theorem d_L_law_894 : decode c_L_law 894 = .ok (.iload_n 3, 1) := by decide +kernel
theorem d_L_law_895 : decode c_L_law 895 = .ok (.iconst 2, 1) := by decide +kernel
theorem d_L_law_896 : decode c_L_law 896 = .ok (.iadd, 1) := by decide +kernel
theorem d_L_law_897 : decode c_L_law 897 = .ok (.iaload, 1) := by decide +kernel
theorem d_L_law_898 : decode c_L_law 898 = .ok (.invokevirtual 95, 3) := by decide +kernel
theorem d_L_law_901 : decode c_L_law 901 = .ok (.lcmp, 1) := by decide +kernel
theorem d_L_law_902 : decode c_L_law 902 = .ok (.ifCond .eq 104, 3) := by decide +kernel
theorem d_L_law_905 : decode c_L_law 905 = .ok (.iconst 0, 1) := by decide +kernel
theorem d_L_law_906 : decode c_L_law 906 = .ok (.ireturn, 1) := by decide +kernel
theorem d_L_law_907 : decode c_L_law 907 = .ok (.aload_n 1, 1) := by decide +kernel
theorem d_L_law_908 : decode c_L_law 908 = .ok (.aload_n 0, 1) := by decide +kernel
theorem d_L_law_909 : decode c_L_law 909 = .ok (.iload_n 3, 1) := by decide +kernel
theorem d_L_law_910 : decode c_L_law 910 = .ok (.iconst 1, 1) := by decide +kernel
theorem d_L_law_911 : decode c_L_law 911 = .ok (.iadd, 1) := by decide +kernel
theorem d_L_law_912 : decode c_L_law 912 = .ok (.iaload, 1) := by decide +kernel
theorem d_L_law_913 : decode c_L_law 913 = .ok (.aload_n 0, 1) := by decide +kernel
theorem d_L_law_914 : decode c_L_law 914 = .ok (.iload_n 3, 1) := by decide +kernel
theorem d_L_law_915 : decode c_L_law 915 = .ok (.iconst 2, 1) := by decide +kernel
theorem d_L_law_916 : decode c_L_law 916 = .ok (.iadd, 1) := by decide +kernel
theorem d_L_law_917 : decode c_L_law 917 = .ok (.iaload, 1) := by decide +kernel
theorem d_L_law_918 : decode c_L_law 918 = .ok (.invokevirtual 96, 3) := by decide +kernel
theorem d_L_law_921 : decode c_L_law 921 = .ok (.aload_n 2, 1) := by decide +kernel
theorem d_L_law_922 : decode c_L_law 922 = .ok (.aload_n 0, 1) := by decide +kernel
theorem d_L_law_923 : decode c_L_law 923 = .ok (.iload_n 3, 1) := by decide +kernel
theorem d_L_law_924 : decode c_L_law 924 = .ok (.iconst 1, 1) := by decide +kernel
theorem d_L_law_925 : decode c_L_law 925 = .ok (.iadd, 1) := by decide +kernel
theorem d_L_law_926 : decode c_L_law 926 = .ok (.iaload, 1) := by decide +kernel
theorem d_L_law_927 : decode c_L_law 927 = .ok (.aload_n 0, 1) := by decide +kernel
theorem d_L_law_928 : decode c_L_law 928 = .ok (.iload_n 3, 1) := by decide +kernel
theorem d_L_law_929 : decode c_L_law 929 = .ok (.iconst 2, 1) := by decide +kernel
theorem d_L_law_930 : decode c_L_law 930 = .ok (.iadd, 1) := by decide +kernel
theorem d_L_law_931 : decode c_L_law 931 = .ok (.iaload, 1) := by decide +kernel
theorem d_L_law_932 : decode c_L_law 932 = .ok (.invokevirtual 99, 3) := by decide +kernel
theorem d_L_law_935 : decode c_L_law 935 = .ok (.if_icmp .eq 71, 3) := by decide +kernel
theorem d_L_law_938 : decode c_L_law 938 = .ok (.iconst 0, 1) := by decide +kernel
theorem d_L_law_939 : decode c_L_law 939 = .ok (.ireturn, 1) := by decide +kernel
theorem d_L_law_940 : decode c_L_law 940 = .ok (.aload_n 1, 1) := by decide +kernel
theorem d_L_law_941 : decode c_L_law 941 = .ok (.aload_n 0, 1) := by decide +kernel
theorem d_L_law_942 : decode c_L_law 942 = .ok (.iload_n 3, 1) := by decide +kernel
theorem d_L_law_943 : decode c_L_law 943 = .ok (.iconst 1, 1) := by decide +kernel
theorem d_L_law_944 : decode c_L_law 944 = .ok (.iadd, 1) := by decide +kernel
theorem d_L_law_945 : decode c_L_law 945 = .ok (.iaload, 1) := by decide +kernel
theorem d_L_law_946 : decode c_L_law 946 = .ok (.aload_n 0, 1) := by decide +kernel
theorem d_L_law_947 : decode c_L_law 947 = .ok (.iload_n 3, 1) := by decide +kernel
theorem d_L_law_948 : decode c_L_law 948 = .ok (.iconst 2, 1) := by decide +kernel
theorem d_L_law_949 : decode c_L_law 949 = .ok (.iadd, 1) := by decide +kernel
theorem d_L_law_950 : decode c_L_law 950 = .ok (.iaload, 1) := by decide +kernel
theorem d_L_law_951 : decode c_L_law 951 = .ok (.aload_n 0, 1) := by decide +kernel
theorem d_L_law_952 : decode c_L_law 952 = .ok (.iload_n 3, 1) := by decide +kernel
theorem d_L_law_953 : decode c_L_law 953 = .ok (.iconst 3, 1) := by decide +kernel
theorem d_L_law_954 : decode c_L_law 954 = .ok (.iadd, 1) := by decide +kernel
theorem d_L_law_955 : decode c_L_law 955 = .ok (.iaload, 1) := by decide +kernel
theorem d_L_law_956 : decode c_L_law 956 = .ok (.invokevirtual 100, 3) := by decide +kernel
theorem d_L_law_959 : decode c_L_law 959 = .ok (.aload_n 2, 1) := by decide +kernel
theorem d_L_law_960 : decode c_L_law 960 = .ok (.aload_n 0, 1) := by decide +kernel
theorem d_L_law_961 : decode c_L_law 961 = .ok (.iload_n 3, 1) := by decide +kernel
theorem d_L_law_962 : decode c_L_law 962 = .ok (.iconst 1, 1) := by decide +kernel
theorem d_L_law_963 : decode c_L_law 963 = .ok (.iadd, 1) := by decide +kernel
theorem d_L_law_964 : decode c_L_law 964 = .ok (.iaload, 1) := by decide +kernel
theorem d_L_law_965 : decode c_L_law 965 = .ok (.aload_n 0, 1) := by decide +kernel
theorem d_L_law_966 : decode c_L_law 966 = .ok (.iload_n 3, 1) := by decide +kernel
theorem d_L_law_967 : decode c_L_law 967 = .ok (.iconst 2, 1) := by decide +kernel
theorem d_L_law_968 : decode c_L_law 968 = .ok (.iadd, 1) := by decide +kernel
theorem d_L_law_969 : decode c_L_law 969 = .ok (.iaload, 1) := by decide +kernel
theorem d_L_law_970 : decode c_L_law 970 = .ok (.aload_n 0, 1) := by decide +kernel
theorem d_L_law_971 : decode c_L_law 971 = .ok (.iload_n 3, 1) := by decide +kernel
theorem d_L_law_972 : decode c_L_law 972 = .ok (.iconst 3, 1) := by decide +kernel
theorem d_L_law_973 : decode c_L_law 973 = .ok (.iadd, 1) := by decide +kernel
theorem d_L_law_974 : decode c_L_law 974 = .ok (.iaload, 1) := by decide +kernel
theorem d_L_law_975 : decode c_L_law 975 = .ok (.invokevirtual 103, 3) := by decide +kernel
theorem d_L_law_978 : decode c_L_law 978 = .ok (.if_icmp .eq 28, 3) := by decide +kernel
theorem d_L_law_981 : decode c_L_law 981 = .ok (.iconst 0, 1) := by decide +kernel
theorem d_L_law_982 : decode c_L_law 982 = .ok (.ireturn, 1) := by decide +kernel
theorem d_L_law_983 : decode c_L_law 983 = .ok (.aload_n 1, 1) := by decide +kernel
theorem d_L_law_984 : decode c_L_law 984 = .ok (.aload_n 0, 1) := by decide +kernel
theorem d_L_law_985 : decode c_L_law 985 = .ok (.iload_n 3, 1) := by decide +kernel
theorem d_L_law_986 : decode c_L_law 986 = .ok (.iconst 1, 1) := by decide +kernel
theorem d_L_law_987 : decode c_L_law 987 = .ok (.iadd, 1) := by decide +kernel
theorem d_L_law_988 : decode c_L_law 988 = .ok (.iaload, 1) := by decide +kernel
theorem d_L_law_989 : decode c_L_law 989 = .ok (.invokevirtual 104, 3) := by decide +kernel
theorem d_L_law_992 : decode c_L_law 992 = .ok (.aload_n 2, 1) := by decide +kernel
theorem d_L_law_993 : decode c_L_law 993 = .ok (.aload_n 0, 1) := by decide +kernel
theorem d_L_law_994 : decode c_L_law 994 = .ok (.iload_n 3, 1) := by decide +kernel
theorem d_L_law_995 : decode c_L_law 995 = .ok (.iconst 1, 1) := by decide +kernel
theorem d_L_law_996 : decode c_L_law 996 = .ok (.iadd, 1) := by decide +kernel
theorem d_L_law_997 : decode c_L_law 997 = .ok (.iaload, 1) := by decide +kernel
theorem d_L_law_998 : decode c_L_law 998 = .ok (.invokevirtual 108, 3) := by decide +kernel
theorem d_L_law_1001 : decode c_L_law 1001 = .ok (.if_icmp .eq 5, 3) := by decide +kernel
theorem d_L_law_1004 : decode c_L_law 1004 = .ok (.iconst 0, 1) := by decide +kernel
theorem d_L_law_1005 : decode c_L_law 1005 = .ok (.ireturn, 1) := by decide +kernel
theorem d_L_law_1006 : decode c_L_law 1006 = .ok (.iinc 3 8, 3) := by decide +kernel
theorem d_L_law_1009 : decode c_L_law 1009 = .ok (.goto (-991), 3) := by decide +kernel
theorem d_L_law_1012 : decode c_L_law 1012 = .ok (.iconst 1, 1) := by decide +kernel
theorem d_L_law_1013 : decode c_L_law 1013 = .ok (.ireturn, 1) := by decide +kernel
end
section
/-- the arrays' classes, by number -/
abbrev TY (tC : Nat → ClassId) : List (ClassId × FieldType) := [(tC 0, .int), (tC 1, .long), (tC 2, .char), (tC 3, .boolean), (tC 4, .object RX4), (tC 5, .object RX2), (tC 6, .object RX5)]
/-! rows of my own: rewriting the top, contracts that read, contracts that write, joins -/
section MyRows
variable {p : Program} {l : Launch} {e : Env} {R : Room} {s : State} {m : MethodId} {args : Array Value} {below : List Frame} {meth : Method} {c : Code} {H : Heap} {locs : List Loc} {cells slots : Nat} {Q : State → Prop} {pc : Nat} {ls : Array Slot} {rest st0 : List Value}
theorem rw_i {x : Int32} {y : Int32} (h : x = y) (k : W p l e R s m args below meth c H locs cells slots Q (F0 m pc ls (.int y :: rest))) : W p l e R s m args below meth c H locs cells slots Q (F0 m pc ls (.int x :: rest)) := by subst h; exact k
theorem rw_l {x : Int64} {y : Int64} (h : x = y) (k : W p l e R s m args below meth c H locs cells slots Q (F0 m pc ls (.long y :: rest))) : W p l e R s m args below meth c H locs cells slots Q (F0 m pc ls (.long x :: rest)) := by subst h; exact k
theorem rw_s {r : Option Nat} {a : Nat} (h : r = some a) (k : W p l e R s m args below meth c H locs cells slots Q (F0 m pc ls (.ref a :: rest))) : W p l e R s m args below meth c H locs cells slots Q (F0 m pc ls (va_rf r :: rest)) := by subst h; exact k
theorem rw_n {r : Option Nat} (h : r = none) (k : W p l e R s m args below meth c H locs cells slots Q (F0 m pc ls (.null :: rest))) : W p l e R s m args below meth c H locs cells slots Q (F0 m pc ls (va_rf r :: rest)) := by subst h; exact k
/-- the classes as the tables have them, and the arrays' classes -/
def KX (D : va_G) (tC : Nat → ClassId) (U : State) : Prop := va_K D vwCl (TY tC) U
/-- a contract that reads: the heap stays, the answer is r -/
def roP (D : va_G) (tC : Nat → ClassId) (H : Heap) (av : List Value) : Array Value → State → Prop := va_Pc av (fun U => U.heap = H ∧ va_K D vwCl (TY tC) U)
def roQ (H : Heap) (r : Option Value) : Array Value → State → Outcome → State → Prop := fun _ _ oc t => oc = .returned r ∧ t.heap = H
theorem ro_blind {D : va_G} {tC : Nat → ClassId} {H : Heap} {av : List Value} : FrameBlind (roP D tC H av) := fun a U g mk q => ⟨q.1, q.2.1, va_K.moved (u := U) (U := U.calling g mk a) (Vm.Alike.refl U.vm) q.2.2⟩
theorem ro_pre {D : va_G} {tC : Nat → ClassId} {H : Heap} {av : List Value} (hK : va_K D vwCl (TY tC) s) : ∀ U : State, U.heap = H → s.WarmedH U.vm → roP D tC H av av.toArray U := fun _ hU hW => ⟨rfl, hU, va_K.moved hW.alike hK⟩
theorem ro_go {r : Option Value} {a : Array Value} {H' : Heap} (hH : H' = H) (hr : va_Run p l e R s m args below meth c H locs cells slots 0 0 (F0 m pc ls st0) rest (roQ H' r a) (fun _ => False))
    (kk : W p l e R s m args below meth c H locs cells slots Q (F0 m (pc + 3) ls (r.toList ++ rest))) : W p l e R s m args below meth c H locs cells slots Q (F0 m pc ls st0) := by
  intro T hT X
  obtain ⟨v, st₀, t, T', L, h0, X', hL, e1, e2, ⟨hv, hh⟩, st⟩ := hr T hT X
  cases hv
  obtain ⟨t2, a1, b1⟩ := kk T' (by rw [e1, hh, hH]) (Stand.forget X' (fun q h => (hL q h).elim))
  exact ⟨t2, st t2 a1, b1⟩
/-- a contract that writes: the world ws becomes one of post -/
def wrP (D : va_G) (tC : Nat → ClassId) (ws : va_W) (sz : Nat) (av : List Value) : Array Value → State → Prop := va_Pc av (fun U => U.heap.size = sz ∧ va_P D vwCl ws U.heap ∧ va_K D vwCl (TY tC) U ∧ va_D (fun _ => True) ws)
def wrQ (D : va_G) (ws : va_W) (sz : Nat) (post : Option Value → va_W → Prop) : Array Value → State → Outcome → State → Prop := fun _ st oc t => (∃ (r : Option Value) (w : va_W), oc = .returned r ∧ post r w ∧ va_P D vwCl w t.heap ∧ va_D (va_A ws sz) w) ∧ va_F (va_A ws sz) st t
theorem wr_blind {D : va_G} {tC : Nat → ClassId} {ws : va_W} {sz : Nat} {av : List Value} : FrameBlind (wrP D tC ws sz av) := fun a U g mk q => ⟨q.1, q.2.1, q.2.2.1, va_K.moved (u := U) (U := U.calling g mk a) (Vm.Alike.refl U.vm) q.2.2.2.1, q.2.2.2.2⟩
theorem wr_pre {D : va_G} {tC : Nat → ClassId} {wc : va_W} {av : List Value} {A : Nat → Prop} (hK : va_K D vwCl (TY tC) s) (hP : va_P D vwCl wc H) (hD : va_D A wc) : ∀ U : State, U.heap = H → s.WarmedH U.vm → wrP D tC wc H.size av av.toArray U := fun _ hU hW => ⟨rfl, by rw [hU], by rw [hU]; exact hP, va_K.moved hW.alike hK, hD.weaken (fun _ _ _ _ => trivial)⟩
theorem wr_go {D : va_G} {wc : va_W} {mc ms : Nat} {A0 : Nat → Prop} {post : Option Value → va_W → Prop} {a : Array Value} (hr : va_Run p l e R s m args below meth c H locs cells slots mc ms (F0 m pc ls st0) rest (wrQ D wc H.size post a) (va_A wc H.size))
    (hS : va_S A0 s.heap H locs) (hF : ∀ q, va_A wc H.size q → A0 q)
    (kk : ∀ (r : Option Value) (w1 : va_W) (H1 : Heap) (locs1 : List Loc), post r w1 → va_P D vwCl w1 H1 → va_D (va_A wc H.size) w1 → (∀ q : Nat, q < H.size → ¬ va_A wc H.size q → H1[q]? = H[q]?) → va_S A0 s.heap H1 locs1 → W p l e R s m args below meth c H1 locs1 (cells + mc) (slots + ms) Q (F0 m (pc + 3) ls (r.toList ++ rest))) :
    W p l e R s m args below meth c H locs cells slots Q (F0 m pc ls st0) := by
  intro T hT X
  obtain ⟨v, st₀, t, T', L, h0, X', hL, e1, e2, ⟨⟨r, w, hv, hp, hP1, hD1⟩, hz, hk⟩, st⟩ := hr T hT X
  cases hv
  rw [h0] at hz hk
  obtain ⟨t2, a1, b1⟩ := kk v w T'.heap (locs ++ L) hp (by rw [e1]; exact hP1) hD1 (fun q h1 h2 => by rw [e1]; exact hk q h1 h2)
    ⟨Nat.le_trans hS.1 (by rw [e1]; exact hz), fun q h1 h2 => by rw [e1, hk q (Nat.lt_of_lt_of_le h1 hS.1) (fun z => h2 (hF q z))]; exact hS.2.1 q h1 h2, fun q hq => by
      rcases List.mem_append.mp hq with h | h
      · exact hS.2.2 q h
      · exact hF _ (hL q h)⟩ T' rfl X'
  exact ⟨t2, st t2 a1, b1⟩
end MyRows
/-- several cells of a world put anew -/
def setM : va_W → List Nat → va_W → va_W
  | ws, i :: is, c :: cs => setM (ws.set i c) is cs
  | ws, _, _ => ws
theorem setM_get : ∀ (is : List Nat) (cs ws : va_W) (k : Nat) (q : Nat × va_E), is.length = cs.length → (setM ws is cs)[k]? = some q → (∃ j : Nat, is[j]? = some k ∧ cs[j]? = some q) ∨ (ws[k]? = some q ∧ k ∉ is) := by
  intro is
  induction is with
  | nil =>
    intro cs ws k q hl h
    cases cs with
    | nil => exact Or.inr ⟨h, List.not_mem_nil⟩
    | cons c cs => cases hl
  | cons i is ih =>
    intro cs ws k q hl h
    cases cs with
    | nil => cases hl
    | cons c cs =>
      have hl' : is.length = cs.length := Nat.succ.inj hl
      rcases ih cs (ws.set i c) k q hl' h with ⟨j, h1, h2⟩ | ⟨h1, h2⟩
      · exact Or.inl ⟨j + 1, h1, h2⟩
      · by_cases hk : i = k
        · subst hk
          rw [List.getElem?_set] at h1
          split at h1
          · split at h1
            · exact Or.inl ⟨0, rfl, h1⟩
            · cases h1
          · exact absurd rfl (by assumption)
        · rw [List.getElem?_set_ne hk] at h1
          exact Or.inr ⟨h1, fun hm => by
            rcases List.mem_cons.mp hm with h3 | h3
            · exact hk h3.symm
            · exact h2 h3⟩
theorem setM_len : ∀ (is : List Nat) (cs ws : va_W), (setM ws is cs).length = ws.length := by
  intro is
  induction is with
  | nil => intro cs ws; cases cs <;> rfl
  | cons i is ih =>
    intro cs ws
    cases cs with
    | nil => rfl
    | cons c cs => show (setM (ws.set i c) is cs).length = _; rw [ih, List.length_set]
theorem jn_at {is : List Nat} {ws w : va_W} (hs : is.map (fun i => ws[i]?) = w.map some) (k : Nat) (q : Nat × va_E) (hq : w[k]? = some q) : ∃ i, is[k]? = some i ∧ ws[i]? = some q := by
  have h1 : (is.map (fun i => ws[i]?))[k]? = some (some q) := by rw [hs, List.getElem?_map, hq]; rfl
  rw [List.getElem?_map] at h1
  cases hi : is[k]? with
  | none => rw [hi] at h1; cases h1
  | some i => rw [hi] at h1; exact ⟨i, rfl, Option.some.inj h1⟩
theorem jn_fst {w1 wc : va_W} (h : w1.map Prod.fst = wc.map Prod.fst) {j : Nat} {q : Nat × va_E} (hj : w1[j]? = some q) : ∃ e, wc[j]? = some (q.1, e) := by
  have h1 : (w1.map Prod.fst)[j]? = some q.1 := by rw [List.getElem?_map, hj]; rfl
  rw [h, List.getElem?_map] at h1
  cases hi : wc[j]? with
  | none => rw [hi] at h1; cases h1
  | some x =>
    rw [hi] at h1
    obtain ⟨a, b⟩ := x
    have : a = q.1 := Option.some.inj h1
    exact ⟨b, by rw [← this]⟩
theorem jn_G {A0 : Nat → Prop} {D : va_G} {cl : List vw_C} {ws wc w1 ws' : va_W} {H H1 : Heap} (hP : va_P D cl ws H) (hD : va_D A0 ws) (hk : ∀ q : Nat, q < H.size → ¬ va_A wc H.size q → H1[q]? = H[q]?) (hP1 : va_P D cl w1 H1)
    (hx : ∀ (k : Nat) (q : Nat × va_E), ws'[k]? = some q → (∃ j : Nat, w1[j]? = some q) ∨ (ws[k]? = some q ∧ ∀ (j : Nat) (e : va_E), wc[j]? ≠ some (q.1, e))) (ha : ∀ (k : Nat) (q : Nat × va_E), ws'[k]? = some q → ∃ e, ws[k]? = some (q.1, e)) : va_P D cl ws' H1 ∧ va_D A0 ws' := by
  refine ⟨fun k q hq => ?_, fun i j a b h1 h2 hab => ?_, fun k q hq => ?_⟩
  · rcases hx k q hq with ⟨j, hj⟩ | ⟨h1, h2⟩
    · exact hP1 j q hj
    · refine (hP k q h1).kept (hk q.1 (hP k q h1).lt (fun h => ?_))
      rcases h with ⟨j, e, h3⟩ | h3
      · exact h2 j e h3
      · have := (hP k q h1).lt
        omega
  · obtain ⟨e1, g1⟩ := ha i a h1
    obtain ⟨e2, g2⟩ := ha j b h2
    exact hD.1 i j _ _ g1 g2 hab
  · obtain ⟨e1, g1⟩ := ha k q hq
    exact hD.2 k (q.1, e1) g1
/-- the callee's cells put back where they stood -/
theorem jn_S {A0 : Nat → Prop} {D : va_G} {cl : List vw_C} {ws wc w1 : va_W} {H H1 : Heap} (hP : va_P D cl ws H) (hD : va_D A0 ws) (isC : List Nat) (hC : isC.map (fun i => ws[i]?) = wc.map some)
    (hk : ∀ q : Nat, q < H.size → ¬ va_A wc H.size q → H1[q]? = H[q]?) (hP1 : va_P D cl w1 H1) (hf : w1.map Prod.fst = wc.map Prod.fst) : va_P D cl (setM ws isC w1) H1 ∧ va_D A0 (setM ws isC w1) := by
  have hlen : isC.length = w1.length := by
    have h1 := congrArg List.length hC
    have h2 := congrArg List.length hf
    simp only [List.length_map] at h1 h2
    omega
  refine jn_G hP hD hk hP1 (fun k q hq => ?_) (fun k q hq => ?_)
  · rcases setM_get isC w1 ws k q hlen hq with ⟨j, h1, h2⟩ | ⟨h1, h2⟩
    · exact Or.inl ⟨j, h2⟩
    · refine Or.inr ⟨h1, fun j e h3 => ?_⟩
      obtain ⟨i, g1, g2⟩ := jn_at hC j _ h3
      have := hD.1 k i _ _ h1 g2 rfl
      subst this
      exact h2 (List.mem_of_getElem? g1)
  · rcases setM_get isC w1 ws k q hlen hq with ⟨j, h1, h2⟩ | ⟨h1, h2⟩
    · obtain ⟨e, g⟩ := jn_fst hf h2
      obtain ⟨i, g1, g2⟩ := jn_at hC j _ g
      rw [h1] at g1
      cases g1
      exact ⟨e, g2⟩
    · exact ⟨q.2, h1⟩
/-- the same where the callee reads cells of the tail -/
theorem jn_R {A0 : Nat → Prop} {D : va_G} {cl : List vw_C} {X PL wf wro wf1 : va_W} {H H1 : Heap} (hP : va_P D cl (X ++ PL) H) (hD : va_D A0 (X ++ PL)) (isC : List Nat) (hC : isC.map (fun i => X[i]?) = wf.map some) (hro : ∀ q ∈ wro, q ∈ PL)
    (hk : ∀ q : Nat, q < H.size → ¬ va_A (wf ++ wro) H.size q → H1[q]? = H[q]?) (hP1 : va_P D cl (wf1 ++ wro) H1) (hf : wf1.map Prod.fst = wf.map Prod.fst) : va_P D cl (setM X isC wf1 ++ PL) H1 ∧ va_D A0 (setM X isC wf1 ++ PL) := by
  have hlen : isC.length = wf1.length := by
    have h1 := congrArg List.length hC
    have h2 := congrArg List.length hf
    simp only [List.length_map] at h1 h2
    omega
  have hXl : ∀ (i : Nat) (q : Nat × va_E), X[i]? = some q → (X ++ PL)[i]? = some q := fun i q h => by
    rw [List.getElem?_append_left (List.getElem?_eq_some_iff.mp h).1]; exact h
  have hPl : ∀ (i : Nat) (q : Nat × va_E), PL[i]? = some q → (X ++ PL)[X.length + i]? = some q := fun i q h => by
    rw [List.getElem?_append_right (by omega), Nat.add_sub_cancel_left]; exact h
  have split : ∀ (k : Nat) (q : Nat × va_E), (setM X isC wf1 ++ PL)[k]? = some q → (k < X.length ∧ (setM X isC wf1)[k]? = some q) ∨ (X.length ≤ k ∧ PL[k - X.length]? = some q) := by
    intro k q h
    by_cases hl : k < X.length
    · rw [List.getElem?_append_left (by rw [setM_len]; exact hl)] at h
      exact Or.inl ⟨hl, h⟩
    · rw [List.getElem?_append_right (by rw [setM_len]; omega), setM_len] at h
      exact Or.inr ⟨by omega, h⟩
  have back : ∀ (k : Nat) (q : Nat × va_E), X.length ≤ k → PL[k - X.length]? = some q → (X ++ PL)[k]? = some q := fun k q h1 h2 => by
    rw [List.getElem?_append_right h1]; exact h2
  refine jn_G hP hD hk hP1 (fun k q hq => ?_) (fun k q hq => ?_)
  · rcases split k q hq with ⟨hl, h⟩ | ⟨hl, h⟩
    · rcases setM_get isC wf1 X k q hlen h with ⟨j, h1, h2⟩ | ⟨h1, h2⟩
      · refine Or.inl ⟨j, ?_⟩
        rw [List.getElem?_append_left (List.getElem?_eq_some_iff.mp h2).1]; exact h2
      · refine Or.inr ⟨hXl _ _ h1, fun j e h3 => ?_⟩
        have hm := List.mem_of_getElem? h3
        rcases List.mem_append.mp hm with hm | hm
        · obtain ⟨j2, hj2⟩ := List.getElem?_of_mem hm
          obtain ⟨i, g1, g2⟩ := jn_at hC j2 _ hj2
          have := hD.1 k i _ _ (hXl _ _ h1) (hXl _ _ g2) rfl
          subst this
          exact h2 (List.mem_of_getElem? g1)
        · obtain ⟨i, hi⟩ := List.getElem?_of_mem (hro _ hm)
          have := hD.1 k _ _ _ (hXl _ _ h1) (hPl _ _ hi) rfl
          omega
    · by_cases hin : ∃ e, (q.1, e) ∈ wro
      · obtain ⟨e, he⟩ := hin
        obtain ⟨i, hi⟩ := List.getElem?_of_mem (hro _ he)
        have := hD.1 k _ _ _ (back k q hl h) (hPl _ _ hi) rfl
        have h4 := back k q hl h
        rw [this, hPl _ _ hi] at h4
        have h5 : (q.1, e) = q := Option.some.inj h4
        rw [h5] at he
        obtain ⟨j, hj⟩ := List.getElem?_of_mem (List.mem_append_right wf1 he)
        exact Or.inl ⟨j, hj⟩
      · refine Or.inr ⟨back k q hl h, fun j e h3 => ?_⟩
        have hm := List.mem_of_getElem? h3
        rcases List.mem_append.mp hm with hm | hm
        · obtain ⟨j2, hj2⟩ := List.getElem?_of_mem hm
          obtain ⟨i, g1, g2⟩ := jn_at hC j2 _ hj2
          have := hD.1 k i _ _ (back k q hl h) (hXl _ _ g2) rfl
          have := (List.getElem?_eq_some_iff.mp g2).1
          omega
        · exact hin ⟨e, hm⟩
  · rcases split k q hq with ⟨hl, h⟩ | ⟨hl, h⟩
    · rcases setM_get isC wf1 X k q hlen h with ⟨j, h1, h2⟩ | ⟨h1, h2⟩
      · obtain ⟨e, g⟩ := jn_fst hf h2
        obtain ⟨i, g1, g2⟩ := jn_at hC j _ g
        rw [h1] at g1
        cases g1
        exact ⟨e, hXl _ _ g2⟩
      · exact ⟨q.2, hXl _ _ h1⟩
    · exact ⟨q.2, back k q hl h⟩
/-- the callee's cells stand at the end -/
theorem jn_A {A0 : Nat → Prop} {D : va_G} {cl : List vw_C} {wr wc w1 : va_W} {H H1 : Heap} (hP : va_P D cl (wr ++ wc) H) (hD : va_D A0 (wr ++ wc)) (hk : ∀ q : Nat, q < H.size → ¬ va_A wc H.size q → H1[q]? = H[q]?) (hF : ∀ q, va_A wc H.size q → A0 q) (hP1 : va_P D cl w1 H1) (hD1 : va_D (va_A wc H.size) w1) :
    va_P D cl (wr ++ w1) H1 ∧ va_D A0 (wr ++ w1) := by
  have hl : ∀ (i : Nat) (q : Nat × va_E), wr[i]? = some q → (wr ++ wc)[i]? = some q := fun i q h => by
    rw [List.getElem?_append_left (List.getElem?_eq_some_iff.mp h).1]; exact h
  have hr : ∀ (i : Nat) (q : Nat × va_E), wc[i]? = some q → (wr ++ wc)[wr.length + i]? = some q := fun i q h => by
    rw [List.getElem?_append_right (by omega), Nat.add_sub_cancel_left]; exact h
  have apart : ∀ (k : Nat) (q : Nat × va_E), wr[k]? = some q → q.1 < H.size ∧ ¬ va_A wc H.size q.1 := by
    intro k q hq
    have hlt := (hP k q (hl k q hq)).lt
    refine ⟨hlt, fun h => ?_⟩
    rcases h with ⟨j, e, h⟩ | h
    · have := hD.1 k _ _ _ (hl k q hq) (hr j _ h) rfl
      have := (List.getElem?_eq_some_iff.mp hq).1
      omega
    · omega
  refine ⟨va_P.app (fun k q hq => ?_) hP1, va_D.app ⟨fun i j a b h1 h2 h3 => hD.1 i j a b (hl i a h1) (hl j b h2) h3, fun k q h => hD.2 k q (hl k q h)⟩ (hD1.weaken (fun k q _ h => hF q.1 h)) (fun i j x y hx hy hxy => ?_)⟩
  · obtain ⟨g1, g2⟩ := apart k q hq
    exact (hP k q (hl k q hq)).kept (hk q.1 g1 g2)
  · obtain ⟨g1, g2⟩ := apart i x hx
    have := hD1.2 j y hy
    rw [← hxy] at this
    exact g2 this
theorem tl_at {X PL : va_W} {k : Nat} {q : Nat × va_E} (h : PL[k]? = some q) : (X ++ PL)[X.length + k]? = some q := by
  rw [List.getElem?_append_right (by omega), Nat.add_sub_cancel_left]; exact h
theorem tl_set {X PL : va_W} {k : Nat} {q : Nat × va_E} : (X ++ PL).set (X.length + k) q = X ++ PL.set k q := by
  rw [List.set_append_right _ _ (by omega), Nat.add_sub_cancel_left]
/-! the states of modules: scalars, arrays of ints, arrays of longs; functions that may fail -/
abbrev MS : Type := (Nat → Int32) × (Nat → Nat → Int32) × (Nat → Nat → Int64)
def sI (S : MS) (k : Nat) (v : Int32) : MS := (va_up S.1 k v, S.2)
def sA (S : MS) (k : Nat) (f : Nat → Int32) : MS := (S.1, va_up S.2.1 k f, S.2.2)
def sL (S : MS) (k : Nat) (f : Nat → Int64) : MS := (S.1, S.2.1, va_up S.2.2 k f)
/-- the fuel of a loop -/
def fu : Nat := 1000000000000
/-- an index is in an array -/
def ix (i : Int32) (n : Nat) : Bool := decide (¬ (i < 0 ∨ n ≤ i.toNatClampNeg))
theorem ix_in {i : Int32} {n : Nat} (h : ix i n = true) : vp_in i n := of_decide_eq_true (p := ¬ (i < 0 ∨ n ≤ i.toNatClampNeg)) h
theorem op_if {α : Type} {c : Prop} [Decidable c] {A : Option α} {R : α} (h : (if c then A else none) = some R) : c ∧ A = some R := by
  by_cases hc : c
  · rw [if_pos hc] at h; exact ⟨hc, h⟩
  · rw [if_neg hc] at h; cases h
theorem op_nif {α : Type} {c : Prop} [Decidable c] {A : Option α} {R : α} (h : (if c then none else A) = some R) : ¬ c ∧ A = some R := by
  by_cases hc : c
  · rw [if_pos hc] at h; cases h
  · rw [if_neg hc] at h; exact ⟨hc, h⟩
theorem op_t {α : Type} {c : Prop} [Decidable c] {A B R : α} (h : (if c then A else B) = R) (hc : c) : A = R := (if_pos hc).symm.trans h
theorem op_e {α : Type} {c : Prop} [Decidable c] {A B R : α} (h : (if c then A else B) = R) (hc : ¬ c) : B = R := (if_neg hc).symm.trans h
theorem op_b {α β : Type} {x : Option α} {k : α → Option β} {R : β} (h : x.bind k = some R) : ∃ q, x = some q ∧ k q = some R := by
  cases x with
  | none => cases h
  | some q => exact ⟨q, rfl, h⟩
section MyRows2
variable {p : Program} {l : Launch} {e : Env} {R : Room} {s : State} {m : MethodId} {args : Array Value} {below : List Frame} {meth : Method} {c : Code} {H : Heap} {locs : List Loc} {cells slots : Nat} {Q : State → Prop} {pc : Nat} {ls : Array Slot} {rest st0 : List Value}
theorem q_w {Q0 : State → Prop} {g : JFrame} (k : ∀ Q : State → Prop, Q = Q0 → W p l e R s m args below meth c H locs cells slots Q g) : W p l e R s m args below meth c H locs cells slots Q0 g := k Q0 rfl
theorem en_w {av : List Value} {n : Nat} (hav : args = av.toArray) (hn : (lg_sl av).length ≤ n) (k : ∀ ls : Array Slot, lv_has ls n (lv_args 0 av) → W p l e R s m args below meth c H locs cells slots Q (F0 m 0 ls [])) : W p l e R s m args below meth c H locs cells slots Q (entryFrame m args n) := by
  have h : entryFrame m args n = F0 m 0 ((lg_sl av ++ List.replicate (n - (lg_sl av).length) Slot.unset).toArray) [] := by rw [hav, lg_entry_eq]
  rw [h]
  exact k _ (lv_entry av hn)
end MyRows2
end
section
def w_Ff_ (h : Nat) (ad : Nat → Nat) (tC : Nat → ClassId) (S : MS) : va_W := [(h, .inr (0, [.ref (ad 0)])), (ad 0, .inl (tC 0, 3, .inl (S.2.1 0)))]
def w_Lw_ (h : Nat) (ad : Nat → Nat) (tC : Nat → ClassId) (S : MS) : va_W := [(h, .inr (1, [.ref (ad 0), .ref (ad 1), .ref (ad 2), .ref (ad 3), .ref (ad 4), .ref (ad 5), .ref (ad 6), .ref (ad 7), .int (S.1 0), .int (S.1 1), .int (S.1 2)])), (ad 0, .inl (tC 0, 256, .inl (S.2.1 0))), (ad 1, .inl (tC 0, 256, .inl (S.2.1 1))), (ad 2, .inl (tC 0, 3, .inl (S.2.1 2))), (ad 3, .inl (tC 0, 3, .inl (S.2.1 3))), (ad 4, .inl (tC 0, 8, .inl (S.2.1 4))), (ad 5, .inl (tC 0, 8, .inl (S.2.1 5))), (ad 6, .inl (tC 0, 8, .inl (S.2.1 6))), (ad 7, .inl (tC 0, 8, .inl (S.2.1 7)))]
def w_Ln_ (h : Nat) (ad : Nat → Nat) (tC : Nat → ClassId) (S : MS) : va_W := [(h, .inr (2, [.int (S.1 0), .ref (ad 100), .int (S.1 1), .int (S.1 2), .ref (ad 0), .int (S.1 3), .int (S.1 4), .int (S.1 5), .int (S.1 6)])), (ad 0, .inl (tC 0, 6, .inl (S.2.1 0)))]
def w_Pl_ (h : Nat) (ad : Nat → Nat) (tC : Nat → ClassId) (S : MS) : va_W := [(h, .inr (3, [.ref (ad 0), .ref (ad 1), .ref (ad 2), .ref (ad 3), .ref (ad 4), .ref (ad 5), .ref (ad 6), .int (S.1 0), .int (S.1 1), .int (S.1 2), .int (S.1 3), .int (S.1 4)])), (ad 0, .inl (tC 0, 60, .inl (S.2.1 0))), (ad 1, .inl (tC 0, 60, .inl (S.2.1 1))), (ad 2, .inl (tC 0, 60, .inl (S.2.1 2))), (ad 3, .inl (tC 0, 60, .inl (S.2.1 3))), (ad 4, .inl (tC 0, 60, .inl (S.2.1 4))), (ad 5, .inl (tC 0, 60, .inl (S.2.1 5))), (ad 6, .inl (tC 0, 60, .inl (S.2.1 6)))]
def w_Sh_ (h : Nat) (ad : Nat → Nat) (tC : Nat → ClassId) (nT : Nat) (S : MS) : va_W := [(h, .inr (4, [.ref (ad 0), .int (S.1 0), .int (S.1 1)])), (ad 0, .inl (tC 2, nT, .inl (S.2.1 0)))]
def w_Sf_ (h : Nat) (ad : Nat → Nat) (tC : Nat → ClassId) (S : MS) : va_W := [(h, .inr (5, [.ref (ad 0), .ref (ad 1), .int (S.1 0)])), (ad 0, .inl (tC 0, 3, .inl (S.2.1 0))), (ad 1, .inl (tC 0, 3, .inl (S.2.1 1)))]
def w_Sg_ (h : Nat) (ad : Nat → Nat) (tC : Nat → ClassId) (S : MS) : va_W := [(h, .inr (6, [.ref (ad 0), .int (S.1 0)])), (ad 0, .inl (tC 2, 40, .inl (S.2.1 0)))]
def w_Tr_ (h : Nat) (ad : Nat → Nat) (tC : Nat → ClassId) (S : MS) : va_W := [(h, .inr (7, [.ref (ad 0), .ref (ad 1), .ref (ad 2), .ref (ad 3), .ref (ad 4), .int (S.1 0), .int (S.1 1), .int (S.1 2)])), (ad 0, .inl (tC 0, 11, .inl (S.2.1 0))), (ad 1, .inl (tC 0, 11, .inl (S.2.1 1))), (ad 2, .inl (tC 0, 11, .inl (S.2.1 2))), (ad 3, .inl (tC 0, 11, .inl (S.2.1 3))), (ad 4, .inl (tC 3, 11, .inl (S.2.1 4)))]
def w_Md_ (h : Nat) (ad : Nat → Nat) (tC : Nat → ClassId) (S : MS) : va_W := [(h, .inr (9, [.ref (ad 0), .int (S.1 0), .int (S.1 1), .ref (ad 1), .ref (ad 2), .ref (ad 3), .int (S.1 2), .ref (ad 4), .ref (ad 5), .ref (ad 6), .ref (ad 7), .ref (ad 8), .ref (ad 9), .ref (ad 10), .ref (ad 11), .ref (ad 12), .ref (ad 13), .ref (ad 14), .ref (ad 15), .int (S.1 3), .ref (ad 16), .ref (ad 17), .ref (ad 18), .ref (ad 19), .ref (ad 20), .ref (ad 21), .ref (ad 22), .int (S.1 4), .int (S.1 5), .ref (ad 23), .ref (ad 24), .ref (ad 25), .ref (ad 26), .ref (ad 27), .int (S.1 6), .int (S.1 7), .int (S.1 8), .ref (ad 28), .ref (ad 29), .ref (ad 30), .ref (ad 31), .ref (ad 32), .ref (ad 33), .ref (ad 34), .ref (ad 35), .int (S.1 9)])), (ad 0, .inl (tC 0, 40, .inl (S.2.1 0))), (ad 1, .inl (tC 0, 10, .inl (S.2.1 1))), (ad 2, .inl (tC 0, 60, .inl (S.2.1 2))), (ad 3, .inl (tC 1, 41, .inr (.inl (S.2.2 0)))), (ad 4, .inl (tC 0, 12, .inl (S.2.1 3))), (ad 5, .inl (tC 0, 12, .inl (S.2.1 4))), (ad 6, .inl (tC 0, 12, .inl (S.2.1 5))), (ad 7, .inl (tC 1, 72, .inr (.inl (S.2.2 1)))), (ad 8, .inl (tC 3, 12, .inl (S.2.1 6))), (ad 9, .inl (tC 1, 12, .inr (.inl (S.2.2 2)))), (ad 10, .inl (tC 1, 12, .inr (.inl (S.2.2 3)))), (ad 11, .inl (tC 1, 12, .inr (.inl (S.2.2 4)))), (ad 12, .inl (tC 0, 41, .inl (S.2.1 7))), (ad 13, .inl (tC 1, 123, .inr (.inl (S.2.2 5)))), (ad 14, .inl (tC 0, 123, .inl (S.2.1 8))), (ad 15, .inl (tC 0, 3, .inl (S.2.1 9))), (ad 16, .inl (tC 0, 60, .inl (S.2.1 10))), (ad 17, .inl (tC 1, 60, .inr (.inl (S.2.2 6)))), (ad 18, .inl (tC 0, 9, .inl (S.2.1 11))), (ad 19, .inl (tC 0, 9, .inl (S.2.1 12))), (ad 20, .inl (tC 0, 9, .inl (S.2.1 13))), (ad 21, .inl (tC 0, 9, .inl (S.2.1 14))), (ad 22, .inl (tC 0, 9, .inl (S.2.1 15))), (ad 23, .inl (tC 0, 60, .inl (S.2.1 16))), (ad 24, .inl (tC 1, 60, .inr (.inl (S.2.2 7)))), (ad 25, .inl (tC 0, 60, .inl (S.2.1 17))), (ad 26, .inl (tC 0, 3600, .inl (S.2.1 18))), (ad 27, .inl (tC 1, 60, .inr (.inl (S.2.2 8)))), (ad 28, .inl (tC 1, 12, .inr (.inl (S.2.2 9)))), (ad 29, .inl (tC 1, 12, .inr (.inl (S.2.2 10)))), (ad 30, .inl (tC 3, 12, .inl (S.2.1 19))), (ad 31, .inl (tC 1, 12, .inr (.inl (S.2.2 11)))), (ad 32, .inl (tC 1, 12, .inr (.inl (S.2.2 12)))), (ad 33, .inl (tC 1, 12, .inr (.inl (S.2.2 13)))), (ad 34, .inl (tC 1, 12, .inr (.inl (S.2.2 14)))), (ad 35, .inl (tC 0, 40, .inl (S.2.1 20)))]
theorem wu_Ff_a0 {h : Nat} {ad : Nat → Nat} {tC : Nat → ClassId} {S : MS} {f : Nat → Int32} : List.set (w_Ff_ h ad tC S) 1 (ad 0, .inl (tC 0, 3, .inl f)) = w_Ff_ h ad tC (sA S 0 f) := rfl
theorem sr_Ff {h : Nat} {ad : Nat → Nat} {tC : Nat → ClassId} {S : MS} {Y : va_W} {i : Nat} {c : Nat × va_E} : List.set (w_Ff_ h ad tC S ++ Y) (i + 2) c = w_Ff_ h ad tC S ++ List.set Y i c := rfl
theorem sl_Ff_0 {h : Nat} {ad : Nat → Nat} {tC : Nat → ClassId} {S : MS} {Y : va_W} {c : Nat × va_E} : List.set (w_Ff_ h ad tC S ++ Y) 0 c = List.set (w_Ff_ h ad tC S) 0 c ++ Y := rfl
theorem sl_Ff_1 {h : Nat} {ad : Nat → Nat} {tC : Nat → ClassId} {S : MS} {Y : va_W} {c : Nat × va_E} : List.set (w_Ff_ h ad tC S ++ Y) 1 c = List.set (w_Ff_ h ad tC S) 1 c ++ Y := rfl
theorem wu_Lw_s0 {h : Nat} {ad : Nat → Nat} {tC : Nat → ClassId} {S : MS} {v : Int32} : List.set (w_Lw_ h ad tC S) 0 (h, .inr (1, List.set [.ref (ad 0), .ref (ad 1), .ref (ad 2), .ref (ad 3), .ref (ad 4), .ref (ad 5), .ref (ad 6), .ref (ad 7), .int (S.1 0), .int (S.1 1), .int (S.1 2)] 8 (.int v))) = w_Lw_ h ad tC (sI S 0 v) := rfl
theorem wu_Lw_s1 {h : Nat} {ad : Nat → Nat} {tC : Nat → ClassId} {S : MS} {v : Int32} : List.set (w_Lw_ h ad tC S) 0 (h, .inr (1, List.set [.ref (ad 0), .ref (ad 1), .ref (ad 2), .ref (ad 3), .ref (ad 4), .ref (ad 5), .ref (ad 6), .ref (ad 7), .int (S.1 0), .int (S.1 1), .int (S.1 2)] 9 (.int v))) = w_Lw_ h ad tC (sI S 1 v) := rfl
theorem wu_Lw_s2 {h : Nat} {ad : Nat → Nat} {tC : Nat → ClassId} {S : MS} {v : Int32} : List.set (w_Lw_ h ad tC S) 0 (h, .inr (1, List.set [.ref (ad 0), .ref (ad 1), .ref (ad 2), .ref (ad 3), .ref (ad 4), .ref (ad 5), .ref (ad 6), .ref (ad 7), .int (S.1 0), .int (S.1 1), .int (S.1 2)] 10 (.int v))) = w_Lw_ h ad tC (sI S 2 v) := rfl
theorem wu_Lw_a0 {h : Nat} {ad : Nat → Nat} {tC : Nat → ClassId} {S : MS} {f : Nat → Int32} : List.set (w_Lw_ h ad tC S) 1 (ad 0, .inl (tC 0, 256, .inl f)) = w_Lw_ h ad tC (sA S 0 f) := rfl
theorem wu_Lw_a1 {h : Nat} {ad : Nat → Nat} {tC : Nat → ClassId} {S : MS} {f : Nat → Int32} : List.set (w_Lw_ h ad tC S) 2 (ad 1, .inl (tC 0, 256, .inl f)) = w_Lw_ h ad tC (sA S 1 f) := rfl
theorem wu_Lw_a2 {h : Nat} {ad : Nat → Nat} {tC : Nat → ClassId} {S : MS} {f : Nat → Int32} : List.set (w_Lw_ h ad tC S) 3 (ad 2, .inl (tC 0, 3, .inl f)) = w_Lw_ h ad tC (sA S 2 f) := rfl
theorem wu_Lw_a3 {h : Nat} {ad : Nat → Nat} {tC : Nat → ClassId} {S : MS} {f : Nat → Int32} : List.set (w_Lw_ h ad tC S) 4 (ad 3, .inl (tC 0, 3, .inl f)) = w_Lw_ h ad tC (sA S 3 f) := rfl
theorem wu_Lw_a4 {h : Nat} {ad : Nat → Nat} {tC : Nat → ClassId} {S : MS} {f : Nat → Int32} : List.set (w_Lw_ h ad tC S) 5 (ad 4, .inl (tC 0, 8, .inl f)) = w_Lw_ h ad tC (sA S 4 f) := rfl
theorem wu_Lw_a5 {h : Nat} {ad : Nat → Nat} {tC : Nat → ClassId} {S : MS} {f : Nat → Int32} : List.set (w_Lw_ h ad tC S) 6 (ad 5, .inl (tC 0, 8, .inl f)) = w_Lw_ h ad tC (sA S 5 f) := rfl
theorem wu_Lw_a6 {h : Nat} {ad : Nat → Nat} {tC : Nat → ClassId} {S : MS} {f : Nat → Int32} : List.set (w_Lw_ h ad tC S) 7 (ad 6, .inl (tC 0, 8, .inl f)) = w_Lw_ h ad tC (sA S 6 f) := rfl
theorem wu_Lw_a7 {h : Nat} {ad : Nat → Nat} {tC : Nat → ClassId} {S : MS} {f : Nat → Int32} : List.set (w_Lw_ h ad tC S) 8 (ad 7, .inl (tC 0, 8, .inl f)) = w_Lw_ h ad tC (sA S 7 f) := rfl
theorem sr_Lw {h : Nat} {ad : Nat → Nat} {tC : Nat → ClassId} {S : MS} {Y : va_W} {i : Nat} {c : Nat × va_E} : List.set (w_Lw_ h ad tC S ++ Y) (i + 9) c = w_Lw_ h ad tC S ++ List.set Y i c := rfl
theorem sl_Lw_0 {h : Nat} {ad : Nat → Nat} {tC : Nat → ClassId} {S : MS} {Y : va_W} {c : Nat × va_E} : List.set (w_Lw_ h ad tC S ++ Y) 0 c = List.set (w_Lw_ h ad tC S) 0 c ++ Y := rfl
theorem sl_Lw_1 {h : Nat} {ad : Nat → Nat} {tC : Nat → ClassId} {S : MS} {Y : va_W} {c : Nat × va_E} : List.set (w_Lw_ h ad tC S ++ Y) 1 c = List.set (w_Lw_ h ad tC S) 1 c ++ Y := rfl
theorem sl_Lw_2 {h : Nat} {ad : Nat → Nat} {tC : Nat → ClassId} {S : MS} {Y : va_W} {c : Nat × va_E} : List.set (w_Lw_ h ad tC S ++ Y) 2 c = List.set (w_Lw_ h ad tC S) 2 c ++ Y := rfl
theorem sl_Lw_3 {h : Nat} {ad : Nat → Nat} {tC : Nat → ClassId} {S : MS} {Y : va_W} {c : Nat × va_E} : List.set (w_Lw_ h ad tC S ++ Y) 3 c = List.set (w_Lw_ h ad tC S) 3 c ++ Y := rfl
theorem sl_Lw_4 {h : Nat} {ad : Nat → Nat} {tC : Nat → ClassId} {S : MS} {Y : va_W} {c : Nat × va_E} : List.set (w_Lw_ h ad tC S ++ Y) 4 c = List.set (w_Lw_ h ad tC S) 4 c ++ Y := rfl
theorem sl_Lw_5 {h : Nat} {ad : Nat → Nat} {tC : Nat → ClassId} {S : MS} {Y : va_W} {c : Nat × va_E} : List.set (w_Lw_ h ad tC S ++ Y) 5 c = List.set (w_Lw_ h ad tC S) 5 c ++ Y := rfl
theorem sl_Lw_6 {h : Nat} {ad : Nat → Nat} {tC : Nat → ClassId} {S : MS} {Y : va_W} {c : Nat × va_E} : List.set (w_Lw_ h ad tC S ++ Y) 6 c = List.set (w_Lw_ h ad tC S) 6 c ++ Y := rfl
theorem sl_Lw_7 {h : Nat} {ad : Nat → Nat} {tC : Nat → ClassId} {S : MS} {Y : va_W} {c : Nat × va_E} : List.set (w_Lw_ h ad tC S ++ Y) 7 c = List.set (w_Lw_ h ad tC S) 7 c ++ Y := rfl
theorem sl_Lw_8 {h : Nat} {ad : Nat → Nat} {tC : Nat → ClassId} {S : MS} {Y : va_W} {c : Nat × va_E} : List.set (w_Lw_ h ad tC S ++ Y) 8 c = List.set (w_Lw_ h ad tC S) 8 c ++ Y := rfl
theorem wu_Ln_s0 {h : Nat} {ad : Nat → Nat} {tC : Nat → ClassId} {S : MS} {v : Int32} : List.set (w_Ln_ h ad tC S) 0 (h, .inr (2, List.set [.int (S.1 0), .ref (ad 100), .int (S.1 1), .int (S.1 2), .ref (ad 0), .int (S.1 3), .int (S.1 4), .int (S.1 5), .int (S.1 6)] 0 (.int v))) = w_Ln_ h ad tC (sI S 0 v) := rfl
theorem wu_Ln_s1 {h : Nat} {ad : Nat → Nat} {tC : Nat → ClassId} {S : MS} {v : Int32} : List.set (w_Ln_ h ad tC S) 0 (h, .inr (2, List.set [.int (S.1 0), .ref (ad 100), .int (S.1 1), .int (S.1 2), .ref (ad 0), .int (S.1 3), .int (S.1 4), .int (S.1 5), .int (S.1 6)] 2 (.int v))) = w_Ln_ h ad tC (sI S 1 v) := rfl
theorem wu_Ln_s2 {h : Nat} {ad : Nat → Nat} {tC : Nat → ClassId} {S : MS} {v : Int32} : List.set (w_Ln_ h ad tC S) 0 (h, .inr (2, List.set [.int (S.1 0), .ref (ad 100), .int (S.1 1), .int (S.1 2), .ref (ad 0), .int (S.1 3), .int (S.1 4), .int (S.1 5), .int (S.1 6)] 3 (.int v))) = w_Ln_ h ad tC (sI S 2 v) := rfl
theorem wu_Ln_s3 {h : Nat} {ad : Nat → Nat} {tC : Nat → ClassId} {S : MS} {v : Int32} : List.set (w_Ln_ h ad tC S) 0 (h, .inr (2, List.set [.int (S.1 0), .ref (ad 100), .int (S.1 1), .int (S.1 2), .ref (ad 0), .int (S.1 3), .int (S.1 4), .int (S.1 5), .int (S.1 6)] 5 (.int v))) = w_Ln_ h ad tC (sI S 3 v) := rfl
theorem wu_Ln_s4 {h : Nat} {ad : Nat → Nat} {tC : Nat → ClassId} {S : MS} {v : Int32} : List.set (w_Ln_ h ad tC S) 0 (h, .inr (2, List.set [.int (S.1 0), .ref (ad 100), .int (S.1 1), .int (S.1 2), .ref (ad 0), .int (S.1 3), .int (S.1 4), .int (S.1 5), .int (S.1 6)] 6 (.int v))) = w_Ln_ h ad tC (sI S 4 v) := rfl
theorem wu_Ln_s5 {h : Nat} {ad : Nat → Nat} {tC : Nat → ClassId} {S : MS} {v : Int32} : List.set (w_Ln_ h ad tC S) 0 (h, .inr (2, List.set [.int (S.1 0), .ref (ad 100), .int (S.1 1), .int (S.1 2), .ref (ad 0), .int (S.1 3), .int (S.1 4), .int (S.1 5), .int (S.1 6)] 7 (.int v))) = w_Ln_ h ad tC (sI S 5 v) := rfl
theorem wu_Ln_s6 {h : Nat} {ad : Nat → Nat} {tC : Nat → ClassId} {S : MS} {v : Int32} : List.set (w_Ln_ h ad tC S) 0 (h, .inr (2, List.set [.int (S.1 0), .ref (ad 100), .int (S.1 1), .int (S.1 2), .ref (ad 0), .int (S.1 3), .int (S.1 4), .int (S.1 5), .int (S.1 6)] 8 (.int v))) = w_Ln_ h ad tC (sI S 6 v) := rfl
theorem wu_Ln_a0 {h : Nat} {ad : Nat → Nat} {tC : Nat → ClassId} {S : MS} {f : Nat → Int32} : List.set (w_Ln_ h ad tC S) 1 (ad 0, .inl (tC 0, 6, .inl f)) = w_Ln_ h ad tC (sA S 0 f) := rfl
theorem sr_Ln {h : Nat} {ad : Nat → Nat} {tC : Nat → ClassId} {S : MS} {Y : va_W} {i : Nat} {c : Nat × va_E} : List.set (w_Ln_ h ad tC S ++ Y) (i + 2) c = w_Ln_ h ad tC S ++ List.set Y i c := rfl
theorem sl_Ln_0 {h : Nat} {ad : Nat → Nat} {tC : Nat → ClassId} {S : MS} {Y : va_W} {c : Nat × va_E} : List.set (w_Ln_ h ad tC S ++ Y) 0 c = List.set (w_Ln_ h ad tC S) 0 c ++ Y := rfl
theorem sl_Ln_1 {h : Nat} {ad : Nat → Nat} {tC : Nat → ClassId} {S : MS} {Y : va_W} {c : Nat × va_E} : List.set (w_Ln_ h ad tC S ++ Y) 1 c = List.set (w_Ln_ h ad tC S) 1 c ++ Y := rfl
theorem wu_Pl_s0 {h : Nat} {ad : Nat → Nat} {tC : Nat → ClassId} {S : MS} {v : Int32} : List.set (w_Pl_ h ad tC S) 0 (h, .inr (3, List.set [.ref (ad 0), .ref (ad 1), .ref (ad 2), .ref (ad 3), .ref (ad 4), .ref (ad 5), .ref (ad 6), .int (S.1 0), .int (S.1 1), .int (S.1 2), .int (S.1 3), .int (S.1 4)] 7 (.int v))) = w_Pl_ h ad tC (sI S 0 v) := rfl
theorem wu_Pl_s1 {h : Nat} {ad : Nat → Nat} {tC : Nat → ClassId} {S : MS} {v : Int32} : List.set (w_Pl_ h ad tC S) 0 (h, .inr (3, List.set [.ref (ad 0), .ref (ad 1), .ref (ad 2), .ref (ad 3), .ref (ad 4), .ref (ad 5), .ref (ad 6), .int (S.1 0), .int (S.1 1), .int (S.1 2), .int (S.1 3), .int (S.1 4)] 8 (.int v))) = w_Pl_ h ad tC (sI S 1 v) := rfl
theorem wu_Pl_s2 {h : Nat} {ad : Nat → Nat} {tC : Nat → ClassId} {S : MS} {v : Int32} : List.set (w_Pl_ h ad tC S) 0 (h, .inr (3, List.set [.ref (ad 0), .ref (ad 1), .ref (ad 2), .ref (ad 3), .ref (ad 4), .ref (ad 5), .ref (ad 6), .int (S.1 0), .int (S.1 1), .int (S.1 2), .int (S.1 3), .int (S.1 4)] 9 (.int v))) = w_Pl_ h ad tC (sI S 2 v) := rfl
theorem wu_Pl_s3 {h : Nat} {ad : Nat → Nat} {tC : Nat → ClassId} {S : MS} {v : Int32} : List.set (w_Pl_ h ad tC S) 0 (h, .inr (3, List.set [.ref (ad 0), .ref (ad 1), .ref (ad 2), .ref (ad 3), .ref (ad 4), .ref (ad 5), .ref (ad 6), .int (S.1 0), .int (S.1 1), .int (S.1 2), .int (S.1 3), .int (S.1 4)] 10 (.int v))) = w_Pl_ h ad tC (sI S 3 v) := rfl
theorem wu_Pl_s4 {h : Nat} {ad : Nat → Nat} {tC : Nat → ClassId} {S : MS} {v : Int32} : List.set (w_Pl_ h ad tC S) 0 (h, .inr (3, List.set [.ref (ad 0), .ref (ad 1), .ref (ad 2), .ref (ad 3), .ref (ad 4), .ref (ad 5), .ref (ad 6), .int (S.1 0), .int (S.1 1), .int (S.1 2), .int (S.1 3), .int (S.1 4)] 11 (.int v))) = w_Pl_ h ad tC (sI S 4 v) := rfl
theorem wu_Pl_a0 {h : Nat} {ad : Nat → Nat} {tC : Nat → ClassId} {S : MS} {f : Nat → Int32} : List.set (w_Pl_ h ad tC S) 1 (ad 0, .inl (tC 0, 60, .inl f)) = w_Pl_ h ad tC (sA S 0 f) := rfl
theorem wu_Pl_a1 {h : Nat} {ad : Nat → Nat} {tC : Nat → ClassId} {S : MS} {f : Nat → Int32} : List.set (w_Pl_ h ad tC S) 2 (ad 1, .inl (tC 0, 60, .inl f)) = w_Pl_ h ad tC (sA S 1 f) := rfl
theorem wu_Pl_a2 {h : Nat} {ad : Nat → Nat} {tC : Nat → ClassId} {S : MS} {f : Nat → Int32} : List.set (w_Pl_ h ad tC S) 3 (ad 2, .inl (tC 0, 60, .inl f)) = w_Pl_ h ad tC (sA S 2 f) := rfl
theorem wu_Pl_a3 {h : Nat} {ad : Nat → Nat} {tC : Nat → ClassId} {S : MS} {f : Nat → Int32} : List.set (w_Pl_ h ad tC S) 4 (ad 3, .inl (tC 0, 60, .inl f)) = w_Pl_ h ad tC (sA S 3 f) := rfl
theorem wu_Pl_a4 {h : Nat} {ad : Nat → Nat} {tC : Nat → ClassId} {S : MS} {f : Nat → Int32} : List.set (w_Pl_ h ad tC S) 5 (ad 4, .inl (tC 0, 60, .inl f)) = w_Pl_ h ad tC (sA S 4 f) := rfl
theorem wu_Pl_a5 {h : Nat} {ad : Nat → Nat} {tC : Nat → ClassId} {S : MS} {f : Nat → Int32} : List.set (w_Pl_ h ad tC S) 6 (ad 5, .inl (tC 0, 60, .inl f)) = w_Pl_ h ad tC (sA S 5 f) := rfl
theorem wu_Pl_a6 {h : Nat} {ad : Nat → Nat} {tC : Nat → ClassId} {S : MS} {f : Nat → Int32} : List.set (w_Pl_ h ad tC S) 7 (ad 6, .inl (tC 0, 60, .inl f)) = w_Pl_ h ad tC (sA S 6 f) := rfl
theorem sr_Pl {h : Nat} {ad : Nat → Nat} {tC : Nat → ClassId} {S : MS} {Y : va_W} {i : Nat} {c : Nat × va_E} : List.set (w_Pl_ h ad tC S ++ Y) (i + 8) c = w_Pl_ h ad tC S ++ List.set Y i c := rfl
theorem sl_Pl_0 {h : Nat} {ad : Nat → Nat} {tC : Nat → ClassId} {S : MS} {Y : va_W} {c : Nat × va_E} : List.set (w_Pl_ h ad tC S ++ Y) 0 c = List.set (w_Pl_ h ad tC S) 0 c ++ Y := rfl
theorem sl_Pl_1 {h : Nat} {ad : Nat → Nat} {tC : Nat → ClassId} {S : MS} {Y : va_W} {c : Nat × va_E} : List.set (w_Pl_ h ad tC S ++ Y) 1 c = List.set (w_Pl_ h ad tC S) 1 c ++ Y := rfl
theorem sl_Pl_2 {h : Nat} {ad : Nat → Nat} {tC : Nat → ClassId} {S : MS} {Y : va_W} {c : Nat × va_E} : List.set (w_Pl_ h ad tC S ++ Y) 2 c = List.set (w_Pl_ h ad tC S) 2 c ++ Y := rfl
theorem sl_Pl_3 {h : Nat} {ad : Nat → Nat} {tC : Nat → ClassId} {S : MS} {Y : va_W} {c : Nat × va_E} : List.set (w_Pl_ h ad tC S ++ Y) 3 c = List.set (w_Pl_ h ad tC S) 3 c ++ Y := rfl
theorem sl_Pl_4 {h : Nat} {ad : Nat → Nat} {tC : Nat → ClassId} {S : MS} {Y : va_W} {c : Nat × va_E} : List.set (w_Pl_ h ad tC S ++ Y) 4 c = List.set (w_Pl_ h ad tC S) 4 c ++ Y := rfl
theorem sl_Pl_5 {h : Nat} {ad : Nat → Nat} {tC : Nat → ClassId} {S : MS} {Y : va_W} {c : Nat × va_E} : List.set (w_Pl_ h ad tC S ++ Y) 5 c = List.set (w_Pl_ h ad tC S) 5 c ++ Y := rfl
theorem sl_Pl_6 {h : Nat} {ad : Nat → Nat} {tC : Nat → ClassId} {S : MS} {Y : va_W} {c : Nat × va_E} : List.set (w_Pl_ h ad tC S ++ Y) 6 c = List.set (w_Pl_ h ad tC S) 6 c ++ Y := rfl
theorem sl_Pl_7 {h : Nat} {ad : Nat → Nat} {tC : Nat → ClassId} {S : MS} {Y : va_W} {c : Nat × va_E} : List.set (w_Pl_ h ad tC S ++ Y) 7 c = List.set (w_Pl_ h ad tC S) 7 c ++ Y := rfl
theorem wu_Sh_s0 {h : Nat} {ad : Nat → Nat} {tC : Nat → ClassId} {nT : Nat} {S : MS} {v : Int32} : List.set (w_Sh_ h ad tC nT S) 0 (h, .inr (4, List.set [.ref (ad 0), .int (S.1 0), .int (S.1 1)] 1 (.int v))) = w_Sh_ h ad tC nT (sI S 0 v) := rfl
theorem wu_Sh_s1 {h : Nat} {ad : Nat → Nat} {tC : Nat → ClassId} {nT : Nat} {S : MS} {v : Int32} : List.set (w_Sh_ h ad tC nT S) 0 (h, .inr (4, List.set [.ref (ad 0), .int (S.1 0), .int (S.1 1)] 2 (.int v))) = w_Sh_ h ad tC nT (sI S 1 v) := rfl
theorem wu_Sh_a0 {h : Nat} {ad : Nat → Nat} {tC : Nat → ClassId} {nT : Nat} {S : MS} {f : Nat → Int32} : List.set (w_Sh_ h ad tC nT S) 1 (ad 0, .inl (tC 2, nT, .inl f)) = w_Sh_ h ad tC nT (sA S 0 f) := rfl
theorem sr_Sh {h : Nat} {ad : Nat → Nat} {tC : Nat → ClassId} {nT : Nat} {S : MS} {Y : va_W} {i : Nat} {c : Nat × va_E} : List.set (w_Sh_ h ad tC nT S ++ Y) (i + 2) c = w_Sh_ h ad tC nT S ++ List.set Y i c := rfl
theorem sl_Sh_0 {h : Nat} {ad : Nat → Nat} {tC : Nat → ClassId} {nT : Nat} {S : MS} {Y : va_W} {c : Nat × va_E} : List.set (w_Sh_ h ad tC nT S ++ Y) 0 c = List.set (w_Sh_ h ad tC nT S) 0 c ++ Y := rfl
theorem sl_Sh_1 {h : Nat} {ad : Nat → Nat} {tC : Nat → ClassId} {nT : Nat} {S : MS} {Y : va_W} {c : Nat × va_E} : List.set (w_Sh_ h ad tC nT S ++ Y) 1 c = List.set (w_Sh_ h ad tC nT S) 1 c ++ Y := rfl
theorem wu_Sf_s0 {h : Nat} {ad : Nat → Nat} {tC : Nat → ClassId} {S : MS} {v : Int32} : List.set (w_Sf_ h ad tC S) 0 (h, .inr (5, List.set [.ref (ad 0), .ref (ad 1), .int (S.1 0)] 2 (.int v))) = w_Sf_ h ad tC (sI S 0 v) := rfl
theorem wu_Sf_a0 {h : Nat} {ad : Nat → Nat} {tC : Nat → ClassId} {S : MS} {f : Nat → Int32} : List.set (w_Sf_ h ad tC S) 1 (ad 0, .inl (tC 0, 3, .inl f)) = w_Sf_ h ad tC (sA S 0 f) := rfl
theorem wu_Sf_a1 {h : Nat} {ad : Nat → Nat} {tC : Nat → ClassId} {S : MS} {f : Nat → Int32} : List.set (w_Sf_ h ad tC S) 2 (ad 1, .inl (tC 0, 3, .inl f)) = w_Sf_ h ad tC (sA S 1 f) := rfl
theorem sr_Sf {h : Nat} {ad : Nat → Nat} {tC : Nat → ClassId} {S : MS} {Y : va_W} {i : Nat} {c : Nat × va_E} : List.set (w_Sf_ h ad tC S ++ Y) (i + 3) c = w_Sf_ h ad tC S ++ List.set Y i c := rfl
theorem sl_Sf_0 {h : Nat} {ad : Nat → Nat} {tC : Nat → ClassId} {S : MS} {Y : va_W} {c : Nat × va_E} : List.set (w_Sf_ h ad tC S ++ Y) 0 c = List.set (w_Sf_ h ad tC S) 0 c ++ Y := rfl
theorem sl_Sf_1 {h : Nat} {ad : Nat → Nat} {tC : Nat → ClassId} {S : MS} {Y : va_W} {c : Nat × va_E} : List.set (w_Sf_ h ad tC S ++ Y) 1 c = List.set (w_Sf_ h ad tC S) 1 c ++ Y := rfl
theorem sl_Sf_2 {h : Nat} {ad : Nat → Nat} {tC : Nat → ClassId} {S : MS} {Y : va_W} {c : Nat × va_E} : List.set (w_Sf_ h ad tC S ++ Y) 2 c = List.set (w_Sf_ h ad tC S) 2 c ++ Y := rfl
theorem wu_Sg_s0 {h : Nat} {ad : Nat → Nat} {tC : Nat → ClassId} {S : MS} {v : Int32} : List.set (w_Sg_ h ad tC S) 0 (h, .inr (6, List.set [.ref (ad 0), .int (S.1 0)] 1 (.int v))) = w_Sg_ h ad tC (sI S 0 v) := rfl
theorem wu_Sg_a0 {h : Nat} {ad : Nat → Nat} {tC : Nat → ClassId} {S : MS} {f : Nat → Int32} : List.set (w_Sg_ h ad tC S) 1 (ad 0, .inl (tC 2, 40, .inl f)) = w_Sg_ h ad tC (sA S 0 f) := rfl
theorem sr_Sg {h : Nat} {ad : Nat → Nat} {tC : Nat → ClassId} {S : MS} {Y : va_W} {i : Nat} {c : Nat × va_E} : List.set (w_Sg_ h ad tC S ++ Y) (i + 2) c = w_Sg_ h ad tC S ++ List.set Y i c := rfl
theorem sl_Sg_0 {h : Nat} {ad : Nat → Nat} {tC : Nat → ClassId} {S : MS} {Y : va_W} {c : Nat × va_E} : List.set (w_Sg_ h ad tC S ++ Y) 0 c = List.set (w_Sg_ h ad tC S) 0 c ++ Y := rfl
theorem sl_Sg_1 {h : Nat} {ad : Nat → Nat} {tC : Nat → ClassId} {S : MS} {Y : va_W} {c : Nat × va_E} : List.set (w_Sg_ h ad tC S ++ Y) 1 c = List.set (w_Sg_ h ad tC S) 1 c ++ Y := rfl
theorem wu_Tr_s0 {h : Nat} {ad : Nat → Nat} {tC : Nat → ClassId} {S : MS} {v : Int32} : List.set (w_Tr_ h ad tC S) 0 (h, .inr (7, List.set [.ref (ad 0), .ref (ad 1), .ref (ad 2), .ref (ad 3), .ref (ad 4), .int (S.1 0), .int (S.1 1), .int (S.1 2)] 5 (.int v))) = w_Tr_ h ad tC (sI S 0 v) := rfl
theorem wu_Tr_s1 {h : Nat} {ad : Nat → Nat} {tC : Nat → ClassId} {S : MS} {v : Int32} : List.set (w_Tr_ h ad tC S) 0 (h, .inr (7, List.set [.ref (ad 0), .ref (ad 1), .ref (ad 2), .ref (ad 3), .ref (ad 4), .int (S.1 0), .int (S.1 1), .int (S.1 2)] 6 (.int v))) = w_Tr_ h ad tC (sI S 1 v) := rfl
theorem wu_Tr_s2 {h : Nat} {ad : Nat → Nat} {tC : Nat → ClassId} {S : MS} {v : Int32} : List.set (w_Tr_ h ad tC S) 0 (h, .inr (7, List.set [.ref (ad 0), .ref (ad 1), .ref (ad 2), .ref (ad 3), .ref (ad 4), .int (S.1 0), .int (S.1 1), .int (S.1 2)] 7 (.int v))) = w_Tr_ h ad tC (sI S 2 v) := rfl
theorem wu_Tr_a0 {h : Nat} {ad : Nat → Nat} {tC : Nat → ClassId} {S : MS} {f : Nat → Int32} : List.set (w_Tr_ h ad tC S) 1 (ad 0, .inl (tC 0, 11, .inl f)) = w_Tr_ h ad tC (sA S 0 f) := rfl
theorem wu_Tr_a1 {h : Nat} {ad : Nat → Nat} {tC : Nat → ClassId} {S : MS} {f : Nat → Int32} : List.set (w_Tr_ h ad tC S) 2 (ad 1, .inl (tC 0, 11, .inl f)) = w_Tr_ h ad tC (sA S 1 f) := rfl
theorem wu_Tr_a2 {h : Nat} {ad : Nat → Nat} {tC : Nat → ClassId} {S : MS} {f : Nat → Int32} : List.set (w_Tr_ h ad tC S) 3 (ad 2, .inl (tC 0, 11, .inl f)) = w_Tr_ h ad tC (sA S 2 f) := rfl
theorem wu_Tr_a3 {h : Nat} {ad : Nat → Nat} {tC : Nat → ClassId} {S : MS} {f : Nat → Int32} : List.set (w_Tr_ h ad tC S) 4 (ad 3, .inl (tC 0, 11, .inl f)) = w_Tr_ h ad tC (sA S 3 f) := rfl
theorem wu_Tr_a4 {h : Nat} {ad : Nat → Nat} {tC : Nat → ClassId} {S : MS} {f : Nat → Int32} : List.set (w_Tr_ h ad tC S) 5 (ad 4, .inl (tC 3, 11, .inl f)) = w_Tr_ h ad tC (sA S 4 f) := rfl
theorem sr_Tr {h : Nat} {ad : Nat → Nat} {tC : Nat → ClassId} {S : MS} {Y : va_W} {i : Nat} {c : Nat × va_E} : List.set (w_Tr_ h ad tC S ++ Y) (i + 6) c = w_Tr_ h ad tC S ++ List.set Y i c := rfl
theorem sl_Tr_0 {h : Nat} {ad : Nat → Nat} {tC : Nat → ClassId} {S : MS} {Y : va_W} {c : Nat × va_E} : List.set (w_Tr_ h ad tC S ++ Y) 0 c = List.set (w_Tr_ h ad tC S) 0 c ++ Y := rfl
theorem sl_Tr_1 {h : Nat} {ad : Nat → Nat} {tC : Nat → ClassId} {S : MS} {Y : va_W} {c : Nat × va_E} : List.set (w_Tr_ h ad tC S ++ Y) 1 c = List.set (w_Tr_ h ad tC S) 1 c ++ Y := rfl
theorem sl_Tr_2 {h : Nat} {ad : Nat → Nat} {tC : Nat → ClassId} {S : MS} {Y : va_W} {c : Nat × va_E} : List.set (w_Tr_ h ad tC S ++ Y) 2 c = List.set (w_Tr_ h ad tC S) 2 c ++ Y := rfl
theorem sl_Tr_3 {h : Nat} {ad : Nat → Nat} {tC : Nat → ClassId} {S : MS} {Y : va_W} {c : Nat × va_E} : List.set (w_Tr_ h ad tC S ++ Y) 3 c = List.set (w_Tr_ h ad tC S) 3 c ++ Y := rfl
theorem sl_Tr_4 {h : Nat} {ad : Nat → Nat} {tC : Nat → ClassId} {S : MS} {Y : va_W} {c : Nat × va_E} : List.set (w_Tr_ h ad tC S ++ Y) 4 c = List.set (w_Tr_ h ad tC S) 4 c ++ Y := rfl
theorem sl_Tr_5 {h : Nat} {ad : Nat → Nat} {tC : Nat → ClassId} {S : MS} {Y : va_W} {c : Nat × va_E} : List.set (w_Tr_ h ad tC S ++ Y) 5 c = List.set (w_Tr_ h ad tC S) 5 c ++ Y := rfl
theorem wu_Md_s0 {h : Nat} {ad : Nat → Nat} {tC : Nat → ClassId} {S : MS} {v : Int32} : List.set (w_Md_ h ad tC S) 0 (h, .inr (9, List.set [.ref (ad 0), .int (S.1 0), .int (S.1 1), .ref (ad 1), .ref (ad 2), .ref (ad 3), .int (S.1 2), .ref (ad 4), .ref (ad 5), .ref (ad 6), .ref (ad 7), .ref (ad 8), .ref (ad 9), .ref (ad 10), .ref (ad 11), .ref (ad 12), .ref (ad 13), .ref (ad 14), .ref (ad 15), .int (S.1 3), .ref (ad 16), .ref (ad 17), .ref (ad 18), .ref (ad 19), .ref (ad 20), .ref (ad 21), .ref (ad 22), .int (S.1 4), .int (S.1 5), .ref (ad 23), .ref (ad 24), .ref (ad 25), .ref (ad 26), .ref (ad 27), .int (S.1 6), .int (S.1 7), .int (S.1 8), .ref (ad 28), .ref (ad 29), .ref (ad 30), .ref (ad 31), .ref (ad 32), .ref (ad 33), .ref (ad 34), .ref (ad 35), .int (S.1 9)] 1 (.int v))) = w_Md_ h ad tC (sI S 0 v) := rfl
theorem wu_Md_s1 {h : Nat} {ad : Nat → Nat} {tC : Nat → ClassId} {S : MS} {v : Int32} : List.set (w_Md_ h ad tC S) 0 (h, .inr (9, List.set [.ref (ad 0), .int (S.1 0), .int (S.1 1), .ref (ad 1), .ref (ad 2), .ref (ad 3), .int (S.1 2), .ref (ad 4), .ref (ad 5), .ref (ad 6), .ref (ad 7), .ref (ad 8), .ref (ad 9), .ref (ad 10), .ref (ad 11), .ref (ad 12), .ref (ad 13), .ref (ad 14), .ref (ad 15), .int (S.1 3), .ref (ad 16), .ref (ad 17), .ref (ad 18), .ref (ad 19), .ref (ad 20), .ref (ad 21), .ref (ad 22), .int (S.1 4), .int (S.1 5), .ref (ad 23), .ref (ad 24), .ref (ad 25), .ref (ad 26), .ref (ad 27), .int (S.1 6), .int (S.1 7), .int (S.1 8), .ref (ad 28), .ref (ad 29), .ref (ad 30), .ref (ad 31), .ref (ad 32), .ref (ad 33), .ref (ad 34), .ref (ad 35), .int (S.1 9)] 2 (.int v))) = w_Md_ h ad tC (sI S 1 v) := rfl
theorem wu_Md_s2 {h : Nat} {ad : Nat → Nat} {tC : Nat → ClassId} {S : MS} {v : Int32} : List.set (w_Md_ h ad tC S) 0 (h, .inr (9, List.set [.ref (ad 0), .int (S.1 0), .int (S.1 1), .ref (ad 1), .ref (ad 2), .ref (ad 3), .int (S.1 2), .ref (ad 4), .ref (ad 5), .ref (ad 6), .ref (ad 7), .ref (ad 8), .ref (ad 9), .ref (ad 10), .ref (ad 11), .ref (ad 12), .ref (ad 13), .ref (ad 14), .ref (ad 15), .int (S.1 3), .ref (ad 16), .ref (ad 17), .ref (ad 18), .ref (ad 19), .ref (ad 20), .ref (ad 21), .ref (ad 22), .int (S.1 4), .int (S.1 5), .ref (ad 23), .ref (ad 24), .ref (ad 25), .ref (ad 26), .ref (ad 27), .int (S.1 6), .int (S.1 7), .int (S.1 8), .ref (ad 28), .ref (ad 29), .ref (ad 30), .ref (ad 31), .ref (ad 32), .ref (ad 33), .ref (ad 34), .ref (ad 35), .int (S.1 9)] 6 (.int v))) = w_Md_ h ad tC (sI S 2 v) := rfl
theorem wu_Md_s3 {h : Nat} {ad : Nat → Nat} {tC : Nat → ClassId} {S : MS} {v : Int32} : List.set (w_Md_ h ad tC S) 0 (h, .inr (9, List.set [.ref (ad 0), .int (S.1 0), .int (S.1 1), .ref (ad 1), .ref (ad 2), .ref (ad 3), .int (S.1 2), .ref (ad 4), .ref (ad 5), .ref (ad 6), .ref (ad 7), .ref (ad 8), .ref (ad 9), .ref (ad 10), .ref (ad 11), .ref (ad 12), .ref (ad 13), .ref (ad 14), .ref (ad 15), .int (S.1 3), .ref (ad 16), .ref (ad 17), .ref (ad 18), .ref (ad 19), .ref (ad 20), .ref (ad 21), .ref (ad 22), .int (S.1 4), .int (S.1 5), .ref (ad 23), .ref (ad 24), .ref (ad 25), .ref (ad 26), .ref (ad 27), .int (S.1 6), .int (S.1 7), .int (S.1 8), .ref (ad 28), .ref (ad 29), .ref (ad 30), .ref (ad 31), .ref (ad 32), .ref (ad 33), .ref (ad 34), .ref (ad 35), .int (S.1 9)] 19 (.int v))) = w_Md_ h ad tC (sI S 3 v) := rfl
theorem wu_Md_s4 {h : Nat} {ad : Nat → Nat} {tC : Nat → ClassId} {S : MS} {v : Int32} : List.set (w_Md_ h ad tC S) 0 (h, .inr (9, List.set [.ref (ad 0), .int (S.1 0), .int (S.1 1), .ref (ad 1), .ref (ad 2), .ref (ad 3), .int (S.1 2), .ref (ad 4), .ref (ad 5), .ref (ad 6), .ref (ad 7), .ref (ad 8), .ref (ad 9), .ref (ad 10), .ref (ad 11), .ref (ad 12), .ref (ad 13), .ref (ad 14), .ref (ad 15), .int (S.1 3), .ref (ad 16), .ref (ad 17), .ref (ad 18), .ref (ad 19), .ref (ad 20), .ref (ad 21), .ref (ad 22), .int (S.1 4), .int (S.1 5), .ref (ad 23), .ref (ad 24), .ref (ad 25), .ref (ad 26), .ref (ad 27), .int (S.1 6), .int (S.1 7), .int (S.1 8), .ref (ad 28), .ref (ad 29), .ref (ad 30), .ref (ad 31), .ref (ad 32), .ref (ad 33), .ref (ad 34), .ref (ad 35), .int (S.1 9)] 27 (.int v))) = w_Md_ h ad tC (sI S 4 v) := rfl
theorem wu_Md_s5 {h : Nat} {ad : Nat → Nat} {tC : Nat → ClassId} {S : MS} {v : Int32} : List.set (w_Md_ h ad tC S) 0 (h, .inr (9, List.set [.ref (ad 0), .int (S.1 0), .int (S.1 1), .ref (ad 1), .ref (ad 2), .ref (ad 3), .int (S.1 2), .ref (ad 4), .ref (ad 5), .ref (ad 6), .ref (ad 7), .ref (ad 8), .ref (ad 9), .ref (ad 10), .ref (ad 11), .ref (ad 12), .ref (ad 13), .ref (ad 14), .ref (ad 15), .int (S.1 3), .ref (ad 16), .ref (ad 17), .ref (ad 18), .ref (ad 19), .ref (ad 20), .ref (ad 21), .ref (ad 22), .int (S.1 4), .int (S.1 5), .ref (ad 23), .ref (ad 24), .ref (ad 25), .ref (ad 26), .ref (ad 27), .int (S.1 6), .int (S.1 7), .int (S.1 8), .ref (ad 28), .ref (ad 29), .ref (ad 30), .ref (ad 31), .ref (ad 32), .ref (ad 33), .ref (ad 34), .ref (ad 35), .int (S.1 9)] 28 (.int v))) = w_Md_ h ad tC (sI S 5 v) := rfl
theorem wu_Md_s6 {h : Nat} {ad : Nat → Nat} {tC : Nat → ClassId} {S : MS} {v : Int32} : List.set (w_Md_ h ad tC S) 0 (h, .inr (9, List.set [.ref (ad 0), .int (S.1 0), .int (S.1 1), .ref (ad 1), .ref (ad 2), .ref (ad 3), .int (S.1 2), .ref (ad 4), .ref (ad 5), .ref (ad 6), .ref (ad 7), .ref (ad 8), .ref (ad 9), .ref (ad 10), .ref (ad 11), .ref (ad 12), .ref (ad 13), .ref (ad 14), .ref (ad 15), .int (S.1 3), .ref (ad 16), .ref (ad 17), .ref (ad 18), .ref (ad 19), .ref (ad 20), .ref (ad 21), .ref (ad 22), .int (S.1 4), .int (S.1 5), .ref (ad 23), .ref (ad 24), .ref (ad 25), .ref (ad 26), .ref (ad 27), .int (S.1 6), .int (S.1 7), .int (S.1 8), .ref (ad 28), .ref (ad 29), .ref (ad 30), .ref (ad 31), .ref (ad 32), .ref (ad 33), .ref (ad 34), .ref (ad 35), .int (S.1 9)] 34 (.int v))) = w_Md_ h ad tC (sI S 6 v) := rfl
theorem wu_Md_s7 {h : Nat} {ad : Nat → Nat} {tC : Nat → ClassId} {S : MS} {v : Int32} : List.set (w_Md_ h ad tC S) 0 (h, .inr (9, List.set [.ref (ad 0), .int (S.1 0), .int (S.1 1), .ref (ad 1), .ref (ad 2), .ref (ad 3), .int (S.1 2), .ref (ad 4), .ref (ad 5), .ref (ad 6), .ref (ad 7), .ref (ad 8), .ref (ad 9), .ref (ad 10), .ref (ad 11), .ref (ad 12), .ref (ad 13), .ref (ad 14), .ref (ad 15), .int (S.1 3), .ref (ad 16), .ref (ad 17), .ref (ad 18), .ref (ad 19), .ref (ad 20), .ref (ad 21), .ref (ad 22), .int (S.1 4), .int (S.1 5), .ref (ad 23), .ref (ad 24), .ref (ad 25), .ref (ad 26), .ref (ad 27), .int (S.1 6), .int (S.1 7), .int (S.1 8), .ref (ad 28), .ref (ad 29), .ref (ad 30), .ref (ad 31), .ref (ad 32), .ref (ad 33), .ref (ad 34), .ref (ad 35), .int (S.1 9)] 35 (.int v))) = w_Md_ h ad tC (sI S 7 v) := rfl
theorem wu_Md_s8 {h : Nat} {ad : Nat → Nat} {tC : Nat → ClassId} {S : MS} {v : Int32} : List.set (w_Md_ h ad tC S) 0 (h, .inr (9, List.set [.ref (ad 0), .int (S.1 0), .int (S.1 1), .ref (ad 1), .ref (ad 2), .ref (ad 3), .int (S.1 2), .ref (ad 4), .ref (ad 5), .ref (ad 6), .ref (ad 7), .ref (ad 8), .ref (ad 9), .ref (ad 10), .ref (ad 11), .ref (ad 12), .ref (ad 13), .ref (ad 14), .ref (ad 15), .int (S.1 3), .ref (ad 16), .ref (ad 17), .ref (ad 18), .ref (ad 19), .ref (ad 20), .ref (ad 21), .ref (ad 22), .int (S.1 4), .int (S.1 5), .ref (ad 23), .ref (ad 24), .ref (ad 25), .ref (ad 26), .ref (ad 27), .int (S.1 6), .int (S.1 7), .int (S.1 8), .ref (ad 28), .ref (ad 29), .ref (ad 30), .ref (ad 31), .ref (ad 32), .ref (ad 33), .ref (ad 34), .ref (ad 35), .int (S.1 9)] 36 (.int v))) = w_Md_ h ad tC (sI S 8 v) := rfl
theorem wu_Md_s9 {h : Nat} {ad : Nat → Nat} {tC : Nat → ClassId} {S : MS} {v : Int32} : List.set (w_Md_ h ad tC S) 0 (h, .inr (9, List.set [.ref (ad 0), .int (S.1 0), .int (S.1 1), .ref (ad 1), .ref (ad 2), .ref (ad 3), .int (S.1 2), .ref (ad 4), .ref (ad 5), .ref (ad 6), .ref (ad 7), .ref (ad 8), .ref (ad 9), .ref (ad 10), .ref (ad 11), .ref (ad 12), .ref (ad 13), .ref (ad 14), .ref (ad 15), .int (S.1 3), .ref (ad 16), .ref (ad 17), .ref (ad 18), .ref (ad 19), .ref (ad 20), .ref (ad 21), .ref (ad 22), .int (S.1 4), .int (S.1 5), .ref (ad 23), .ref (ad 24), .ref (ad 25), .ref (ad 26), .ref (ad 27), .int (S.1 6), .int (S.1 7), .int (S.1 8), .ref (ad 28), .ref (ad 29), .ref (ad 30), .ref (ad 31), .ref (ad 32), .ref (ad 33), .ref (ad 34), .ref (ad 35), .int (S.1 9)] 45 (.int v))) = w_Md_ h ad tC (sI S 9 v) := rfl
theorem wu_Md_a0 {h : Nat} {ad : Nat → Nat} {tC : Nat → ClassId} {S : MS} {f : Nat → Int32} : List.set (w_Md_ h ad tC S) 1 (ad 0, .inl (tC 0, 40, .inl f)) = w_Md_ h ad tC (sA S 0 f) := rfl
theorem wu_Md_a1 {h : Nat} {ad : Nat → Nat} {tC : Nat → ClassId} {S : MS} {f : Nat → Int32} : List.set (w_Md_ h ad tC S) 2 (ad 1, .inl (tC 0, 10, .inl f)) = w_Md_ h ad tC (sA S 1 f) := rfl
theorem wu_Md_a2 {h : Nat} {ad : Nat → Nat} {tC : Nat → ClassId} {S : MS} {f : Nat → Int32} : List.set (w_Md_ h ad tC S) 3 (ad 2, .inl (tC 0, 60, .inl f)) = w_Md_ h ad tC (sA S 2 f) := rfl
theorem wu_Md_l0 {h : Nat} {ad : Nat → Nat} {tC : Nat → ClassId} {S : MS} {f : Nat → Int64} : List.set (w_Md_ h ad tC S) 4 (ad 3, .inl (tC 1, 41, .inr (.inl f))) = w_Md_ h ad tC (sL S 0 f) := rfl
theorem wu_Md_a3 {h : Nat} {ad : Nat → Nat} {tC : Nat → ClassId} {S : MS} {f : Nat → Int32} : List.set (w_Md_ h ad tC S) 5 (ad 4, .inl (tC 0, 12, .inl f)) = w_Md_ h ad tC (sA S 3 f) := rfl
theorem wu_Md_a4 {h : Nat} {ad : Nat → Nat} {tC : Nat → ClassId} {S : MS} {f : Nat → Int32} : List.set (w_Md_ h ad tC S) 6 (ad 5, .inl (tC 0, 12, .inl f)) = w_Md_ h ad tC (sA S 4 f) := rfl
theorem wu_Md_a5 {h : Nat} {ad : Nat → Nat} {tC : Nat → ClassId} {S : MS} {f : Nat → Int32} : List.set (w_Md_ h ad tC S) 7 (ad 6, .inl (tC 0, 12, .inl f)) = w_Md_ h ad tC (sA S 5 f) := rfl
theorem wu_Md_l1 {h : Nat} {ad : Nat → Nat} {tC : Nat → ClassId} {S : MS} {f : Nat → Int64} : List.set (w_Md_ h ad tC S) 8 (ad 7, .inl (tC 1, 72, .inr (.inl f))) = w_Md_ h ad tC (sL S 1 f) := rfl
theorem wu_Md_a6 {h : Nat} {ad : Nat → Nat} {tC : Nat → ClassId} {S : MS} {f : Nat → Int32} : List.set (w_Md_ h ad tC S) 9 (ad 8, .inl (tC 3, 12, .inl f)) = w_Md_ h ad tC (sA S 6 f) := rfl
theorem wu_Md_l2 {h : Nat} {ad : Nat → Nat} {tC : Nat → ClassId} {S : MS} {f : Nat → Int64} : List.set (w_Md_ h ad tC S) 10 (ad 9, .inl (tC 1, 12, .inr (.inl f))) = w_Md_ h ad tC (sL S 2 f) := rfl
theorem wu_Md_l3 {h : Nat} {ad : Nat → Nat} {tC : Nat → ClassId} {S : MS} {f : Nat → Int64} : List.set (w_Md_ h ad tC S) 11 (ad 10, .inl (tC 1, 12, .inr (.inl f))) = w_Md_ h ad tC (sL S 3 f) := rfl
theorem wu_Md_l4 {h : Nat} {ad : Nat → Nat} {tC : Nat → ClassId} {S : MS} {f : Nat → Int64} : List.set (w_Md_ h ad tC S) 12 (ad 11, .inl (tC 1, 12, .inr (.inl f))) = w_Md_ h ad tC (sL S 4 f) := rfl
theorem wu_Md_a7 {h : Nat} {ad : Nat → Nat} {tC : Nat → ClassId} {S : MS} {f : Nat → Int32} : List.set (w_Md_ h ad tC S) 13 (ad 12, .inl (tC 0, 41, .inl f)) = w_Md_ h ad tC (sA S 7 f) := rfl
theorem wu_Md_l5 {h : Nat} {ad : Nat → Nat} {tC : Nat → ClassId} {S : MS} {f : Nat → Int64} : List.set (w_Md_ h ad tC S) 14 (ad 13, .inl (tC 1, 123, .inr (.inl f))) = w_Md_ h ad tC (sL S 5 f) := rfl
theorem wu_Md_a8 {h : Nat} {ad : Nat → Nat} {tC : Nat → ClassId} {S : MS} {f : Nat → Int32} : List.set (w_Md_ h ad tC S) 15 (ad 14, .inl (tC 0, 123, .inl f)) = w_Md_ h ad tC (sA S 8 f) := rfl
theorem wu_Md_a9 {h : Nat} {ad : Nat → Nat} {tC : Nat → ClassId} {S : MS} {f : Nat → Int32} : List.set (w_Md_ h ad tC S) 16 (ad 15, .inl (tC 0, 3, .inl f)) = w_Md_ h ad tC (sA S 9 f) := rfl
theorem wu_Md_a10 {h : Nat} {ad : Nat → Nat} {tC : Nat → ClassId} {S : MS} {f : Nat → Int32} : List.set (w_Md_ h ad tC S) 17 (ad 16, .inl (tC 0, 60, .inl f)) = w_Md_ h ad tC (sA S 10 f) := rfl
theorem wu_Md_l6 {h : Nat} {ad : Nat → Nat} {tC : Nat → ClassId} {S : MS} {f : Nat → Int64} : List.set (w_Md_ h ad tC S) 18 (ad 17, .inl (tC 1, 60, .inr (.inl f))) = w_Md_ h ad tC (sL S 6 f) := rfl
theorem wu_Md_a11 {h : Nat} {ad : Nat → Nat} {tC : Nat → ClassId} {S : MS} {f : Nat → Int32} : List.set (w_Md_ h ad tC S) 19 (ad 18, .inl (tC 0, 9, .inl f)) = w_Md_ h ad tC (sA S 11 f) := rfl
theorem wu_Md_a12 {h : Nat} {ad : Nat → Nat} {tC : Nat → ClassId} {S : MS} {f : Nat → Int32} : List.set (w_Md_ h ad tC S) 20 (ad 19, .inl (tC 0, 9, .inl f)) = w_Md_ h ad tC (sA S 12 f) := rfl
theorem wu_Md_a13 {h : Nat} {ad : Nat → Nat} {tC : Nat → ClassId} {S : MS} {f : Nat → Int32} : List.set (w_Md_ h ad tC S) 21 (ad 20, .inl (tC 0, 9, .inl f)) = w_Md_ h ad tC (sA S 13 f) := rfl
theorem wu_Md_a14 {h : Nat} {ad : Nat → Nat} {tC : Nat → ClassId} {S : MS} {f : Nat → Int32} : List.set (w_Md_ h ad tC S) 22 (ad 21, .inl (tC 0, 9, .inl f)) = w_Md_ h ad tC (sA S 14 f) := rfl
theorem wu_Md_a15 {h : Nat} {ad : Nat → Nat} {tC : Nat → ClassId} {S : MS} {f : Nat → Int32} : List.set (w_Md_ h ad tC S) 23 (ad 22, .inl (tC 0, 9, .inl f)) = w_Md_ h ad tC (sA S 15 f) := rfl
theorem wu_Md_a16 {h : Nat} {ad : Nat → Nat} {tC : Nat → ClassId} {S : MS} {f : Nat → Int32} : List.set (w_Md_ h ad tC S) 24 (ad 23, .inl (tC 0, 60, .inl f)) = w_Md_ h ad tC (sA S 16 f) := rfl
theorem wu_Md_l7 {h : Nat} {ad : Nat → Nat} {tC : Nat → ClassId} {S : MS} {f : Nat → Int64} : List.set (w_Md_ h ad tC S) 25 (ad 24, .inl (tC 1, 60, .inr (.inl f))) = w_Md_ h ad tC (sL S 7 f) := rfl
theorem wu_Md_a17 {h : Nat} {ad : Nat → Nat} {tC : Nat → ClassId} {S : MS} {f : Nat → Int32} : List.set (w_Md_ h ad tC S) 26 (ad 25, .inl (tC 0, 60, .inl f)) = w_Md_ h ad tC (sA S 17 f) := rfl
theorem wu_Md_a18 {h : Nat} {ad : Nat → Nat} {tC : Nat → ClassId} {S : MS} {f : Nat → Int32} : List.set (w_Md_ h ad tC S) 27 (ad 26, .inl (tC 0, 3600, .inl f)) = w_Md_ h ad tC (sA S 18 f) := rfl
theorem wu_Md_l8 {h : Nat} {ad : Nat → Nat} {tC : Nat → ClassId} {S : MS} {f : Nat → Int64} : List.set (w_Md_ h ad tC S) 28 (ad 27, .inl (tC 1, 60, .inr (.inl f))) = w_Md_ h ad tC (sL S 8 f) := rfl
theorem wu_Md_l9 {h : Nat} {ad : Nat → Nat} {tC : Nat → ClassId} {S : MS} {f : Nat → Int64} : List.set (w_Md_ h ad tC S) 29 (ad 28, .inl (tC 1, 12, .inr (.inl f))) = w_Md_ h ad tC (sL S 9 f) := rfl
theorem wu_Md_l10 {h : Nat} {ad : Nat → Nat} {tC : Nat → ClassId} {S : MS} {f : Nat → Int64} : List.set (w_Md_ h ad tC S) 30 (ad 29, .inl (tC 1, 12, .inr (.inl f))) = w_Md_ h ad tC (sL S 10 f) := rfl
theorem wu_Md_a19 {h : Nat} {ad : Nat → Nat} {tC : Nat → ClassId} {S : MS} {f : Nat → Int32} : List.set (w_Md_ h ad tC S) 31 (ad 30, .inl (tC 3, 12, .inl f)) = w_Md_ h ad tC (sA S 19 f) := rfl
theorem wu_Md_l11 {h : Nat} {ad : Nat → Nat} {tC : Nat → ClassId} {S : MS} {f : Nat → Int64} : List.set (w_Md_ h ad tC S) 32 (ad 31, .inl (tC 1, 12, .inr (.inl f))) = w_Md_ h ad tC (sL S 11 f) := rfl
theorem wu_Md_l12 {h : Nat} {ad : Nat → Nat} {tC : Nat → ClassId} {S : MS} {f : Nat → Int64} : List.set (w_Md_ h ad tC S) 33 (ad 32, .inl (tC 1, 12, .inr (.inl f))) = w_Md_ h ad tC (sL S 12 f) := rfl
theorem wu_Md_l13 {h : Nat} {ad : Nat → Nat} {tC : Nat → ClassId} {S : MS} {f : Nat → Int64} : List.set (w_Md_ h ad tC S) 34 (ad 33, .inl (tC 1, 12, .inr (.inl f))) = w_Md_ h ad tC (sL S 13 f) := rfl
theorem wu_Md_l14 {h : Nat} {ad : Nat → Nat} {tC : Nat → ClassId} {S : MS} {f : Nat → Int64} : List.set (w_Md_ h ad tC S) 35 (ad 34, .inl (tC 1, 12, .inr (.inl f))) = w_Md_ h ad tC (sL S 14 f) := rfl
theorem wu_Md_a20 {h : Nat} {ad : Nat → Nat} {tC : Nat → ClassId} {S : MS} {f : Nat → Int32} : List.set (w_Md_ h ad tC S) 36 (ad 35, .inl (tC 0, 40, .inl f)) = w_Md_ h ad tC (sA S 20 f) := rfl
theorem sr_Md {h : Nat} {ad : Nat → Nat} {tC : Nat → ClassId} {S : MS} {Y : va_W} {i : Nat} {c : Nat × va_E} : List.set (w_Md_ h ad tC S ++ Y) (i + 37) c = w_Md_ h ad tC S ++ List.set Y i c := rfl
theorem sl_Md_0 {h : Nat} {ad : Nat → Nat} {tC : Nat → ClassId} {S : MS} {Y : va_W} {c : Nat × va_E} : List.set (w_Md_ h ad tC S ++ Y) 0 c = List.set (w_Md_ h ad tC S) 0 c ++ Y := rfl
theorem sl_Md_1 {h : Nat} {ad : Nat → Nat} {tC : Nat → ClassId} {S : MS} {Y : va_W} {c : Nat × va_E} : List.set (w_Md_ h ad tC S ++ Y) 1 c = List.set (w_Md_ h ad tC S) 1 c ++ Y := rfl
theorem sl_Md_2 {h : Nat} {ad : Nat → Nat} {tC : Nat → ClassId} {S : MS} {Y : va_W} {c : Nat × va_E} : List.set (w_Md_ h ad tC S ++ Y) 2 c = List.set (w_Md_ h ad tC S) 2 c ++ Y := rfl
theorem sl_Md_3 {h : Nat} {ad : Nat → Nat} {tC : Nat → ClassId} {S : MS} {Y : va_W} {c : Nat × va_E} : List.set (w_Md_ h ad tC S ++ Y) 3 c = List.set (w_Md_ h ad tC S) 3 c ++ Y := rfl
theorem sl_Md_4 {h : Nat} {ad : Nat → Nat} {tC : Nat → ClassId} {S : MS} {Y : va_W} {c : Nat × va_E} : List.set (w_Md_ h ad tC S ++ Y) 4 c = List.set (w_Md_ h ad tC S) 4 c ++ Y := rfl
theorem sl_Md_5 {h : Nat} {ad : Nat → Nat} {tC : Nat → ClassId} {S : MS} {Y : va_W} {c : Nat × va_E} : List.set (w_Md_ h ad tC S ++ Y) 5 c = List.set (w_Md_ h ad tC S) 5 c ++ Y := rfl
theorem sl_Md_6 {h : Nat} {ad : Nat → Nat} {tC : Nat → ClassId} {S : MS} {Y : va_W} {c : Nat × va_E} : List.set (w_Md_ h ad tC S ++ Y) 6 c = List.set (w_Md_ h ad tC S) 6 c ++ Y := rfl
theorem sl_Md_7 {h : Nat} {ad : Nat → Nat} {tC : Nat → ClassId} {S : MS} {Y : va_W} {c : Nat × va_E} : List.set (w_Md_ h ad tC S ++ Y) 7 c = List.set (w_Md_ h ad tC S) 7 c ++ Y := rfl
theorem sl_Md_8 {h : Nat} {ad : Nat → Nat} {tC : Nat → ClassId} {S : MS} {Y : va_W} {c : Nat × va_E} : List.set (w_Md_ h ad tC S ++ Y) 8 c = List.set (w_Md_ h ad tC S) 8 c ++ Y := rfl
theorem sl_Md_9 {h : Nat} {ad : Nat → Nat} {tC : Nat → ClassId} {S : MS} {Y : va_W} {c : Nat × va_E} : List.set (w_Md_ h ad tC S ++ Y) 9 c = List.set (w_Md_ h ad tC S) 9 c ++ Y := rfl
theorem sl_Md_10 {h : Nat} {ad : Nat → Nat} {tC : Nat → ClassId} {S : MS} {Y : va_W} {c : Nat × va_E} : List.set (w_Md_ h ad tC S ++ Y) 10 c = List.set (w_Md_ h ad tC S) 10 c ++ Y := rfl
theorem sl_Md_11 {h : Nat} {ad : Nat → Nat} {tC : Nat → ClassId} {S : MS} {Y : va_W} {c : Nat × va_E} : List.set (w_Md_ h ad tC S ++ Y) 11 c = List.set (w_Md_ h ad tC S) 11 c ++ Y := rfl
theorem sl_Md_12 {h : Nat} {ad : Nat → Nat} {tC : Nat → ClassId} {S : MS} {Y : va_W} {c : Nat × va_E} : List.set (w_Md_ h ad tC S ++ Y) 12 c = List.set (w_Md_ h ad tC S) 12 c ++ Y := rfl
theorem sl_Md_13 {h : Nat} {ad : Nat → Nat} {tC : Nat → ClassId} {S : MS} {Y : va_W} {c : Nat × va_E} : List.set (w_Md_ h ad tC S ++ Y) 13 c = List.set (w_Md_ h ad tC S) 13 c ++ Y := rfl
theorem sl_Md_14 {h : Nat} {ad : Nat → Nat} {tC : Nat → ClassId} {S : MS} {Y : va_W} {c : Nat × va_E} : List.set (w_Md_ h ad tC S ++ Y) 14 c = List.set (w_Md_ h ad tC S) 14 c ++ Y := rfl
theorem sl_Md_15 {h : Nat} {ad : Nat → Nat} {tC : Nat → ClassId} {S : MS} {Y : va_W} {c : Nat × va_E} : List.set (w_Md_ h ad tC S ++ Y) 15 c = List.set (w_Md_ h ad tC S) 15 c ++ Y := rfl
theorem sl_Md_16 {h : Nat} {ad : Nat → Nat} {tC : Nat → ClassId} {S : MS} {Y : va_W} {c : Nat × va_E} : List.set (w_Md_ h ad tC S ++ Y) 16 c = List.set (w_Md_ h ad tC S) 16 c ++ Y := rfl
theorem sl_Md_17 {h : Nat} {ad : Nat → Nat} {tC : Nat → ClassId} {S : MS} {Y : va_W} {c : Nat × va_E} : List.set (w_Md_ h ad tC S ++ Y) 17 c = List.set (w_Md_ h ad tC S) 17 c ++ Y := rfl
theorem sl_Md_18 {h : Nat} {ad : Nat → Nat} {tC : Nat → ClassId} {S : MS} {Y : va_W} {c : Nat × va_E} : List.set (w_Md_ h ad tC S ++ Y) 18 c = List.set (w_Md_ h ad tC S) 18 c ++ Y := rfl
theorem sl_Md_19 {h : Nat} {ad : Nat → Nat} {tC : Nat → ClassId} {S : MS} {Y : va_W} {c : Nat × va_E} : List.set (w_Md_ h ad tC S ++ Y) 19 c = List.set (w_Md_ h ad tC S) 19 c ++ Y := rfl
theorem sl_Md_20 {h : Nat} {ad : Nat → Nat} {tC : Nat → ClassId} {S : MS} {Y : va_W} {c : Nat × va_E} : List.set (w_Md_ h ad tC S ++ Y) 20 c = List.set (w_Md_ h ad tC S) 20 c ++ Y := rfl
theorem sl_Md_21 {h : Nat} {ad : Nat → Nat} {tC : Nat → ClassId} {S : MS} {Y : va_W} {c : Nat × va_E} : List.set (w_Md_ h ad tC S ++ Y) 21 c = List.set (w_Md_ h ad tC S) 21 c ++ Y := rfl
theorem sl_Md_22 {h : Nat} {ad : Nat → Nat} {tC : Nat → ClassId} {S : MS} {Y : va_W} {c : Nat × va_E} : List.set (w_Md_ h ad tC S ++ Y) 22 c = List.set (w_Md_ h ad tC S) 22 c ++ Y := rfl
theorem sl_Md_23 {h : Nat} {ad : Nat → Nat} {tC : Nat → ClassId} {S : MS} {Y : va_W} {c : Nat × va_E} : List.set (w_Md_ h ad tC S ++ Y) 23 c = List.set (w_Md_ h ad tC S) 23 c ++ Y := rfl
theorem sl_Md_24 {h : Nat} {ad : Nat → Nat} {tC : Nat → ClassId} {S : MS} {Y : va_W} {c : Nat × va_E} : List.set (w_Md_ h ad tC S ++ Y) 24 c = List.set (w_Md_ h ad tC S) 24 c ++ Y := rfl
theorem sl_Md_25 {h : Nat} {ad : Nat → Nat} {tC : Nat → ClassId} {S : MS} {Y : va_W} {c : Nat × va_E} : List.set (w_Md_ h ad tC S ++ Y) 25 c = List.set (w_Md_ h ad tC S) 25 c ++ Y := rfl
theorem sl_Md_26 {h : Nat} {ad : Nat → Nat} {tC : Nat → ClassId} {S : MS} {Y : va_W} {c : Nat × va_E} : List.set (w_Md_ h ad tC S ++ Y) 26 c = List.set (w_Md_ h ad tC S) 26 c ++ Y := rfl
theorem sl_Md_27 {h : Nat} {ad : Nat → Nat} {tC : Nat → ClassId} {S : MS} {Y : va_W} {c : Nat × va_E} : List.set (w_Md_ h ad tC S ++ Y) 27 c = List.set (w_Md_ h ad tC S) 27 c ++ Y := rfl
theorem sl_Md_28 {h : Nat} {ad : Nat → Nat} {tC : Nat → ClassId} {S : MS} {Y : va_W} {c : Nat × va_E} : List.set (w_Md_ h ad tC S ++ Y) 28 c = List.set (w_Md_ h ad tC S) 28 c ++ Y := rfl
theorem sl_Md_29 {h : Nat} {ad : Nat → Nat} {tC : Nat → ClassId} {S : MS} {Y : va_W} {c : Nat × va_E} : List.set (w_Md_ h ad tC S ++ Y) 29 c = List.set (w_Md_ h ad tC S) 29 c ++ Y := rfl
theorem sl_Md_30 {h : Nat} {ad : Nat → Nat} {tC : Nat → ClassId} {S : MS} {Y : va_W} {c : Nat × va_E} : List.set (w_Md_ h ad tC S ++ Y) 30 c = List.set (w_Md_ h ad tC S) 30 c ++ Y := rfl
theorem sl_Md_31 {h : Nat} {ad : Nat → Nat} {tC : Nat → ClassId} {S : MS} {Y : va_W} {c : Nat × va_E} : List.set (w_Md_ h ad tC S ++ Y) 31 c = List.set (w_Md_ h ad tC S) 31 c ++ Y := rfl
theorem sl_Md_32 {h : Nat} {ad : Nat → Nat} {tC : Nat → ClassId} {S : MS} {Y : va_W} {c : Nat × va_E} : List.set (w_Md_ h ad tC S ++ Y) 32 c = List.set (w_Md_ h ad tC S) 32 c ++ Y := rfl
theorem sl_Md_33 {h : Nat} {ad : Nat → Nat} {tC : Nat → ClassId} {S : MS} {Y : va_W} {c : Nat × va_E} : List.set (w_Md_ h ad tC S ++ Y) 33 c = List.set (w_Md_ h ad tC S) 33 c ++ Y := rfl
theorem sl_Md_34 {h : Nat} {ad : Nat → Nat} {tC : Nat → ClassId} {S : MS} {Y : va_W} {c : Nat × va_E} : List.set (w_Md_ h ad tC S ++ Y) 34 c = List.set (w_Md_ h ad tC S) 34 c ++ Y := rfl
theorem sl_Md_35 {h : Nat} {ad : Nat → Nat} {tC : Nat → ClassId} {S : MS} {Y : va_W} {c : Nat × va_E} : List.set (w_Md_ h ad tC S ++ Y) 35 c = List.set (w_Md_ h ad tC S) 35 c ++ Y := rfl
theorem sl_Md_36 {h : Nat} {ad : Nat → Nat} {tC : Nat → ClassId} {S : MS} {Y : va_W} {c : Nat × va_E} : List.set (w_Md_ h ad tC S ++ Y) 36 c = List.set (w_Md_ h ad tC S) 36 c ++ Y := rfl
theorem nb_z {v : Int32} (h : v = 0 ∨ v = 1) : narrow .boolean (.int v) = .int v := by
  rcases h with rfl | rfl <;> decide
end
section
def f_Pl_clear (S : MS) : Option (Unit × MS) := (some (sI S 0 0)).bind fun S1 => (some (sI S1 1 0)).bind fun S2 => (some (sI S2 2 0)).bind fun S3 => (some (sI S3 3 0)).bind fun S4 => (some (sI S4 4 0)).bind fun S5 => some ((), S5)
def rm_Pl_clear : Room := { frames := 0, cells := 0, slots := 0, locals := 0 }
set_option maxHeartbeats 4000000 in
set_option maxRecDepth 100000 in
theorem m_Pl_clear (l : Launch) (dC : Nat → ClassId) (dI : Nat → Nat → Nat) (tC : Nat → ClassId) (h_S : Nat) (ad_S : Nat → Nat) (S : MS) (R : Unit × MS) (hf : f_Pl_clear S = some R) (sz : Nat) : Met l y_Pl_clear w_Pl_clear rm_Pl_clear (wrP (dC, dI) tC (w_Pl_ h_S ad_S tC S) sz [.ref h_S]) (wrQ (dC, dI) (w_Pl_ h_S ad_S tC S) sz (fun r w => r = none ∧ w = (w_Pl_ h_S ad_S tC R.2))) 0 0 (va_A (w_Pl_ h_S ad_S tC S) sz) := by
  refine Met.ofW (cc := c_Pl_clear) (maxL := 1) (ret := none) (by decide) rfl ?_
  intro p e s m args below meth c s₁ B hml hv
  obtain ⟨hav, hsz, hP, hK, hD0⟩ := hv
  have hx := B.exec
  have hb := B.bytes
  have hr := B.returns
  have hts : ∀ w ∈ gw, w.before args s = true := fun w h => atoms_spec (ws := w_Pl_clear) B.pre w (List.mem_cons_of_mem _ h)
  have hown : s.vm.findClass RX3 = some m.cls := findClass_of_methodNamed B.named
  have hlocks := B.notSynchronized
  subst hsz
  have hD := hD0.self (sz := s.heap.size)
  obtain ⟨A, hAe⟩ : ∃ z, z = va_A (w_Pl_ h_S ad_S tC S) s.heap.size := ⟨_, rfl⟩
  rw [← hAe] at hD
  have hA : ∀ q : Nat, s.heap.size ≤ q → A q := fun q h => by rw [hAe]; exact Or.inr h
  have hS : va_S A s.heap s.heap [] := va_S.rf
  refine q_w (R := rm_Pl_clear) (fun Q hQ => ?_)
  refine en_w (av := [.ref h_S]) hav (Nat.le_of_ble_eq_true rfl) (fun ls hl => ?_)
  have hl : lv_has ls 1 [(0, .ref h_S)] := hl
  unfold f_Pl_clear at hf
  refine lv_aload_n hx hb d_Pl_clear_0 rfl (lv_at hl 0 rfl) ?_
  refine lv_iconst (v := 0) hx hb d_Pl_clear_1 (by decide) ?_
  refine va_put (D := (dC, dI)) (ci := 3) (v := .int 0) (ty := .int) (C := RX3) (T := TX3) (N := 12) hx hb hts in_X3 tyX3 tyX3_ok nmX3 hown hK hP hD hS 0 (fs := [.ref (ad_S 0), .ref (ad_S 1), .ref (ad_S 2), .ref (ad_S 3), .ref (ad_S 4), .ref (ad_S 5), .ref (ad_S 6), .int (S.1 0), .int (S.1 1), .int (S.1 2), .int (S.1 3), .int (S.1 4)]) rfl rfl 7 (by decide) (hts _ kF_3_33) (fun _ h9 => h9) rfl (by decide +kernel) (rfl) (rfl) (Nat.le_of_ble_eq_true rfl) d_Pl_clear_2 (fun H locs hP hD hS => ?_)
  rw [wu_Pl_s0] at hP hD
  obtain ⟨S1, hS1, hf⟩ := op_b hf
  have hP : va_P (dC, dI) vwCl (w_Pl_ h_S ad_S tC S1) H := by rw [← Option.some.inj hS1]; exact hP
  have hD : va_D A (w_Pl_ h_S ad_S tC S1) := by rw [← Option.some.inj hS1]; exact hD
  refine lv_aload_n hx hb d_Pl_clear_5 rfl (lv_at hl 0 rfl) ?_
  refine lv_iconst (v := 0) hx hb d_Pl_clear_6 (by decide) ?_
  refine va_put (D := (dC, dI)) (ci := 3) (v := .int 0) (ty := .int) (C := RX3) (T := TX3) (N := 12) hx hb hts in_X3 tyX3 tyX3_ok nmX3 hown hK hP hD hS 0 (fs := [.ref (ad_S 0), .ref (ad_S 1), .ref (ad_S 2), .ref (ad_S 3), .ref (ad_S 4), .ref (ad_S 5), .ref (ad_S 6), .int (S1.1 0), .int (S1.1 1), .int (S1.1 2), .int (S1.1 3), .int (S1.1 4)]) rfl rfl 8 (by decide) (hts _ kF_3_37) (fun _ h9 => h9) rfl (by decide +kernel) (rfl) (rfl) (Nat.le_of_ble_eq_true rfl) d_Pl_clear_7 (fun H locs hP hD hS => ?_)
  rw [wu_Pl_s1] at hP hD
  obtain ⟨S2, hS2, hf⟩ := op_b hf
  have hP : va_P (dC, dI) vwCl (w_Pl_ h_S ad_S tC S2) H := by rw [← Option.some.inj hS2]; exact hP
  have hD : va_D A (w_Pl_ h_S ad_S tC S2) := by rw [← Option.some.inj hS2]; exact hD
  refine lv_aload_n hx hb d_Pl_clear_10 rfl (lv_at hl 0 rfl) ?_
  refine lv_iconst (v := 0) hx hb d_Pl_clear_11 (by decide) ?_
  refine va_put (D := (dC, dI)) (ci := 3) (v := .int 0) (ty := .int) (C := RX3) (T := TX3) (N := 12) hx hb hts in_X3 tyX3 tyX3_ok nmX3 hown hK hP hD hS 0 (fs := [.ref (ad_S 0), .ref (ad_S 1), .ref (ad_S 2), .ref (ad_S 3), .ref (ad_S 4), .ref (ad_S 5), .ref (ad_S 6), .int (S2.1 0), .int (S2.1 1), .int (S2.1 2), .int (S2.1 3), .int (S2.1 4)]) rfl rfl 9 (by decide) (hts _ kF_3_40) (fun _ h9 => h9) rfl (by decide +kernel) (rfl) (rfl) (Nat.le_of_ble_eq_true rfl) d_Pl_clear_12 (fun H locs hP hD hS => ?_)
  rw [wu_Pl_s2] at hP hD
  obtain ⟨S3, hS3, hf⟩ := op_b hf
  have hP : va_P (dC, dI) vwCl (w_Pl_ h_S ad_S tC S3) H := by rw [← Option.some.inj hS3]; exact hP
  have hD : va_D A (w_Pl_ h_S ad_S tC S3) := by rw [← Option.some.inj hS3]; exact hD
  refine lv_aload_n hx hb d_Pl_clear_15 rfl (lv_at hl 0 rfl) ?_
  refine lv_iconst (v := 0) hx hb d_Pl_clear_16 (by decide) ?_
  refine va_put (D := (dC, dI)) (ci := 3) (v := .int 0) (ty := .int) (C := RX3) (T := TX3) (N := 12) hx hb hts in_X3 tyX3 tyX3_ok nmX3 hown hK hP hD hS 0 (fs := [.ref (ad_S 0), .ref (ad_S 1), .ref (ad_S 2), .ref (ad_S 3), .ref (ad_S 4), .ref (ad_S 5), .ref (ad_S 6), .int (S3.1 0), .int (S3.1 1), .int (S3.1 2), .int (S3.1 3), .int (S3.1 4)]) rfl rfl 10 (by decide) (hts _ kF_3_43) (fun _ h9 => h9) rfl (by decide +kernel) (rfl) (rfl) (Nat.le_of_ble_eq_true rfl) d_Pl_clear_17 (fun H locs hP hD hS => ?_)
  rw [wu_Pl_s3] at hP hD
  obtain ⟨S4, hS4, hf⟩ := op_b hf
  have hP : va_P (dC, dI) vwCl (w_Pl_ h_S ad_S tC S4) H := by rw [← Option.some.inj hS4]; exact hP
  have hD : va_D A (w_Pl_ h_S ad_S tC S4) := by rw [← Option.some.inj hS4]; exact hD
  refine lv_aload_n hx hb d_Pl_clear_20 rfl (lv_at hl 0 rfl) ?_
  refine lv_iconst (v := 0) hx hb d_Pl_clear_21 (by decide) ?_
  refine va_put (D := (dC, dI)) (ci := 3) (v := .int 0) (ty := .boolean) (C := RX3) (T := TX3) (N := 12) hx hb hts in_X3 tyX3 tyX3_ok nmX3 hown hK hP hD hS 0 (fs := [.ref (ad_S 0), .ref (ad_S 1), .ref (ad_S 2), .ref (ad_S 3), .ref (ad_S 4), .ref (ad_S 5), .ref (ad_S 6), .int (S4.1 0), .int (S4.1 1), .int (S4.1 2), .int (S4.1 3), .int (S4.1 4)]) rfl rfl 11 (by decide) (hts _ kF_3_46) (fun _ h9 => h9) rfl (by decide +kernel) (by decide) (by decide) (Nat.le_of_ble_eq_true rfl) d_Pl_clear_22 (fun H locs hP hD hS => ?_)
  rw [wu_Pl_s4] at hP hD
  obtain ⟨S5, hS5, hf⟩ := op_b hf
  have hP : va_P (dC, dI) vwCl (w_Pl_ h_S ad_S tC S5) H := by rw [← Option.some.inj hS5]; exact hP
  have hD : va_D A (w_Pl_ h_S ad_S tC S5) := by rw [← Option.some.inj hS5]; exact hD
  obtain rfl := Option.some.inj hf
  subst hQ
  subst hAe
  exact W.vret hx hb hr (fun t ht hW => ⟨⟨_, _, rfl, ⟨rfl, rfl⟩, by rw [ht]; exact hP, hD⟩, hS.F ht⟩) hS.2.2 d_Pl_clear_25
def l_Pl_addPiece_16 : Nat → Int32 → Int32 → Int32 → Int32 → MS → Option (Int32 × MS)
  | 0, _, _, _, _, _ => none
  | n + 1, x1, x2, x3, x4, S => (if x4 ≤ x1 then some (x4, S) else if ix (x4 - 1) 60 then (if x3 ≤ ((S.2.1 1) (x4 - 1).toNatClampNeg) then some (x4, S) else if ix (x4 - 1) 60 then if ix x4 60 then (some (sA S 0 (upd (S.2.1 0) x4.toNatClampNeg ((S.2.1 0) (x4 - 1).toNatClampNeg)))).bind fun S9 => if ix (x4 - 1) 60 then if ix x4 60 then (some (sA S9 1 (upd (S9.2.1 1) x4.toNatClampNeg ((S9.2.1 1) (x4 - 1).toNatClampNeg)))).bind fun S12 => l_Pl_addPiece_16 n x1 x2 x3 (x4 + (-1)) S12 else none else none else none else none) else none)
def f_Pl_addPiece (S : MS) (p1 : Int32) (p2 : Int32) (p3 : Int32) : Option (Unit × MS) := (if (S.1 0) < 60 then (some (S.1 0) : Option Int32).bind fun v2 => (l_Pl_addPiece_16 fu p1 p2 p3 v2 S).bind fun q3 => if ix q3.1 60 then (some (sA q3.2 0 (upd (q3.2.2.1 0) q3.1.toNatClampNeg p2))).bind fun S14 => if ix q3.1 60 then (some (sA S14 1 (upd (S14.2.1 1) q3.1.toNatClampNeg p3))).bind fun S16 => (some (sI S16 0 ((S16.1 0) + 1))).bind fun S17 => some ((), S17) else none else none else some ((), S))
def rm_Pl_addPiece : Room := { frames := 0, cells := 0, slots := 0, locals := 0 }
set_option maxHeartbeats 4000000 in
set_option maxRecDepth 100000 in
theorem m_Pl_addPiece (l : Launch) (dC : Nat → ClassId) (dI : Nat → Nat → Nat) (tC : Nat → ClassId) (h_S : Nat) (ad_S : Nat → Nat) (S : MS) (p1 : Int32) (p2 : Int32) (p3 : Int32) (R : Unit × MS) (hf : f_Pl_addPiece S p1 p2 p3 = some R) (sz : Nat) : Met l y_Pl_addPiece w_Pl_addPiece rm_Pl_addPiece (wrP (dC, dI) tC (w_Pl_ h_S ad_S tC S) sz [.ref h_S, .int p1, .int p2, .int p3]) (wrQ (dC, dI) (w_Pl_ h_S ad_S tC S) sz (fun r w => r = none ∧ w = (w_Pl_ h_S ad_S tC R.2))) 0 0 (va_A (w_Pl_ h_S ad_S tC S) sz) := by
  refine Met.ofW (cc := c_Pl_addPiece) (maxL := 5) (ret := none) (by decide) rfl ?_
  intro p e s m args below meth c s₁ B hml hv
  obtain ⟨hav, hsz, hP, hK, hD0⟩ := hv
  have hx := B.exec
  have hb := B.bytes
  have hr := B.returns
  have hts : ∀ w ∈ gw, w.before args s = true := fun w h => atoms_spec (ws := w_Pl_addPiece) B.pre w (List.mem_cons_of_mem _ h)
  have hown : s.vm.findClass RX3 = some m.cls := findClass_of_methodNamed B.named
  have hlocks := B.notSynchronized
  subst hsz
  have hD := hD0.self (sz := s.heap.size)
  obtain ⟨A, hAe⟩ : ∃ z, z = va_A (w_Pl_ h_S ad_S tC S) s.heap.size := ⟨_, rfl⟩
  rw [← hAe] at hD
  have hA : ∀ q : Nat, s.heap.size ≤ q → A q := fun q h => by rw [hAe]; exact Or.inr h
  have hS : va_S A s.heap s.heap [] := va_S.rf
  refine q_w (R := rm_Pl_addPiece) (fun Q hQ => ?_)
  refine en_w (av := [.ref h_S, .int p1, .int p2, .int p3]) hav (Nat.le_of_ble_eq_true rfl) (fun ls hl => ?_)
  have hl : lv_has ls 5 [(0, .ref h_S), (1, .int p1), (2, .int p2), (3, .int p3)] := hl
  unfold f_Pl_addPiece at hf
  refine lv_aload_n hx hb d_Pl_addPiece_0 rfl (lv_at hl 0 rfl) ?_
  refine va_get (D := (dC, dI)) (ci := 3) (v := .int (S.1 0)) (C := RX3) (T := TX3) (N := 12) hx hb hts in_X3 hown hK hP 0 rfl rfl 7 (by decide) (hts _ kF_3_33) (fun _ h9 => h9) rfl d_Pl_addPiece_1 ?_
  refine lv_bipush (v := 60) hx hb d_Pl_addPiece_4 (by decide) ?_
  refine lv_icmp_lt (tgt := 10) hx hb d_Pl_addPiece_6 (by decide) (fun c1 => ?_) (fun c1 => ?_)
  · have hf := op_t hf c1
    refine lv_aload_n hx hb d_Pl_addPiece_10 rfl (lv_at hl 0 rfl) ?_
    refine va_get (D := (dC, dI)) (ci := 3) (v := .int (S.1 0)) (C := RX3) (T := TX3) (N := 12) hx hb hts in_X3 hown hK hP 0 rfl rfl 7 (by decide) (hts _ kF_3_33) (fun _ h9 => h9) rfl d_Pl_addPiece_11 ?_
    obtain ⟨v2, hv2, hf⟩ := op_b hf
    refine rw_i (y := v2) (Option.some.inj hv2) ?_
    refine lv_istore (lv' := [(4, .int v2), (0, .ref h_S), (1, .int p1), (2, .int p2), (3, .int p3)]) hx hb d_Pl_addPiece_14 hl (by decide) rfl (fun ls hl => ?_)
    have lp_16 : ∀ (n : Nat) (x1 : Int32) (x2 : Int32) (x3 : Int32) (x4 : Int32) (S : MS) (Rl : Int32 × MS), l_Pl_addPiece_16 n x1 x2 x3 x4 S = some Rl → ∀ (H : Heap) (locs : List Loc), va_P (dC, dI) vwCl (w_Pl_ h_S ad_S tC S) H → va_D A (w_Pl_ h_S ad_S tC S) → va_S A s.heap H locs → ∀ ls : Array Slot, lv_has ls 5 [(4, .int x4), (0, .ref h_S), (1, .int x1), (2, .int x2), (3, .int x3)] → (∀ (H : Heap) (locs : List Loc), va_P (dC, dI) vwCl (w_Pl_ h_S ad_S tC Rl.2) H → va_D A (w_Pl_ h_S ad_S tC Rl.2) → va_S A s.heap H locs → ∀ ls : Array Slot, lv_has ls 5 [(4, .int Rl.1), (0, .ref h_S), (1, .int x1), (2, .int x2), (3, .int x3)] → W p l e rm_Pl_addPiece s m args below meth c H locs 0 0 Q (F0 m 73 ls [])) → W p l e rm_Pl_addPiece s m args below meth c H locs 0 0 Q (F0 m 16 ls []) := by
      intro n
      induction n with
      | zero => intro x1 x2 x3 x4 S Rl hf; cases hf
      | succ n ih_16 =>
        intro x1 x2 x3 x4 S Rl hf H locs hP hD hS ls hl K
        rw [l_Pl_addPiece_16] at hf
        refine lv_iload hx hb d_Pl_addPiece_16 (lv_at hl 0 rfl) ?_
        refine lv_iload_n hx hb d_Pl_addPiece_18 rfl (lv_at hl 2 rfl) ?_
        refine lv_icmp_le (tgt := 73) hx hb d_Pl_addPiece_19 (by decide) (fun c4 => ?_) (fun c4 => ?_)
        · have hf := op_t hf c4
          obtain rfl := Option.some.inj hf
          exact K _ _ hP hD hS _ (lv_sub hl [0, 1, 2, 3, 4] rfl)
        · have hf := op_e hf c4
          refine lv_aload_n hx hb d_Pl_addPiece_22 rfl (lv_at hl 1 rfl) ?_
          refine va_get (D := (dC, dI)) (ci := 3) (v := .ref (ad_S 1)) (C := RX3) (T := TX3) (N := 12) hx hb hts in_X3 hown hK hP 0 rfl rfl 1 (by decide) (hts _ kF_3_15) (fun _ h9 => h9) rfl d_Pl_addPiece_23 ?_
          refine lv_iload hx hb d_Pl_addPiece_26 (lv_at hl 0 rfl) ?_
          refine lv_iconst (v := 1) hx hb d_Pl_addPiece_28 (by decide) ?_
          refine lv_isub hx hb d_Pl_addPiece_29 ?_
          obtain ⟨hi5, hf⟩ := op_if hf
          refine va_iald (f := S.2.1 1) hx hb hK hP 2 0 rfl rfl (ix_in hi5) d_Pl_addPiece_30 ?_
          refine lv_iload_n hx hb d_Pl_addPiece_31 rfl (lv_at hl 4 rfl) ?_
          refine lv_icmp_ge (tgt := 73) hx hb d_Pl_addPiece_32 (by decide) (fun c6 => ?_) (fun c6 => ?_)
          · have hf := op_t hf c6
            obtain rfl := Option.some.inj hf
            exact K _ _ hP hD hS _ (lv_sub hl [0, 1, 2, 3, 4] rfl)
          · have hf := op_e hf c6
            refine lv_aload_n hx hb d_Pl_addPiece_35 rfl (lv_at hl 1 rfl) ?_
            refine va_get (D := (dC, dI)) (ci := 3) (v := .ref (ad_S 0)) (C := RX3) (T := TX3) (N := 12) hx hb hts in_X3 hown hK hP 0 rfl rfl 0 (by decide) (hts _ kF_3_9) (fun _ h9 => h9) rfl d_Pl_addPiece_36 ?_
            refine lv_iload hx hb d_Pl_addPiece_39 (lv_at hl 0 rfl) ?_
            refine lv_aload_n hx hb d_Pl_addPiece_41 rfl (lv_at hl 1 rfl) ?_
            refine va_get (D := (dC, dI)) (ci := 3) (v := .ref (ad_S 0)) (C := RX3) (T := TX3) (N := 12) hx hb hts in_X3 hown hK hP 0 rfl rfl 0 (by decide) (hts _ kF_3_9) (fun _ h9 => h9) rfl d_Pl_addPiece_42 ?_
            refine lv_iload hx hb d_Pl_addPiece_45 (lv_at hl 0 rfl) ?_
            refine lv_iconst (v := 1) hx hb d_Pl_addPiece_47 (by decide) ?_
            refine lv_isub hx hb d_Pl_addPiece_48 ?_
            obtain ⟨hi7, hf⟩ := op_if hf
            refine va_iald (f := S.2.1 0) hx hb hK hP 1 0 rfl rfl (ix_in hi7) d_Pl_addPiece_49 ?_
            obtain ⟨hi8, hf⟩ := op_if hf
            refine va_iast (f := S.2.1 0) hx hb hK hP hD hS 1 0 rfl rfl (ix_in hi8) d_Pl_addPiece_50 (fun H locs hP hD hS => ?_)
            rw [wu_Pl_a0] at hP hD
            obtain ⟨S9, hS9, hf⟩ := op_b hf
            have hP : va_P (dC, dI) vwCl (w_Pl_ h_S ad_S tC S9) H := by rw [← Option.some.inj hS9]; exact hP
            have hD : va_D A (w_Pl_ h_S ad_S tC S9) := by rw [← Option.some.inj hS9]; exact hD
            refine lv_aload_n hx hb d_Pl_addPiece_51 rfl (lv_at hl 1 rfl) ?_
            refine va_get (D := (dC, dI)) (ci := 3) (v := .ref (ad_S 1)) (C := RX3) (T := TX3) (N := 12) hx hb hts in_X3 hown hK hP 0 rfl rfl 1 (by decide) (hts _ kF_3_15) (fun _ h9 => h9) rfl d_Pl_addPiece_52 ?_
            refine lv_iload hx hb d_Pl_addPiece_55 (lv_at hl 0 rfl) ?_
            refine lv_aload_n hx hb d_Pl_addPiece_57 rfl (lv_at hl 1 rfl) ?_
            refine va_get (D := (dC, dI)) (ci := 3) (v := .ref (ad_S 1)) (C := RX3) (T := TX3) (N := 12) hx hb hts in_X3 hown hK hP 0 rfl rfl 1 (by decide) (hts _ kF_3_15) (fun _ h9 => h9) rfl d_Pl_addPiece_58 ?_
            refine lv_iload hx hb d_Pl_addPiece_61 (lv_at hl 0 rfl) ?_
            refine lv_iconst (v := 1) hx hb d_Pl_addPiece_63 (by decide) ?_
            refine lv_isub hx hb d_Pl_addPiece_64 ?_
            obtain ⟨hi10, hf⟩ := op_if hf
            refine va_iald (f := S9.2.1 1) hx hb hK hP 2 0 rfl rfl (ix_in hi10) d_Pl_addPiece_65 ?_
            obtain ⟨hi11, hf⟩ := op_if hf
            refine va_iast (f := S9.2.1 1) hx hb hK hP hD hS 2 0 rfl rfl (ix_in hi11) d_Pl_addPiece_66 (fun H locs hP hD hS => ?_)
            rw [wu_Pl_a1] at hP hD
            obtain ⟨S12, hS12, hf⟩ := op_b hf
            have hP : va_P (dC, dI) vwCl (w_Pl_ h_S ad_S tC S12) H := by rw [← Option.some.inj hS12]; exact hP
            have hD : va_D A (w_Pl_ h_S ad_S tC S12) := by rw [← Option.some.inj hS12]; exact hD
            refine lv_iinc (v := x4 + (-1)) (lv' := [(4, .int (x4 + (-1))), (0, .ref h_S), (1, .int x1), (2, .int x2), (3, .int x3)]) hx hb d_Pl_addPiece_67 hl (k := 0) rfl rfl (by decide) rfl (fun ls hl => ?_)
            refine lv_goto (tgt := 16) hx hb d_Pl_addPiece_70 (by decide) ?_
            exact ih_16 x1 x2 x3 (x4 + (-1)) S12 Rl hf _ _ hP hD hS _ (lv_sub hl [0, 1, 2, 3, 4] rfl) K
    obtain ⟨q3, hq3, hf⟩ := op_b hf
    refine lp_16 fu p1 p2 p3 v2 S q3 hq3 _ _ hP hD hS _ (lv_sub hl [0, 1, 2, 3, 4] rfl) ?_
    intro H locs hP hD hS ls hl
    refine lv_aload_n hx hb d_Pl_addPiece_73 rfl (lv_at hl 1 rfl) ?_
    refine va_get (D := (dC, dI)) (ci := 3) (v := .ref (ad_S 0)) (C := RX3) (T := TX3) (N := 12) hx hb hts in_X3 hown hK hP 0 rfl rfl 0 (by decide) (hts _ kF_3_9) (fun _ h9 => h9) rfl d_Pl_addPiece_74 ?_
    refine lv_iload hx hb d_Pl_addPiece_77 (lv_at hl 0 rfl) ?_
    refine lv_iload_n hx hb d_Pl_addPiece_79 rfl (lv_at hl 3 rfl) ?_
    obtain ⟨hi13, hf⟩ := op_if hf
    refine va_iast (f := q3.2.2.1 0) hx hb hK hP hD hS 1 0 rfl rfl (ix_in hi13) d_Pl_addPiece_80 (fun H locs hP hD hS => ?_)
    rw [wu_Pl_a0] at hP hD
    obtain ⟨S14, hS14, hf⟩ := op_b hf
    have hP : va_P (dC, dI) vwCl (w_Pl_ h_S ad_S tC S14) H := by rw [← Option.some.inj hS14]; exact hP
    have hD : va_D A (w_Pl_ h_S ad_S tC S14) := by rw [← Option.some.inj hS14]; exact hD
    refine lv_aload_n hx hb d_Pl_addPiece_81 rfl (lv_at hl 1 rfl) ?_
    refine va_get (D := (dC, dI)) (ci := 3) (v := .ref (ad_S 1)) (C := RX3) (T := TX3) (N := 12) hx hb hts in_X3 hown hK hP 0 rfl rfl 1 (by decide) (hts _ kF_3_15) (fun _ h9 => h9) rfl d_Pl_addPiece_82 ?_
    refine lv_iload hx hb d_Pl_addPiece_85 (lv_at hl 0 rfl) ?_
    refine lv_iload_n hx hb d_Pl_addPiece_87 rfl (lv_at hl 4 rfl) ?_
    obtain ⟨hi15, hf⟩ := op_if hf
    refine va_iast (f := S14.2.1 1) hx hb hK hP hD hS 2 0 rfl rfl (ix_in hi15) d_Pl_addPiece_88 (fun H locs hP hD hS => ?_)
    rw [wu_Pl_a1] at hP hD
    obtain ⟨S16, hS16, hf⟩ := op_b hf
    have hP : va_P (dC, dI) vwCl (w_Pl_ h_S ad_S tC S16) H := by rw [← Option.some.inj hS16]; exact hP
    have hD : va_D A (w_Pl_ h_S ad_S tC S16) := by rw [← Option.some.inj hS16]; exact hD
    refine lv_aload_n hx hb d_Pl_addPiece_89 rfl (lv_at hl 1 rfl) ?_
    refine lv_dup hx hb d_Pl_addPiece_90 rfl ?_
    refine va_get (D := (dC, dI)) (ci := 3) (v := .int (S16.1 0)) (C := RX3) (T := TX3) (N := 12) hx hb hts in_X3 hown hK hP 0 rfl rfl 7 (by decide) (hts _ kF_3_33) (fun _ h9 => h9) rfl d_Pl_addPiece_91 ?_
    refine lv_iconst (v := 1) hx hb d_Pl_addPiece_94 (by decide) ?_
    refine lv_iadd hx hb d_Pl_addPiece_95 ?_
    refine va_put (D := (dC, dI)) (ci := 3) (v := .int ((S16.1 0) + 1)) (ty := .int) (C := RX3) (T := TX3) (N := 12) hx hb hts in_X3 tyX3 tyX3_ok nmX3 hown hK hP hD hS 0 (fs := [.ref (ad_S 0), .ref (ad_S 1), .ref (ad_S 2), .ref (ad_S 3), .ref (ad_S 4), .ref (ad_S 5), .ref (ad_S 6), .int (S16.1 0), .int (S16.1 1), .int (S16.1 2), .int (S16.1 3), .int (S16.1 4)]) rfl rfl 7 (by decide) (hts _ kF_3_33) (fun _ h9 => h9) rfl (by decide +kernel) (rfl) (rfl) (Nat.le_of_ble_eq_true rfl) d_Pl_addPiece_96 (fun H locs hP hD hS => ?_)
    rw [wu_Pl_s0] at hP hD
    obtain ⟨S17, hS17, hf⟩ := op_b hf
    have hP : va_P (dC, dI) vwCl (w_Pl_ h_S ad_S tC S17) H := by rw [← Option.some.inj hS17]; exact hP
    have hD : va_D A (w_Pl_ h_S ad_S tC S17) := by rw [← Option.some.inj hS17]; exact hD
    obtain rfl := Option.some.inj hf
    subst hQ
    subst hAe
    exact W.vret hx hb hr (fun t ht hW => ⟨⟨_, _, rfl, ⟨rfl, rfl⟩, by rw [ht]; exact hP, hD⟩, hS.F ht⟩) hS.2.2 d_Pl_addPiece_99
  · have hf := op_e hf c1
    obtain rfl := Option.some.inj hf
    subst hQ
    subst hAe
    exact W.vret hx hb hr (fun t ht hW => ⟨⟨_, _, rfl, ⟨rfl, rfl⟩, by rw [ht]; exact hP, hD⟩, hS.F ht⟩) hS.2.2 d_Pl_addPiece_9
def f_Pl_openBar (S : MS) (p1 : Int32) (p2 : Int32) : Option (Int32 × MS) := (if (S.1 1) < 60 then if ix (S.1 1) 60 then (some (sA S 3 (upd (S.2.1 3) (S.1 1).toNatClampNeg p1))).bind fun S3 => if ix (S3.1 1) 60 then (some (sA S3 4 (upd (S3.2.1 4) (S3.1 1).toNatClampNeg p2))).bind fun S5 => if ix (S5.1 1) 60 then (some (sA S5 5 (upd (S5.2.1 5) (S5.1 1).toNatClampNeg p2))).bind fun S7 => if ix (S7.1 1) 60 then (some (sA S7 6 (upd (S7.2.1 6) (S7.1 1).toNatClampNeg 0))).bind fun S9 => (some (sI S9 1 ((S9.1 1) + 1))).bind fun S10 => some ((S10.1 1) - 1, S10) else none else none else none else none else some ((-2), S))
def rm_Pl_openBar : Room := { frames := 0, cells := 0, slots := 0, locals := 0 }
set_option maxHeartbeats 4000000 in
set_option maxRecDepth 100000 in
theorem m_Pl_openBar (l : Launch) (dC : Nat → ClassId) (dI : Nat → Nat → Nat) (tC : Nat → ClassId) (h_S : Nat) (ad_S : Nat → Nat) (S : MS) (p1 : Int32) (p2 : Int32) (R : Int32 × MS) (hf : f_Pl_openBar S p1 p2 = some R) (sz : Nat) : Met l y_Pl_openBar w_Pl_openBar rm_Pl_openBar (wrP (dC, dI) tC (w_Pl_ h_S ad_S tC S) sz [.ref h_S, .int p1, .int p2]) (wrQ (dC, dI) (w_Pl_ h_S ad_S tC S) sz (fun r w => r = (some (.int R.1)) ∧ w = (w_Pl_ h_S ad_S tC R.2))) 0 0 (va_A (w_Pl_ h_S ad_S tC S) sz) := by
  refine Met.ofW (cc := c_Pl_openBar) (maxL := 3) (ret := (some (.int))) (by decide) rfl ?_
  intro p e s m args below meth c s₁ B hml hv
  obtain ⟨hav, hsz, hP, hK, hD0⟩ := hv
  have hx := B.exec
  have hb := B.bytes
  have hr := B.returns
  have hts : ∀ w ∈ gw, w.before args s = true := fun w h => atoms_spec (ws := w_Pl_openBar) B.pre w (List.mem_cons_of_mem _ h)
  have hown : s.vm.findClass RX3 = some m.cls := findClass_of_methodNamed B.named
  have hlocks := B.notSynchronized
  subst hsz
  have hD := hD0.self (sz := s.heap.size)
  obtain ⟨A, hAe⟩ : ∃ z, z = va_A (w_Pl_ h_S ad_S tC S) s.heap.size := ⟨_, rfl⟩
  rw [← hAe] at hD
  have hA : ∀ q : Nat, s.heap.size ≤ q → A q := fun q h => by rw [hAe]; exact Or.inr h
  have hS : va_S A s.heap s.heap [] := va_S.rf
  refine q_w (R := rm_Pl_openBar) (fun Q hQ => ?_)
  refine en_w (av := [.ref h_S, .int p1, .int p2]) hav (Nat.le_of_ble_eq_true rfl) (fun ls hl => ?_)
  have hl : lv_has ls 3 [(0, .ref h_S), (1, .int p1), (2, .int p2)] := hl
  unfold f_Pl_openBar at hf
  refine lv_aload_n hx hb d_Pl_openBar_0 rfl (lv_at hl 0 rfl) ?_
  refine va_get (D := (dC, dI)) (ci := 3) (v := .int (S.1 1)) (C := RX3) (T := TX3) (N := 12) hx hb hts in_X3 hown hK hP 0 rfl rfl 8 (by decide) (hts _ kF_3_37) (fun _ h9 => h9) rfl d_Pl_openBar_1 ?_
  refine lv_bipush (v := 60) hx hb d_Pl_openBar_4 (by decide) ?_
  refine lv_icmp_lt (tgt := 12) hx hb d_Pl_openBar_6 (by decide) (fun c1 => ?_) (fun c1 => ?_)
  · have hf := op_t hf c1
    refine lv_aload_n hx hb d_Pl_openBar_12 rfl (lv_at hl 0 rfl) ?_
    refine va_get (D := (dC, dI)) (ci := 3) (v := .ref (ad_S 3)) (C := RX3) (T := TX3) (N := 12) hx hb hts in_X3 hown hK hP 0 rfl rfl 3 (by decide) (hts _ kF_3_21) (fun _ h9 => h9) rfl d_Pl_openBar_13 ?_
    refine lv_aload_n hx hb d_Pl_openBar_16 rfl (lv_at hl 0 rfl) ?_
    refine va_get (D := (dC, dI)) (ci := 3) (v := .int (S.1 1)) (C := RX3) (T := TX3) (N := 12) hx hb hts in_X3 hown hK hP 0 rfl rfl 8 (by decide) (hts _ kF_3_37) (fun _ h9 => h9) rfl d_Pl_openBar_17 ?_
    refine lv_iload_n hx hb d_Pl_openBar_20 rfl (lv_at hl 1 rfl) ?_
    obtain ⟨hi2, hf⟩ := op_if hf
    refine va_iast (f := S.2.1 3) hx hb hK hP hD hS 4 0 rfl rfl (ix_in hi2) d_Pl_openBar_21 (fun H locs hP hD hS => ?_)
    rw [wu_Pl_a3] at hP hD
    obtain ⟨S3, hS3, hf⟩ := op_b hf
    have hP : va_P (dC, dI) vwCl (w_Pl_ h_S ad_S tC S3) H := by rw [← Option.some.inj hS3]; exact hP
    have hD : va_D A (w_Pl_ h_S ad_S tC S3) := by rw [← Option.some.inj hS3]; exact hD
    refine lv_aload_n hx hb d_Pl_openBar_22 rfl (lv_at hl 0 rfl) ?_
    refine va_get (D := (dC, dI)) (ci := 3) (v := .ref (ad_S 4)) (C := RX3) (T := TX3) (N := 12) hx hb hts in_X3 hown hK hP 0 rfl rfl 4 (by decide) (hts _ kF_3_24) (fun _ h9 => h9) rfl d_Pl_openBar_23 ?_
    refine lv_aload_n hx hb d_Pl_openBar_26 rfl (lv_at hl 0 rfl) ?_
    refine va_get (D := (dC, dI)) (ci := 3) (v := .int (S3.1 1)) (C := RX3) (T := TX3) (N := 12) hx hb hts in_X3 hown hK hP 0 rfl rfl 8 (by decide) (hts _ kF_3_37) (fun _ h9 => h9) rfl d_Pl_openBar_27 ?_
    refine lv_iload_n hx hb d_Pl_openBar_30 rfl (lv_at hl 2 rfl) ?_
    obtain ⟨hi4, hf⟩ := op_if hf
    refine va_iast (f := S3.2.1 4) hx hb hK hP hD hS 5 0 rfl rfl (ix_in hi4) d_Pl_openBar_31 (fun H locs hP hD hS => ?_)
    rw [wu_Pl_a4] at hP hD
    obtain ⟨S5, hS5, hf⟩ := op_b hf
    have hP : va_P (dC, dI) vwCl (w_Pl_ h_S ad_S tC S5) H := by rw [← Option.some.inj hS5]; exact hP
    have hD : va_D A (w_Pl_ h_S ad_S tC S5) := by rw [← Option.some.inj hS5]; exact hD
    refine lv_aload_n hx hb d_Pl_openBar_32 rfl (lv_at hl 0 rfl) ?_
    refine va_get (D := (dC, dI)) (ci := 3) (v := .ref (ad_S 5)) (C := RX3) (T := TX3) (N := 12) hx hb hts in_X3 hown hK hP 0 rfl rfl 5 (by decide) (hts _ kF_3_27) (fun _ h9 => h9) rfl d_Pl_openBar_33 ?_
    refine lv_aload_n hx hb d_Pl_openBar_36 rfl (lv_at hl 0 rfl) ?_
    refine va_get (D := (dC, dI)) (ci := 3) (v := .int (S5.1 1)) (C := RX3) (T := TX3) (N := 12) hx hb hts in_X3 hown hK hP 0 rfl rfl 8 (by decide) (hts _ kF_3_37) (fun _ h9 => h9) rfl d_Pl_openBar_37 ?_
    refine lv_iload_n hx hb d_Pl_openBar_40 rfl (lv_at hl 2 rfl) ?_
    obtain ⟨hi6, hf⟩ := op_if hf
    refine va_iast (f := S5.2.1 5) hx hb hK hP hD hS 6 0 rfl rfl (ix_in hi6) d_Pl_openBar_41 (fun H locs hP hD hS => ?_)
    rw [wu_Pl_a5] at hP hD
    obtain ⟨S7, hS7, hf⟩ := op_b hf
    have hP : va_P (dC, dI) vwCl (w_Pl_ h_S ad_S tC S7) H := by rw [← Option.some.inj hS7]; exact hP
    have hD : va_D A (w_Pl_ h_S ad_S tC S7) := by rw [← Option.some.inj hS7]; exact hD
    refine lv_aload_n hx hb d_Pl_openBar_42 rfl (lv_at hl 0 rfl) ?_
    refine va_get (D := (dC, dI)) (ci := 3) (v := .ref (ad_S 6)) (C := RX3) (T := TX3) (N := 12) hx hb hts in_X3 hown hK hP 0 rfl rfl 6 (by decide) (hts _ kF_3_30) (fun _ h9 => h9) rfl d_Pl_openBar_43 ?_
    refine lv_aload_n hx hb d_Pl_openBar_46 rfl (lv_at hl 0 rfl) ?_
    refine va_get (D := (dC, dI)) (ci := 3) (v := .int (S7.1 1)) (C := RX3) (T := TX3) (N := 12) hx hb hts in_X3 hown hK hP 0 rfl rfl 8 (by decide) (hts _ kF_3_37) (fun _ h9 => h9) rfl d_Pl_openBar_47 ?_
    refine lv_iconst (v := 0) hx hb d_Pl_openBar_50 (by decide) ?_
    obtain ⟨hi8, hf⟩ := op_if hf
    refine va_iast (f := S7.2.1 6) hx hb hK hP hD hS 7 0 rfl rfl (ix_in hi8) d_Pl_openBar_51 (fun H locs hP hD hS => ?_)
    rw [wu_Pl_a6] at hP hD
    obtain ⟨S9, hS9, hf⟩ := op_b hf
    have hP : va_P (dC, dI) vwCl (w_Pl_ h_S ad_S tC S9) H := by rw [← Option.some.inj hS9]; exact hP
    have hD : va_D A (w_Pl_ h_S ad_S tC S9) := by rw [← Option.some.inj hS9]; exact hD
    refine lv_aload_n hx hb d_Pl_openBar_52 rfl (lv_at hl 0 rfl) ?_
    refine lv_dup hx hb d_Pl_openBar_53 rfl ?_
    refine va_get (D := (dC, dI)) (ci := 3) (v := .int (S9.1 1)) (C := RX3) (T := TX3) (N := 12) hx hb hts in_X3 hown hK hP 0 rfl rfl 8 (by decide) (hts _ kF_3_37) (fun _ h9 => h9) rfl d_Pl_openBar_54 ?_
    refine lv_iconst (v := 1) hx hb d_Pl_openBar_57 (by decide) ?_
    refine lv_iadd hx hb d_Pl_openBar_58 ?_
    refine va_put (D := (dC, dI)) (ci := 3) (v := .int ((S9.1 1) + 1)) (ty := .int) (C := RX3) (T := TX3) (N := 12) hx hb hts in_X3 tyX3 tyX3_ok nmX3 hown hK hP hD hS 0 (fs := [.ref (ad_S 0), .ref (ad_S 1), .ref (ad_S 2), .ref (ad_S 3), .ref (ad_S 4), .ref (ad_S 5), .ref (ad_S 6), .int (S9.1 0), .int (S9.1 1), .int (S9.1 2), .int (S9.1 3), .int (S9.1 4)]) rfl rfl 8 (by decide) (hts _ kF_3_37) (fun _ h9 => h9) rfl (by decide +kernel) (rfl) (rfl) (Nat.le_of_ble_eq_true rfl) d_Pl_openBar_59 (fun H locs hP hD hS => ?_)
    rw [wu_Pl_s1] at hP hD
    obtain ⟨S10, hS10, hf⟩ := op_b hf
    have hP : va_P (dC, dI) vwCl (w_Pl_ h_S ad_S tC S10) H := by rw [← Option.some.inj hS10]; exact hP
    have hD : va_D A (w_Pl_ h_S ad_S tC S10) := by rw [← Option.some.inj hS10]; exact hD
    refine lv_aload_n hx hb d_Pl_openBar_62 rfl (lv_at hl 0 rfl) ?_
    refine va_get (D := (dC, dI)) (ci := 3) (v := .int (S10.1 1)) (C := RX3) (T := TX3) (N := 12) hx hb hts in_X3 hown hK hP 0 rfl rfl 8 (by decide) (hts _ kF_3_37) (fun _ h9 => h9) rfl d_Pl_openBar_63 ?_
    refine lv_iconst (v := 1) hx hb d_Pl_openBar_66 (by decide) ?_
    refine lv_isub hx hb d_Pl_openBar_67 ?_
    obtain rfl := Option.some.inj hf
    subst hQ
    subst hAe
    exact W.iret (v := (S10.1 1) - 1) hx hb hr (fun t ht hW => ⟨⟨_, _, rfl, ⟨rfl, rfl⟩, by rw [ht]; exact hP, hD⟩, hS.F ht⟩) hS.2.2 d_Pl_openBar_68
  · have hf := op_e hf c1
    refine lv_bipush (v := (-2)) hx hb d_Pl_openBar_9 (by decide) ?_
    obtain rfl := Option.some.inj hf
    subst hQ
    subst hAe
    exact W.iret (v := (-2)) hx hb hr (fun t ht hW => ⟨⟨_, _, rfl, ⟨rfl, rfl⟩, by rw [ht]; exact hP, hD⟩, hS.F ht⟩) hS.2.2 d_Pl_openBar_11
def f_Pl_putPiece (S : MS) (p1 : Int32) (p2 : Int32) : Option (Unit × MS) := if ix p1 60 then (some (sA S 2 (upd (S.2.1 2) p1.toNatClampNeg p2))).bind fun S2 => if ix p2 60 then if ix p1 60 then if ix p2 60 then (some (sA S2 5 (upd (S2.2.1 5) p2.toNatClampNeg (((S2.2.1 5) p2.toNatClampNeg) - ((S2.2.1 1) p1.toNatClampNeg))))).bind fun S6 => if ix p2 60 then if ix p2 60 then (some (sA S6 6 (upd (S6.2.1 6) p2.toNatClampNeg (((S6.2.1 6) p2.toNatClampNeg) + 1)))).bind fun S9 => some ((), S9) else none else none else none else none else none else none
def rm_Pl_putPiece : Room := { frames := 0, cells := 0, slots := 0, locals := 0 }
set_option maxHeartbeats 4000000 in
set_option maxRecDepth 100000 in
theorem m_Pl_putPiece (l : Launch) (dC : Nat → ClassId) (dI : Nat → Nat → Nat) (tC : Nat → ClassId) (h_S : Nat) (ad_S : Nat → Nat) (S : MS) (p1 : Int32) (p2 : Int32) (R : Unit × MS) (hf : f_Pl_putPiece S p1 p2 = some R) (sz : Nat) : Met l y_Pl_putPiece w_Pl_putPiece rm_Pl_putPiece (wrP (dC, dI) tC (w_Pl_ h_S ad_S tC S) sz [.ref h_S, .int p1, .int p2]) (wrQ (dC, dI) (w_Pl_ h_S ad_S tC S) sz (fun r w => r = none ∧ w = (w_Pl_ h_S ad_S tC R.2))) 0 0 (va_A (w_Pl_ h_S ad_S tC S) sz) := by
  refine Met.ofW (cc := c_Pl_putPiece) (maxL := 3) (ret := none) (by decide) rfl ?_
  intro p e s m args below meth c s₁ B hml hv
  obtain ⟨hav, hsz, hP, hK, hD0⟩ := hv
  have hx := B.exec
  have hb := B.bytes
  have hr := B.returns
  have hts : ∀ w ∈ gw, w.before args s = true := fun w h => atoms_spec (ws := w_Pl_putPiece) B.pre w (List.mem_cons_of_mem _ h)
  have hown : s.vm.findClass RX3 = some m.cls := findClass_of_methodNamed B.named
  have hlocks := B.notSynchronized
  subst hsz
  have hD := hD0.self (sz := s.heap.size)
  obtain ⟨A, hAe⟩ : ∃ z, z = va_A (w_Pl_ h_S ad_S tC S) s.heap.size := ⟨_, rfl⟩
  rw [← hAe] at hD
  have hA : ∀ q : Nat, s.heap.size ≤ q → A q := fun q h => by rw [hAe]; exact Or.inr h
  have hS : va_S A s.heap s.heap [] := va_S.rf
  refine q_w (R := rm_Pl_putPiece) (fun Q hQ => ?_)
  refine en_w (av := [.ref h_S, .int p1, .int p2]) hav (Nat.le_of_ble_eq_true rfl) (fun ls hl => ?_)
  have hl : lv_has ls 3 [(0, .ref h_S), (1, .int p1), (2, .int p2)] := hl
  unfold f_Pl_putPiece at hf
  refine lv_aload_n hx hb d_Pl_putPiece_0 rfl (lv_at hl 0 rfl) ?_
  refine va_get (D := (dC, dI)) (ci := 3) (v := .ref (ad_S 2)) (C := RX3) (T := TX3) (N := 12) hx hb hts in_X3 hown hK hP 0 rfl rfl 2 (by decide) (hts _ kF_3_18) (fun _ h9 => h9) rfl d_Pl_putPiece_1 ?_
  refine lv_iload_n hx hb d_Pl_putPiece_4 rfl (lv_at hl 1 rfl) ?_
  refine lv_iload_n hx hb d_Pl_putPiece_5 rfl (lv_at hl 2 rfl) ?_
  obtain ⟨hi1, hf⟩ := op_if hf
  refine va_iast (f := S.2.1 2) hx hb hK hP hD hS 3 0 rfl rfl (ix_in hi1) d_Pl_putPiece_6 (fun H locs hP hD hS => ?_)
  rw [wu_Pl_a2] at hP hD
  obtain ⟨S2, hS2, hf⟩ := op_b hf
  have hP : va_P (dC, dI) vwCl (w_Pl_ h_S ad_S tC S2) H := by rw [← Option.some.inj hS2]; exact hP
  have hD : va_D A (w_Pl_ h_S ad_S tC S2) := by rw [← Option.some.inj hS2]; exact hD
  refine lv_aload_n hx hb d_Pl_putPiece_7 rfl (lv_at hl 0 rfl) ?_
  refine va_get (D := (dC, dI)) (ci := 3) (v := .ref (ad_S 5)) (C := RX3) (T := TX3) (N := 12) hx hb hts in_X3 hown hK hP 0 rfl rfl 5 (by decide) (hts _ kF_3_27) (fun _ h9 => h9) rfl d_Pl_putPiece_8 ?_
  refine lv_iload_n hx hb d_Pl_putPiece_11 rfl (lv_at hl 2 rfl) ?_
  refine lv_dup2_11 hx hb d_Pl_putPiece_12 rfl rfl ?_
  obtain ⟨hi3, hf⟩ := op_if hf
  refine va_iald (f := S2.2.1 5) hx hb hK hP 6 0 rfl rfl (ix_in hi3) d_Pl_putPiece_13 ?_
  refine lv_aload_n hx hb d_Pl_putPiece_14 rfl (lv_at hl 0 rfl) ?_
  refine va_get (D := (dC, dI)) (ci := 3) (v := .ref (ad_S 1)) (C := RX3) (T := TX3) (N := 12) hx hb hts in_X3 hown hK hP 0 rfl rfl 1 (by decide) (hts _ kF_3_15) (fun _ h9 => h9) rfl d_Pl_putPiece_15 ?_
  refine lv_iload_n hx hb d_Pl_putPiece_18 rfl (lv_at hl 1 rfl) ?_
  obtain ⟨hi4, hf⟩ := op_if hf
  refine va_iald (f := S2.2.1 1) hx hb hK hP 2 0 rfl rfl (ix_in hi4) d_Pl_putPiece_19 ?_
  refine lv_isub hx hb d_Pl_putPiece_20 ?_
  obtain ⟨hi5, hf⟩ := op_if hf
  refine va_iast (f := S2.2.1 5) hx hb hK hP hD hS 6 0 rfl rfl (ix_in hi5) d_Pl_putPiece_21 (fun H locs hP hD hS => ?_)
  rw [wu_Pl_a5] at hP hD
  obtain ⟨S6, hS6, hf⟩ := op_b hf
  have hP : va_P (dC, dI) vwCl (w_Pl_ h_S ad_S tC S6) H := by rw [← Option.some.inj hS6]; exact hP
  have hD : va_D A (w_Pl_ h_S ad_S tC S6) := by rw [← Option.some.inj hS6]; exact hD
  refine lv_aload_n hx hb d_Pl_putPiece_22 rfl (lv_at hl 0 rfl) ?_
  refine va_get (D := (dC, dI)) (ci := 3) (v := .ref (ad_S 6)) (C := RX3) (T := TX3) (N := 12) hx hb hts in_X3 hown hK hP 0 rfl rfl 6 (by decide) (hts _ kF_3_30) (fun _ h9 => h9) rfl d_Pl_putPiece_23 ?_
  refine lv_iload_n hx hb d_Pl_putPiece_26 rfl (lv_at hl 2 rfl) ?_
  refine lv_dup2_11 hx hb d_Pl_putPiece_27 rfl rfl ?_
  obtain ⟨hi7, hf⟩ := op_if hf
  refine va_iald (f := S6.2.1 6) hx hb hK hP 7 0 rfl rfl (ix_in hi7) d_Pl_putPiece_28 ?_
  refine lv_iconst (v := 1) hx hb d_Pl_putPiece_29 (by decide) ?_
  refine lv_iadd hx hb d_Pl_putPiece_30 ?_
  obtain ⟨hi8, hf⟩ := op_if hf
  refine va_iast (f := S6.2.1 6) hx hb hK hP hD hS 7 0 rfl rfl (ix_in hi8) d_Pl_putPiece_31 (fun H locs hP hD hS => ?_)
  rw [wu_Pl_a6] at hP hD
  obtain ⟨S9, hS9, hf⟩ := op_b hf
  have hP : va_P (dC, dI) vwCl (w_Pl_ h_S ad_S tC S9) H := by rw [← Option.some.inj hS9]; exact hP
  have hD : va_D A (w_Pl_ h_S ad_S tC S9) := by rw [← Option.some.inj hS9]; exact hD
  obtain rfl := Option.some.inj hf
  subst hQ
  subst hAe
  exact W.vret hx hb hr (fun t ht hW => ⟨⟨_, _, rfl, ⟨rfl, rfl⟩, by rw [ht]; exact hP, hD⟩, hS.F ht⟩) hS.2.2 d_Pl_putPiece_32
def l_Pl_lineOfPiece_5 : Nat → Int32 → Int32 → Int32 → Int32 → MS → Option (Int32)
  | 0, _, _, _, _, _ => none
  | n + 1, x1, x2, x3, x4, S => (if (S.1 0) ≤ x4 then some (-1) else if ix x4 60 then (if ((S.2.1 2) x4.toNatClampNeg) = x1 then (if x3 = x2 then if ix x4 60 then some ((S.2.1 0) x4.toNatClampNeg) else none else l_Pl_lineOfPiece_5 n x1 x2 (x3 + 1) (x4 + 1) S) else l_Pl_lineOfPiece_5 n x1 x2 x3 (x4 + 1) S) else none)
def f_Pl_lineOfPiece (S : MS) (p1 : Int32) (p2 : Int32) : Option (Int32) := l_Pl_lineOfPiece_5 fu p1 p2 0 0 S
def rm_Pl_lineOfPiece : Room := { frames := 0, cells := 0, slots := 0, locals := 0 }
set_option maxHeartbeats 4000000 in
set_option maxRecDepth 100000 in
theorem m_Pl_lineOfPiece (l : Launch) (dC : Nat → ClassId) (dI : Nat → Nat → Nat) (tC : Nat → ClassId) (h_S : Nat) (ad_S : Nat → Nat) (S : MS) (p1 : Int32) (p2 : Int32) (R : Int32) (H : Heap) (hP : va_P (dC, dI) vwCl (w_Pl_ h_S ad_S tC S) H) (hf : f_Pl_lineOfPiece S p1 p2 = some R) : Met l y_Pl_lineOfPiece w_Pl_lineOfPiece rm_Pl_lineOfPiece (roP (dC, dI) tC H [.ref h_S, .int p1, .int p2]) (roQ H (some (.int R))) 0 0 (fun _ => False) := by
  refine Met.ofW (cc := c_Pl_lineOfPiece) (maxL := 5) (ret := (some (.int))) (by decide) rfl ?_
  intro p e s m args below meth c s₁ B hml hv
  obtain ⟨hav, hH, hK⟩ := hv
  have hx := B.exec
  have hb := B.bytes
  have hr := B.returns
  have hts : ∀ w ∈ gw, w.before args s = true := fun w h => atoms_spec (ws := w_Pl_lineOfPiece) B.pre w (List.mem_cons_of_mem _ h)
  have hown : s.vm.findClass RX3 = some m.cls := findClass_of_methodNamed B.named
  have hlocks := B.notSynchronized
  subst hH
  refine q_w (R := rm_Pl_lineOfPiece) (fun Q hQ => ?_)
  refine en_w (av := [.ref h_S, .int p1, .int p2]) hav (Nat.le_of_ble_eq_true rfl) (fun ls hl => ?_)
  have hl : lv_has ls 5 [(0, .ref h_S), (1, .int p1), (2, .int p2)] := hl
  unfold f_Pl_lineOfPiece at hf
  refine lv_iconst (v := 0) hx hb d_Pl_lineOfPiece_0 (by decide) ?_
  refine lv_istore_n (lv' := [(3, .int 0), (0, .ref h_S), (1, .int p1), (2, .int p2)]) hx hb d_Pl_lineOfPiece_1 rfl hl (by decide) rfl (fun ls hl => ?_)
  refine lv_iconst (v := 0) hx hb d_Pl_lineOfPiece_2 (by decide) ?_
  refine lv_istore (lv' := [(4, .int 0), (3, .int 0), (0, .ref h_S), (1, .int p1), (2, .int p2)]) hx hb d_Pl_lineOfPiece_3 hl (by decide) rfl (fun ls hl => ?_)
  have lp_5 : ∀ (n : Nat) (x1 : Int32) (x2 : Int32) (x3 : Int32) (x4 : Int32), l_Pl_lineOfPiece_5 n x1 x2 x3 x4 S = some R → ∀ ls : Array Slot, lv_has ls 5 [(4, .int x4), (3, .int x3), (0, .ref h_S), (1, .int x1), (2, .int x2)] → W p l e rm_Pl_lineOfPiece s m args below meth c s.heap [] 0 0 Q (F0 m 5 ls []) := by
    intro n
    induction n with
    | zero => intro x1 x2 x3 x4 hf; cases hf
    | succ n ih_5 =>
      intro x1 x2 x3 x4 hf ls hl
      rw [l_Pl_lineOfPiece_5] at hf
      refine lv_iload hx hb d_Pl_lineOfPiece_5 (lv_at hl 0 rfl) ?_
      refine lv_aload_n hx hb d_Pl_lineOfPiece_7 rfl (lv_at hl 2 rfl) ?_
      refine va_get (D := (dC, dI)) (ci := 3) (v := .int (S.1 0)) (C := RX3) (T := TX3) (N := 12) hx hb hts in_X3 hown hK hP 0 rfl rfl 7 (by decide) (hts _ kF_3_33) (fun _ h9 => h9) rfl d_Pl_lineOfPiece_8 ?_
      refine lv_icmp_ge (tgt := 47) hx hb d_Pl_lineOfPiece_11 (by decide) (fun c1 => ?_) (fun c1 => ?_)
      · have hf := op_t hf c1
        refine lv_iconst (v := (-1)) hx hb d_Pl_lineOfPiece_47 (by decide) ?_
        obtain rfl := Option.some.inj hf
        subst hQ
        exact W.iret (v := (-1)) hx hb hr (fun t ht hW => ⟨rfl, ht⟩) (fun q h => by cases h) d_Pl_lineOfPiece_48
      · have hf := op_e hf c1
        refine lv_aload_n hx hb d_Pl_lineOfPiece_14 rfl (lv_at hl 2 rfl) ?_
        refine va_get (D := (dC, dI)) (ci := 3) (v := .ref (ad_S 2)) (C := RX3) (T := TX3) (N := 12) hx hb hts in_X3 hown hK hP 0 rfl rfl 2 (by decide) (hts _ kF_3_18) (fun _ h9 => h9) rfl d_Pl_lineOfPiece_15 ?_
        refine lv_iload hx hb d_Pl_lineOfPiece_18 (lv_at hl 0 rfl) ?_
        obtain ⟨hi2, hf⟩ := op_if hf
        refine va_iald (f := S.2.1 2) hx hb hK hP 3 0 rfl rfl (ix_in hi2) d_Pl_lineOfPiece_20 ?_
        refine lv_iload_n hx hb d_Pl_lineOfPiece_21 rfl (lv_at hl 3 rfl) ?_
        refine lv_icmp_ne (tgt := 41) hx hb d_Pl_lineOfPiece_22 (by decide) (fun c3 => ?_) (fun c3 => ?_)
        · have hf := op_e hf c3
          refine lv_iinc (v := x4 + 1) (lv' := [(4, .int (x4 + 1)), (3, .int x3), (0, .ref h_S), (1, .int x1), (2, .int x2)]) hx hb d_Pl_lineOfPiece_41 hl (k := 0) rfl rfl (by decide) rfl (fun ls hl => ?_)
          refine lv_goto (tgt := 5) hx hb d_Pl_lineOfPiece_44 (by decide) ?_
          exact ih_5 x1 x2 x3 (x4 + 1) hf _ (lv_sub hl [0, 1, 2, 3, 4] rfl)
        · have hf := op_t hf c3
          refine lv_iload_n hx hb d_Pl_lineOfPiece_25 rfl (lv_at hl 1 rfl) ?_
          refine lv_iload_n hx hb d_Pl_lineOfPiece_26 rfl (lv_at hl 4 rfl) ?_
          refine lv_icmp_ne (tgt := 38) hx hb d_Pl_lineOfPiece_27 (by decide) (fun c4 => ?_) (fun c4 => ?_)
          · have hf := op_e hf c4
            refine lv_iinc (v := x3 + 1) (lv' := [(3, .int (x3 + 1)), (4, .int x4), (0, .ref h_S), (1, .int x1), (2, .int x2)]) hx hb d_Pl_lineOfPiece_38 hl (k := 1) rfl rfl (by decide) rfl (fun ls hl => ?_)
            refine lv_iinc (v := x4 + 1) (lv' := [(4, .int (x4 + 1)), (3, .int (x3 + 1)), (0, .ref h_S), (1, .int x1), (2, .int x2)]) hx hb d_Pl_lineOfPiece_41 hl (k := 1) rfl rfl (by decide) rfl (fun ls hl => ?_)
            refine lv_goto (tgt := 5) hx hb d_Pl_lineOfPiece_44 (by decide) ?_
            exact ih_5 x1 x2 (x3 + 1) (x4 + 1) hf _ (lv_sub hl [0, 1, 2, 3, 4] rfl)
          · have hf := op_t hf c4
            refine lv_aload_n hx hb d_Pl_lineOfPiece_30 rfl (lv_at hl 2 rfl) ?_
            refine va_get (D := (dC, dI)) (ci := 3) (v := .ref (ad_S 0)) (C := RX3) (T := TX3) (N := 12) hx hb hts in_X3 hown hK hP 0 rfl rfl 0 (by decide) (hts _ kF_3_9) (fun _ h9 => h9) rfl d_Pl_lineOfPiece_31 ?_
            refine lv_iload hx hb d_Pl_lineOfPiece_34 (lv_at hl 0 rfl) ?_
            obtain ⟨hi5, hf⟩ := op_if hf
            refine va_iald (f := S.2.1 0) hx hb hK hP 1 0 rfl rfl (ix_in hi5) d_Pl_lineOfPiece_36 ?_
            obtain rfl := Option.some.inj hf
            subst hQ
            exact W.iret (v := (S.2.1 0) x4.toNatClampNeg) hx hb hr (fun t ht hW => ⟨rfl, ht⟩) (fun q h => by cases h) d_Pl_lineOfPiece_37
  exact lp_5 fu p1 p2 0 0 hf _ (lv_sub hl [0, 1, 2, 3, 4] rfl)
def l_Pl_sumOfBars_4 : Nat → Int32 → Int32 → MS → Option (Int32 × Int32)
  | 0, _, _, _ => none
  | n + 1, x1, x2, S => (if (S.1 1) ≤ x2 then some (x1, x2) else if ix x2 60 then (some (x1 + ((S.2.1 4) x2.toNatClampNeg)) : Option Int32).bind fun v4 => l_Pl_sumOfBars_4 n v4 (x2 + 1) S else none)
def f_Pl_sumOfBars (S : MS) : Option (Int32) := (l_Pl_sumOfBars_4 fu 0 0 S).bind fun q1 => some q1.1
def rm_Pl_sumOfBars : Room := { frames := 0, cells := 0, slots := 0, locals := 0 }
set_option maxHeartbeats 4000000 in
set_option maxRecDepth 100000 in
theorem m_Pl_sumOfBars (l : Launch) (dC : Nat → ClassId) (dI : Nat → Nat → Nat) (tC : Nat → ClassId) (h_S : Nat) (ad_S : Nat → Nat) (S : MS) (R : Int32) (H : Heap) (hP : va_P (dC, dI) vwCl (w_Pl_ h_S ad_S tC S) H) (hf : f_Pl_sumOfBars S = some R) : Met l y_Pl_sumOfBars w_Pl_sumOfBars rm_Pl_sumOfBars (roP (dC, dI) tC H [.ref h_S]) (roQ H (some (.int R))) 0 0 (fun _ => False) := by
  refine Met.ofW (cc := c_Pl_sumOfBars) (maxL := 3) (ret := (some (.int))) (by decide) rfl ?_
  intro p e s m args below meth c s₁ B hml hv
  obtain ⟨hav, hH, hK⟩ := hv
  have hx := B.exec
  have hb := B.bytes
  have hr := B.returns
  have hts : ∀ w ∈ gw, w.before args s = true := fun w h => atoms_spec (ws := w_Pl_sumOfBars) B.pre w (List.mem_cons_of_mem _ h)
  have hown : s.vm.findClass RX3 = some m.cls := findClass_of_methodNamed B.named
  have hlocks := B.notSynchronized
  subst hH
  refine q_w (R := rm_Pl_sumOfBars) (fun Q hQ => ?_)
  refine en_w (av := [.ref h_S]) hav (Nat.le_of_ble_eq_true rfl) (fun ls hl => ?_)
  have hl : lv_has ls 3 [(0, .ref h_S)] := hl
  unfold f_Pl_sumOfBars at hf
  refine lv_iconst (v := 0) hx hb d_Pl_sumOfBars_0 (by decide) ?_
  refine lv_istore_n (lv' := [(1, .int 0), (0, .ref h_S)]) hx hb d_Pl_sumOfBars_1 rfl hl (by decide) rfl (fun ls hl => ?_)
  refine lv_iconst (v := 0) hx hb d_Pl_sumOfBars_2 (by decide) ?_
  refine lv_istore_n (lv' := [(2, .int 0), (1, .int 0), (0, .ref h_S)]) hx hb d_Pl_sumOfBars_3 rfl hl (by decide) rfl (fun ls hl => ?_)
  have lp_4 : ∀ (n : Nat) (x1 : Int32) (x2 : Int32) (Rl : Int32 × Int32), l_Pl_sumOfBars_4 n x1 x2 S = some Rl → ∀ ls : Array Slot, lv_has ls 3 [(2, .int x2), (1, .int x1), (0, .ref h_S)] → (∀ ls : Array Slot, lv_has ls 3 [(2, .int Rl.2), (1, .int Rl.1), (0, .ref h_S)] → W p l e rm_Pl_sumOfBars s m args below meth c s.heap [] 0 0 Q (F0 m 27 ls [])) → W p l e rm_Pl_sumOfBars s m args below meth c s.heap [] 0 0 Q (F0 m 4 ls []) := by
    intro n
    induction n with
    | zero => intro x1 x2 Rl hf; cases hf
    | succ n ih_4 =>
      intro x1 x2 Rl hf ls hl K
      rw [l_Pl_sumOfBars_4] at hf
      refine lv_iload_n hx hb d_Pl_sumOfBars_4 rfl (lv_at hl 0 rfl) ?_
      refine lv_aload_n hx hb d_Pl_sumOfBars_5 rfl (lv_at hl 2 rfl) ?_
      refine va_get (D := (dC, dI)) (ci := 3) (v := .int (S.1 1)) (C := RX3) (T := TX3) (N := 12) hx hb hts in_X3 hown hK hP 0 rfl rfl 8 (by decide) (hts _ kF_3_37) (fun _ h9 => h9) rfl d_Pl_sumOfBars_6 ?_
      refine lv_icmp_ge (tgt := 27) hx hb d_Pl_sumOfBars_9 (by decide) (fun c2 => ?_) (fun c2 => ?_)
      · have hf := op_t hf c2
        obtain rfl := Option.some.inj hf
        exact K _ (lv_sub hl [0, 1, 2] rfl)
      · have hf := op_e hf c2
        refine lv_iload_n hx hb d_Pl_sumOfBars_12 rfl (lv_at hl 1 rfl) ?_
        refine lv_aload_n hx hb d_Pl_sumOfBars_13 rfl (lv_at hl 2 rfl) ?_
        refine va_get (D := (dC, dI)) (ci := 3) (v := .ref (ad_S 4)) (C := RX3) (T := TX3) (N := 12) hx hb hts in_X3 hown hK hP 0 rfl rfl 4 (by decide) (hts _ kF_3_24) (fun _ h9 => h9) rfl d_Pl_sumOfBars_14 ?_
        refine lv_iload_n hx hb d_Pl_sumOfBars_17 rfl (lv_at hl 0 rfl) ?_
        obtain ⟨hi3, hf⟩ := op_if hf
        refine va_iald (f := S.2.1 4) hx hb hK hP 5 0 rfl rfl (ix_in hi3) d_Pl_sumOfBars_18 ?_
        refine lv_iadd hx hb d_Pl_sumOfBars_19 ?_
        obtain ⟨v4, hv4, hf⟩ := op_b hf
        refine rw_i (y := v4) (Option.some.inj hv4) ?_
        refine lv_istore_n (lv' := [(1, .int v4), (2, .int x2), (0, .ref h_S)]) hx hb d_Pl_sumOfBars_20 rfl hl (by decide) rfl (fun ls hl => ?_)
        refine lv_iinc (v := x2 + 1) (lv' := [(2, .int (x2 + 1)), (1, .int v4), (0, .ref h_S)]) hx hb d_Pl_sumOfBars_21 hl (k := 1) rfl rfl (by decide) rfl (fun ls hl => ?_)
        refine lv_goto (tgt := 4) hx hb d_Pl_sumOfBars_24 (by decide) ?_
        exact ih_4 v4 (x2 + 1) Rl hf _ (lv_sub hl [0, 1, 2] rfl) K
  obtain ⟨q1, hq1, hf⟩ := op_b hf
  refine lp_4 fu 0 0 q1 hq1 _ (lv_sub hl [0, 1, 2] rfl) ?_
  intro ls hl
  refine lv_iload_n hx hb d_Pl_sumOfBars_27 rfl (lv_at hl 1 rfl) ?_
  obtain rfl := Option.some.inj hf
  subst hQ
  exact W.iret (v := q1.1) hx hb hr (fun t ht hW => ⟨rfl, ht⟩) (fun q h => by cases h) d_Pl_sumOfBars_28
def l_Pl_sumOfPieces_4 : Nat → Int32 → Int32 → MS → Option (Int32 × Int32)
  | 0, _, _, _ => none
  | n + 1, x1, x2, S => (if (S.1 0) ≤ x2 then some (x1, x2) else if ix x2 60 then (some (x1 + ((S.2.1 1) x2.toNatClampNeg)) : Option Int32).bind fun v4 => l_Pl_sumOfPieces_4 n v4 (x2 + 1) S else none)
def f_Pl_sumOfPieces (S : MS) : Option (Int32) := (l_Pl_sumOfPieces_4 fu 0 0 S).bind fun q1 => some q1.1
def rm_Pl_sumOfPieces : Room := { frames := 0, cells := 0, slots := 0, locals := 0 }
set_option maxHeartbeats 4000000 in
set_option maxRecDepth 100000 in
theorem m_Pl_sumOfPieces (l : Launch) (dC : Nat → ClassId) (dI : Nat → Nat → Nat) (tC : Nat → ClassId) (h_S : Nat) (ad_S : Nat → Nat) (S : MS) (R : Int32) (H : Heap) (hP : va_P (dC, dI) vwCl (w_Pl_ h_S ad_S tC S) H) (hf : f_Pl_sumOfPieces S = some R) : Met l y_Pl_sumOfPieces w_Pl_sumOfPieces rm_Pl_sumOfPieces (roP (dC, dI) tC H [.ref h_S]) (roQ H (some (.int R))) 0 0 (fun _ => False) := by
  refine Met.ofW (cc := c_Pl_sumOfPieces) (maxL := 3) (ret := (some (.int))) (by decide) rfl ?_
  intro p e s m args below meth c s₁ B hml hv
  obtain ⟨hav, hH, hK⟩ := hv
  have hx := B.exec
  have hb := B.bytes
  have hr := B.returns
  have hts : ∀ w ∈ gw, w.before args s = true := fun w h => atoms_spec (ws := w_Pl_sumOfPieces) B.pre w (List.mem_cons_of_mem _ h)
  have hown : s.vm.findClass RX3 = some m.cls := findClass_of_methodNamed B.named
  have hlocks := B.notSynchronized
  subst hH
  refine q_w (R := rm_Pl_sumOfPieces) (fun Q hQ => ?_)
  refine en_w (av := [.ref h_S]) hav (Nat.le_of_ble_eq_true rfl) (fun ls hl => ?_)
  have hl : lv_has ls 3 [(0, .ref h_S)] := hl
  unfold f_Pl_sumOfPieces at hf
  refine lv_iconst (v := 0) hx hb d_Pl_sumOfPieces_0 (by decide) ?_
  refine lv_istore_n (lv' := [(1, .int 0), (0, .ref h_S)]) hx hb d_Pl_sumOfPieces_1 rfl hl (by decide) rfl (fun ls hl => ?_)
  refine lv_iconst (v := 0) hx hb d_Pl_sumOfPieces_2 (by decide) ?_
  refine lv_istore_n (lv' := [(2, .int 0), (1, .int 0), (0, .ref h_S)]) hx hb d_Pl_sumOfPieces_3 rfl hl (by decide) rfl (fun ls hl => ?_)
  have lp_4 : ∀ (n : Nat) (x1 : Int32) (x2 : Int32) (Rl : Int32 × Int32), l_Pl_sumOfPieces_4 n x1 x2 S = some Rl → ∀ ls : Array Slot, lv_has ls 3 [(2, .int x2), (1, .int x1), (0, .ref h_S)] → (∀ ls : Array Slot, lv_has ls 3 [(2, .int Rl.2), (1, .int Rl.1), (0, .ref h_S)] → W p l e rm_Pl_sumOfPieces s m args below meth c s.heap [] 0 0 Q (F0 m 27 ls [])) → W p l e rm_Pl_sumOfPieces s m args below meth c s.heap [] 0 0 Q (F0 m 4 ls []) := by
    intro n
    induction n with
    | zero => intro x1 x2 Rl hf; cases hf
    | succ n ih_4 =>
      intro x1 x2 Rl hf ls hl K
      rw [l_Pl_sumOfPieces_4] at hf
      refine lv_iload_n hx hb d_Pl_sumOfPieces_4 rfl (lv_at hl 0 rfl) ?_
      refine lv_aload_n hx hb d_Pl_sumOfPieces_5 rfl (lv_at hl 2 rfl) ?_
      refine va_get (D := (dC, dI)) (ci := 3) (v := .int (S.1 0)) (C := RX3) (T := TX3) (N := 12) hx hb hts in_X3 hown hK hP 0 rfl rfl 7 (by decide) (hts _ kF_3_33) (fun _ h9 => h9) rfl d_Pl_sumOfPieces_6 ?_
      refine lv_icmp_ge (tgt := 27) hx hb d_Pl_sumOfPieces_9 (by decide) (fun c2 => ?_) (fun c2 => ?_)
      · have hf := op_t hf c2
        obtain rfl := Option.some.inj hf
        exact K _ (lv_sub hl [0, 1, 2] rfl)
      · have hf := op_e hf c2
        refine lv_iload_n hx hb d_Pl_sumOfPieces_12 rfl (lv_at hl 1 rfl) ?_
        refine lv_aload_n hx hb d_Pl_sumOfPieces_13 rfl (lv_at hl 2 rfl) ?_
        refine va_get (D := (dC, dI)) (ci := 3) (v := .ref (ad_S 1)) (C := RX3) (T := TX3) (N := 12) hx hb hts in_X3 hown hK hP 0 rfl rfl 1 (by decide) (hts _ kF_3_15) (fun _ h9 => h9) rfl d_Pl_sumOfPieces_14 ?_
        refine lv_iload_n hx hb d_Pl_sumOfPieces_17 rfl (lv_at hl 0 rfl) ?_
        obtain ⟨hi3, hf⟩ := op_if hf
        refine va_iald (f := S.2.1 1) hx hb hK hP 2 0 rfl rfl (ix_in hi3) d_Pl_sumOfPieces_18 ?_
        refine lv_iadd hx hb d_Pl_sumOfPieces_19 ?_
        obtain ⟨v4, hv4, hf⟩ := op_b hf
        refine rw_i (y := v4) (Option.some.inj hv4) ?_
        refine lv_istore_n (lv' := [(1, .int v4), (2, .int x2), (0, .ref h_S)]) hx hb d_Pl_sumOfPieces_20 rfl hl (by decide) rfl (fun ls hl => ?_)
        refine lv_iinc (v := x2 + 1) (lv' := [(2, .int (x2 + 1)), (1, .int v4), (0, .ref h_S)]) hx hb d_Pl_sumOfPieces_21 hl (k := 1) rfl rfl (by decide) rfl (fun ls hl => ?_)
        refine lv_goto (tgt := 4) hx hb d_Pl_sumOfPieces_24 (by decide) ?_
        exact ih_4 v4 (x2 + 1) Rl hf _ (lv_sub hl [0, 1, 2] rfl) K
  obtain ⟨q1, hq1, hf⟩ := op_b hf
  refine lp_4 fu 0 0 q1 hq1 _ (lv_sub hl [0, 1, 2] rfl) ?_
  intro ls hl
  refine lv_iload_n hx hb d_Pl_sumOfPieces_27 rfl (lv_at hl 1 rfl) ?_
  obtain rfl := Option.some.inj hf
  subst hQ
  exact W.iret (v := q1.1) hx hb hr (fun t ht hW => ⟨rfl, ht⟩) (fun q h => by cases h) d_Pl_sumOfPieces_28
end
