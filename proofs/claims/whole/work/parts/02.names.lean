/-! names, by program (wip/gen/names.py) -/
def gw : List Cond := lw_tbl.filter goodWord
def wsO (y : MethodName) (c : ByteArray) (n : Nat) (r : Option FieldType) : List Cond := .code y c n r :: gw
theorem gw_at {w : Cond} (i : Nat) (h : tables_1[i]? = some w) (g : goodWord w = true) : w ∈ gw := List.mem_filter.mpr ⟨List.mem_append_right _ (List.mem_of_getElem? h), g⟩
theorem gw_pr {w : Cond} (i : Nat) (h : (k2_sels lw_privs)[i]? = some w) (g : goodWord w = true) : w ∈ gw := List.mem_filter.mpr ⟨List.mem_append_left _ (List.mem_of_getElem? h), g⟩
theorem gw_sub (ws : List Cond) (ps : List Nat) (hp : ws = ps.filterMap (fun i => tables_1[i]?)) (hg : ws.all goodWord = true) : ∀ w ∈ ws, w ∈ gw := by
  intro w hw
  have h1 := List.all_eq_true.mp hg w hw
  rw [hp] at hw
  obtain ⟨i, -, hi⟩ := List.mem_filterMap.mp hw
  exact gw_at i hi h1
theorem gw_good {w : Cond} (h : w ∈ gw) : (w.onTables && w.keeps) = true ∨ ∃ ty, w = .arrayClass ty := good_of_word (List.mem_filter.mp h).2
theorem gd_O {y : MethodName} {cy : ByteArray} {ny : Nat} {ry : Option FieldType} (h : Cond.code y cy ny ry ∈ gw) : GoodIn gw (wsO y cy ny ry) := by
  intro w hw
  rcases List.mem_cons.mp hw with rfl | hw
  · exact ⟨h, gw_good h⟩
  · exact ⟨hw, gw_good hw⟩
theorem gd_V {y : MethodName} {cy : ByteArray} {ny : Nat} {ry : Option FieldType} {own C : String} {ix : Nat} (h1 : Cond.methodLink own ix y ∈ gw) (h2 : Cond.instanceMethod y ∈ gw) (h3 : Cond.selects C y y ∈ gw) (h4 : Cond.initialized C ∈ gw) (h : Cond.code y cy ny ry ∈ gw) : GoodIn gw (wsV own ix C y (wsO y cy ny ry)) := by
  intro w hw
  rcases List.mem_append.mp hw with hw | hw
  · have hg : w ∈ gw := by
      rcases List.mem_cons.mp hw with rfl | hw
      · exact h1
      rcases List.mem_cons.mp hw with rfl | hw
      · exact h2
      rcases List.mem_cons.mp hw with rfl | hw
      · exact h3
      rcases List.mem_cons.mp hw with rfl | hw
      · exact h4
      cases hw
    exact ⟨hg, gw_good hg⟩
  · exact gd_O h w hw
theorem gd_S {y : MethodName} {cy : ByteArray} {ny : Nat} {ry : Option FieldType} {own : String} {ix : Nat} (h1 : Cond.methodLink own ix y ∈ gw) (h2 : Cond.static y ∈ gw) (h3 : Cond.initialized own ∈ gw) (h : Cond.code y cy ny ry ∈ gw) : GoodIn gw (wsS own ix y (wsO y cy ny ry)) := by
  intro w hw
  rcases List.mem_append.mp hw with hw | hw
  · have hg : w ∈ gw := by
      rcases List.mem_cons.mp hw with rfl | hw
      · exact h1
      rcases List.mem_cons.mp hw with rfl | hw
      · exact h2
      rcases List.mem_cons.mp hw with rfl | hw
      · exact h3
      cases hw
    exact ⟨hg, gw_good hg⟩
  · exact gd_O h w hw
def RX0 : String := "BarCutting$FirstFit"
def TX0 : u_T := fun k => match k with
  | _ => ("BarCutting$FirstFit", "left", "[I", true)
def tyX0 : Nat → FieldType := fun k => match k with
  | _ => .array .int
theorem nmX0 : ∀ a, a < 1 → ∀ b, b < 1 → a ≠ b → (TX0 a).2.1 ≠ (TX0 b).2.1 := by decide +kernel
theorem tyX0_ok : ∀ k, k < 1 → parseFieldDescriptor (TX0 k).2.2.1 = some (tyX0 k) := by decide +kernel
def RX1 : String := "BarCutting$LeastWaste"
def TX1 : u_T := fun k => match k with
  | 0 => ("BarCutting$LeastWaste", "sums", "[I", true)
  | 1 => ("BarCutting$LeastWaste", "floors", "[I", true)
  | 2 => ("BarCutting$LeastWaste", "sizes", "[I", true)
  | 3 => ("BarCutting$LeastWaste", "left", "[I", true)
  | 4 => ("BarCutting$LeastWaste", "kindOfBar", "[I", true)
  | 5 => ("BarCutting$LeastWaste", "rowOfBar", "[I", true)
  | 6 => ("BarCutting$LeastWaste", "bestKindOfBar", "[I", true)
  | 7 => ("BarCutting$LeastWaste", "bestRowOfBar", "[I", true)
  | 8 => ("BarCutting$LeastWaste", "kinds", "I", false)
  | 9 => ("BarCutting$LeastWaste", "best", "I", false)
  | _ => ("BarCutting$LeastWaste", "bestBars", "I", false)
def tyX1 : Nat → FieldType := fun k => match k with
  | 0 => .array .int
  | 1 => .array .int
  | 2 => .array .int
  | 3 => .array .int
  | 4 => .array .int
  | 5 => .array .int
  | 6 => .array .int
  | 7 => .array .int
  | 8 => .int
  | 9 => .int
  | _ => .int
theorem nmX1 : ∀ a, a < 11 → ∀ b, b < 11 → a ≠ b → (TX1 a).2.1 ≠ (TX1 b).2.1 := by decide +kernel
theorem tyX1_ok : ∀ k, k < 11 → parseFieldDescriptor (TX1 k).2.2.1 = some (tyX1 k) := by decide +kernel
def RX2 : String := "BarCutting$Line"
def TX2 : u_T := fun k => match k with
  | 0 => ("BarCutting$Line", "shapeNumber", "I", true)
  | 1 => ("BarCutting$Line", "shape", "LBarCutting$Shape;", true)
  | 2 => ("BarCutting$Line", "diameter", "I", true)
  | 3 => ("BarCutting$Line", "bars", "I", true)
  | 4 => ("BarCutting$Line", "legs", "[I", true)
  | 5 => ("BarCutting$Line", "placed", "Z", false)
  | 6 => ("BarCutting$Line", "x", "I", false)
  | 7 => ("BarCutting$Line", "y", "I", false)
  | _ => ("BarCutting$Line", "z", "I", false)
def tyX2 : Nat → FieldType := fun k => match k with
  | 0 => .int
  | 1 => .object "BarCutting$Shape"
  | 2 => .int
  | 3 => .int
  | 4 => .array .int
  | 5 => .boolean
  | 6 => .int
  | 7 => .int
  | _ => .int
theorem nmX2 : ∀ a, a < 9 → ∀ b, b < 9 → a ≠ b → (TX2 a).2.1 ≠ (TX2 b).2.1 := by decide +kernel
theorem tyX2_ok : ∀ k, k < 9 → parseFieldDescriptor (TX2 k).2.2.1 = some (tyX2 k) := by decide +kernel
def RX3 : String := "BarCutting$Plan"
def TX3 : u_T := fun k => match k with
  | 0 => ("BarCutting$Plan", "pieceLine", "[I", true)
  | 1 => ("BarCutting$Plan", "pieceSize", "[I", true)
  | 2 => ("BarCutting$Plan", "pieceBar", "[I", true)
  | 3 => ("BarCutting$Plan", "barDiameter", "[I", true)
  | 4 => ("BarCutting$Plan", "barSize", "[I", true)
  | 5 => ("BarCutting$Plan", "barRoom", "[I", true)
  | 6 => ("BarCutting$Plan", "barPieces", "[I", true)
  | 7 => ("BarCutting$Plan", "pieces", "I", false)
  | 8 => ("BarCutting$Plan", "bars", "I", false)
  | 9 => ("BarCutting$Plan", "diameters", "I", false)
  | 10 => ("BarCutting$Plan", "leastWasteDiameters", "I", false)
  | _ => ("BarCutting$Plan", "done", "Z", false)
def tyX3 : Nat → FieldType := fun k => match k with
  | 0 => .array .int
  | 1 => .array .int
  | 2 => .array .int
  | 3 => .array .int
  | 4 => .array .int
  | 5 => .array .int
  | 6 => .array .int
  | 7 => .int
  | 8 => .int
  | 9 => .int
  | 10 => .int
  | _ => .boolean
theorem nmX3 : ∀ a, a < 12 → ∀ b, b < 12 → a ≠ b → (TX3 a).2.1 ≠ (TX3 b).2.1 := by decide +kernel
theorem tyX3_ok : ∀ k, k < 12 → parseFieldDescriptor (TX3 k).2.2.1 = some (tyX3 k) := by decide +kernel
def RX4 : String := "BarCutting$Shape"
def TX4 : u_T := fun k => match k with
  | 0 => ("BarCutting$Shape", "text", "[C", true)
  | 1 => ("BarCutting$Shape", "legs", "I", true)
  | _ => ("BarCutting$Shape", "quarters", "I", true)
def tyX4 : Nat → FieldType := fun k => match k with
  | 0 => .array .char
  | 1 => .int
  | _ => .int
theorem nmX4 : ∀ a, a < 3 → ∀ b, b < 3 → a ≠ b → (TX4 a).2.1 ≠ (TX4 b).2.1 := by decide +kernel
theorem tyX4_ok : ∀ k, k < 3 → parseFieldDescriptor (TX4 k).2.2.1 = some (tyX4 k) := by decide +kernel
def RX5 : String := "BarCutting$Shelf"
def TX5 : u_T := fun k => match k with
  | 0 => ("BarCutting$Shelf", "sizes", "[I", true)
  | 1 => ("BarCutting$Shelf", "bars", "[I", true)
  | _ => ("BarCutting$Shelf", "kinds", "I", false)
def tyX5 : Nat → FieldType := fun k => match k with
  | 0 => .array .int
  | 1 => .array .int
  | _ => .int
theorem nmX5 : ∀ a, a < 3 → ∀ b, b < 3 → a ≠ b → (TX5 a).2.1 ≠ (TX5 b).2.1 := by decide +kernel
theorem tyX5_ok : ∀ k, k < 3 → parseFieldDescriptor (TX5 k).2.2.1 = some (tyX5 k) := by decide +kernel
def RX6 : String := "BarCutting$Signs"
def TX6 : u_T := fun k => match k with
  | 0 => ("BarCutting$Signs", "row", "[C", true)
  | _ => ("BarCutting$Signs", "count", "I", false)
def tyX6 : Nat → FieldType := fun k => match k with
  | 0 => .array .char
  | _ => .int
theorem nmX6 : ∀ a, a < 2 → ∀ b, b < 2 → a ≠ b → (TX6 a).2.1 ≠ (TX6 b).2.1 := by decide +kernel
theorem tyX6_ok : ∀ k, k < 2 → parseFieldDescriptor (TX6 k).2.2.1 = some (tyX6 k) := by decide +kernel
def RX7 : String := "BarCutting$Track"
def TX7 : u_T := fun k => match k with
  | 0 => ("BarCutting$Track", "fromX", "[I", true)
  | 1 => ("BarCutting$Track", "fromY", "[I", true)
  | 2 => ("BarCutting$Track", "stepX", "[I", true)
  | 3 => ("BarCutting$Track", "stepY", "[I", true)
  | 4 => ("BarCutting$Track", "isLeg", "[Z", true)
  | 5 => ("BarCutting$Track", "steps", "I", false)
  | 6 => ("BarCutting$Track", "x", "I", false)
  | _ => ("BarCutting$Track", "y", "I", false)
def tyX7 : Nat → FieldType := fun k => match k with
  | 0 => .array .int
  | 1 => .array .int
  | 2 => .array .int
  | 3 => .array .int
  | 4 => .array .boolean
  | 5 => .int
  | 6 => .int
  | _ => .int
theorem nmX7 : ∀ a, a < 8 → ∀ b, b < 8 → a ≠ b → (TX7 a).2.1 ≠ (TX7 b).2.1 := by decide +kernel
theorem tyX7_ok : ∀ k, k < 8 → parseFieldDescriptor (TX7 k).2.2.1 = some (tyX7 k) := by decide +kernel
def RX8 : String := "BarCutting"
def TX8 : u_T := fun k => match k with
  | 0 => ("BarCutting", "signs", "LBarCutting$Signs;", true)
  | 1 => ("BarCutting", "shapes", "[LBarCutting$Shape;", true)
  | 2 => ("BarCutting", "lines", "[LBarCutting$Line;", true)
  | 3 => ("BarCutting", "rules", "[I", true)
  | 4 => ("BarCutting", "shelves", "[LBarCutting$Shelf;", true)
  | 5 => ("BarCutting", "plan", "LBarCutting$Plan;", true)
  | 6 => ("BarCutting", "leastWaste", "LBarCutting$LeastWaste;", true)
  | 7 => ("BarCutting", "firstFit", "LBarCutting$FirstFit;", true)
  | 8 => ("BarCutting", "track", "LBarCutting$Track;", true)
  | 9 => ("BarCutting", "otherTrack", "LBarCutting$Track;", true)
  | 10 => ("BarCutting", "shapeCount", "I", false)
  | _ => ("BarCutting", "lineCount", "I", false)
def tyX8 : Nat → FieldType := fun k => match k with
  | 0 => .object "BarCutting$Signs"
  | 1 => .array (.object "BarCutting$Shape")
  | 2 => .array (.object "BarCutting$Line")
  | 3 => .array .int
  | 4 => .array (.object "BarCutting$Shelf")
  | 5 => .object "BarCutting$Plan"
  | 6 => .object "BarCutting$LeastWaste"
  | 7 => .object "BarCutting$FirstFit"
  | 8 => .object "BarCutting$Track"
  | 9 => .object "BarCutting$Track"
  | 10 => .int
  | _ => .int
theorem nmX8 : ∀ a, a < 12 → ∀ b, b < 12 → a ≠ b → (TX8 a).2.1 ≠ (TX8 b).2.1 := by decide +kernel
theorem tyX8_ok : ∀ k, k < 12 → parseFieldDescriptor (TX8 k).2.2.1 = some (tyX8 k) := by decide +kernel
def RX9 : String := "BarCuttingModel"
def TX9 : u_T := fun k => match k with
  | 0 => ("BarCuttingModel", "text", "[I", true)
  | 1 => ("BarCuttingModel", "size", "I", false)
  | 2 => ("BarCuttingModel", "shapes", "I", false)
  | 3 => ("BarCuttingModel", "legCount", "[I", true)
  | 4 => ("BarCuttingModel", "bends", "[I", true)
  | 5 => ("BarCuttingModel", "rules", "[J", true)
  | 6 => ("BarCuttingModel", "lines", "I", false)
  | 7 => ("BarCuttingModel", "shapeOf", "[I", true)
  | 8 => ("BarCuttingModel", "diameterOf", "[I", true)
  | 9 => ("BarCuttingModel", "manyOf", "[I", true)
  | 10 => ("BarCuttingModel", "legs", "[J", true)
  | 11 => ("BarCuttingModel", "placed", "[Z", true)
  | 12 => ("BarCuttingModel", "placeX", "[J", true)
  | 13 => ("BarCuttingModel", "placeY", "[J", true)
  | 14 => ("BarCuttingModel", "placeZ", "[J", true)
  | 15 => ("BarCuttingModel", "kinds", "[I", true)
  | 16 => ("BarCuttingModel", "kindLength", "[J", true)
  | 17 => ("BarCuttingModel", "kindMany", "[I", true)
  | 18 => ("BarCuttingModel", "left", "[I", true)
  | 19 => ("BarCuttingModel", "pieces", "I", false)
  | 20 => ("BarCuttingModel", "pieceLine", "[I", true)
  | 21 => ("BarCuttingModel", "pieceLength", "[J", true)
  | 22 => ("BarCuttingModel", "remains", "[I", true)
  | 23 => ("BarCuttingModel", "wayKind", "[I", true)
  | 24 => ("BarCuttingModel", "waySet", "[I", true)
  | 25 => ("BarCuttingModel", "bestKind", "[I", true)
  | 26 => ("BarCuttingModel", "bestSet", "[I", true)
  | 27 => ("BarCuttingModel", "cut", "Z", false)
  | 28 => ("BarCuttingModel", "bars", "I", false)
  | 29 => ("BarCuttingModel", "barDiameter", "[I", true)
  | 30 => ("BarCuttingModel", "barLength", "[J", true)
  | 31 => ("BarCuttingModel", "barMany", "[I", true)
  | 32 => ("BarCuttingModel", "barLines", "[I", true)
  | 33 => ("BarCuttingModel", "barRoom", "[J", true)
  | 34 => ("BarCuttingModel", "diameters", "I", false)
  | 35 => ("BarCuttingModel", "exact", "I", false)
  | 36 => ("BarCuttingModel", "pairs", "I", false)
  | 37 => ("BarCuttingModel", "goesX", "[J", true)
  | 38 => ("BarCuttingModel", "goesY", "[J", true)
  | 39 => ("BarCuttingModel", "isLeg", "[Z", true)
  | 40 => ("BarCuttingModel", "lowX", "[J", true)
  | 41 => ("BarCuttingModel", "highX", "[J", true)
  | 42 => ("BarCuttingModel", "lowY", "[J", true)
  | 43 => ("BarCuttingModel", "highY", "[J", true)
  | 44 => ("BarCuttingModel", "tagSigns", "[I", true)
  | _ => ("BarCuttingModel", "tagSize", "I", false)
def tyX9 : Nat → FieldType := fun k => match k with
  | 0 => .array .int
  | 1 => .int
  | 2 => .int
  | 3 => .array .int
  | 4 => .array .int
  | 5 => .array .long
  | 6 => .int
  | 7 => .array .int
  | 8 => .array .int
  | 9 => .array .int
  | 10 => .array .long
  | 11 => .array .boolean
  | 12 => .array .long
  | 13 => .array .long
  | 14 => .array .long
  | 15 => .array .int
  | 16 => .array .long
  | 17 => .array .int
  | 18 => .array .int
  | 19 => .int
  | 20 => .array .int
  | 21 => .array .long
  | 22 => .array .int
  | 23 => .array .int
  | 24 => .array .int
  | 25 => .array .int
  | 26 => .array .int
  | 27 => .boolean
  | 28 => .int
  | 29 => .array .int
  | 30 => .array .long
  | 31 => .array .int
  | 32 => .array .int
  | 33 => .array .long
  | 34 => .int
  | 35 => .int
  | 36 => .int
  | 37 => .array .long
  | 38 => .array .long
  | 39 => .array .boolean
  | 40 => .array .long
  | 41 => .array .long
  | 42 => .array .long
  | 43 => .array .long
  | 44 => .array .int
  | _ => .int
theorem nmX9 : ∀ a, a < 46 → ∀ b, b < 46 → a ≠ b → (TX9 a).2.1 ≠ (TX9 b).2.1 := by decide +kernel
theorem tyX9_ok : ∀ k, k < 46 → parseFieldDescriptor (TX9 k).2.2.1 = some (tyX9 k) := by decide +kernel
def RL : String := "BarCuttingLaw"
abbrev vwCl : List vw_C := [(RX0, TX0, 1), (RX1, TX1, 11), (RX2, TX2, 9), (RX3, TX3, 12), (RX4, TX4, 3), (RX5, TX5, 3), (RX6, TX6, 2), (RX7, TX7, 8), (RX8, TX8, 12), (RX9, TX9, 46)]
abbrev c_Bc_init : ByteArray := prog_1_method_1_code
def y_Bc_init : MethodName := ⟨RX8, "<init>", "()V"⟩
abbrev w_Bc_init : List Cond := wsO y_Bc_init c_Bc_init 1 none
abbrev c_Sg_init : ByteArray := prog_8_method_1_code
def y_Sg_init : MethodName := ⟨RX6, "<init>", "()V"⟩
abbrev w_Sg_init : List Cond := wsO y_Sg_init c_Sg_init 1 none
abbrev c_Pl_init : ByteArray := prog_5_method_1_code
def y_Pl_init : MethodName := ⟨RX3, "<init>", "()V"⟩
abbrev w_Pl_init : List Cond := wsO y_Pl_init c_Pl_init 1 none
abbrev c_Lw_init : ByteArray := prog_3_method_1_code
def y_Lw_init : MethodName := ⟨RX1, "<init>", "()V"⟩
abbrev w_Lw_init : List Cond := wsO y_Lw_init c_Lw_init 1 none
abbrev c_Ff_init : ByteArray := prog_2_method_1_code
def y_Ff_init : MethodName := ⟨RX0, "<init>", "()V"⟩
abbrev w_Ff_init : List Cond := wsO y_Ff_init c_Ff_init 1 none
abbrev c_Tr_init : ByteArray := prog_9_method_1_code
def y_Tr_init : MethodName := ⟨RX7, "<init>", "()V"⟩
abbrev w_Tr_init : List Cond := wsO y_Tr_init c_Tr_init 1 none
abbrev c_Bc_unit : ByteArray := prog_1_method_2_code
def y_Bc_unit : MethodName := ⟨RX8, "unit", "(I)Z"⟩
abbrev w_Bc_unit : List Cond := wsO y_Bc_unit c_Bc_unit 2 (some (.boolean))
abbrev c_Sg_collect : ByteArray := prog_8_method_2_code
def y_Sg_collect : MethodName := ⟨RX6, "collect", "(I)Z"⟩
abbrev w_Sg_collect : List Cond := wsO y_Sg_collect c_Sg_collect 2 (some (.boolean))
abbrev c_Bc_shape : ByteArray := prog_1_method_3_code
def y_Bc_shape : MethodName := ⟨RX8, "shape", "()I"⟩
abbrev w_Bc_shape : List Cond := wsO y_Bc_shape c_Bc_shape 4 (some (.int))
abbrev c_Sg_firstWrong : ByteArray := prog_8_method_3_code
def y_Sg_firstWrong : MethodName := ⟨RX6, "firstWrong", "()I"⟩
abbrev w_Sg_firstWrong : List Cond := wsO y_Sg_firstWrong c_Sg_firstWrong 3 (some (.int))
abbrev c_Sg_isLeg : ByteArray := prog_8_method_5_code
def y_Sg_isLeg : MethodName := ⟨RX6, "isLeg", "(II)Z"⟩
abbrev w_Sg_isLeg : List Cond := wsO y_Sg_isLeg c_Sg_isLeg 2 (some (.boolean))
abbrev c_Sg_quartersOf : ByteArray := prog_8_method_6_code
def y_Sg_quartersOf : MethodName := ⟨RX6, "quartersOf", "(I)I"⟩
abbrev w_Sg_quartersOf : List Cond := wsO y_Sg_quartersOf c_Sg_quartersOf 1 (some (.int))
abbrev c_Sg_toShape : ByteArray := prog_8_method_4_code
def y_Sg_toShape : MethodName := ⟨RX6, "toShape", "()LBarCutting$Shape;"⟩
abbrev w_Sg_toShape : List Cond := wsO y_Sg_toShape c_Sg_toShape 4 (some (.object "BarCutting$Shape"))
abbrev c_Sh_init : ByteArray := prog_6_method_1_code
def y_Sh_init : MethodName := ⟨RX4, "<init>", "([CI)V"⟩
abbrev w_Sh_init : List Cond := wsO y_Sh_init c_Sh_init 3 none
abbrev c_Bc_rule : ByteArray := prog_1_method_4_code
def y_Bc_rule : MethodName := ⟨RX8, "rule", "(IJ)Z"⟩
abbrev w_Bc_rule : List Cond := wsO y_Bc_rule c_Bc_rule 4 (some (.boolean))
abbrev c_Bc_isDiameter : ByteArray := prog_1_method_22_code
def y_Bc_isDiameter : MethodName := ⟨RX8, "isDiameter", "(I)Z"⟩
abbrev w_Bc_isDiameter : List Cond := wsO y_Bc_isDiameter c_Bc_isDiameter 1 (some (.boolean))
abbrev c_Pl_clear : ByteArray := prog_5_method_2_code
def y_Pl_clear : MethodName := ⟨RX3, "clear", "()V"⟩
abbrev w_Pl_clear : List Cond := wsO y_Pl_clear c_Pl_clear 1 none
abbrev c_Bc_bar : ByteArray := prog_1_method_5_code
def y_Bc_bar : MethodName := ⟨RX8, "bar", "(III)I"⟩
abbrev w_Bc_bar : List Cond := wsO y_Bc_bar c_Bc_bar 4 (some (.int))
abbrev c_Ln_init : ByteArray := prog_4_method_1_code
def y_Ln_init : MethodName := ⟨RX2, "<init>", "(ILBarCutting$Shape;II)V"⟩
abbrev w_Ln_init : List Cond := wsO y_Ln_init c_Ln_init 5 none
abbrev c_Bc_leg : ByteArray := prog_1_method_6_code
def y_Bc_leg : MethodName := ⟨RX8, "leg", "(IIJ)Z"⟩
abbrev w_Bc_leg : List Cond := wsO y_Bc_leg c_Bc_leg 6 (some (.boolean))
abbrev c_Bc_lineAt : ByteArray := prog_1_method_24_code
def y_Bc_lineAt : MethodName := ⟨RX8, "lineAt", "(I)LBarCutting$Line;"⟩
abbrev w_Bc_lineAt : List Cond := wsO y_Bc_lineAt c_Bc_lineAt 2 (some (.object "BarCutting$Line"))
abbrev c_Bc_length : ByteArray := prog_1_method_7_code
def y_Bc_length : MethodName := ⟨RX8, "length", "(II)J"⟩
abbrev w_Bc_length : List Cond := wsO y_Bc_length c_Bc_length 4 (some (.long))
abbrev c_Bc_cutLength : ByteArray := prog_1_method_25_code
def y_Bc_cutLength : MethodName := ⟨RX8, "cutLength", "(LBarCutting$Line;)I"⟩
abbrev w_Bc_cutLength : List Cond := wsO y_Bc_cutLength c_Bc_cutLength 3 (some (.int))
abbrev c_Ln_sumOfLegs : ByteArray := prog_4_method_2_code
def y_Ln_sumOfLegs : MethodName := ⟨RX2, "sumOfLegs", "()I"⟩
abbrev w_Ln_sumOfLegs : List Cond := wsO y_Ln_sumOfLegs c_Ln_sumOfLegs 3 (some (.int))
abbrev c_Bc_stock : ByteArray := prog_1_method_8_code
def y_Bc_stock : MethodName := ⟨RX8, "stock", "(IJI)Z"⟩
abbrev w_Bc_stock : List Cond := wsO y_Bc_stock c_Bc_stock 6 (some (.boolean))
abbrev c_Sf_init : ByteArray := prog_7_method_1_code
def y_Sf_init : MethodName := ⟨RX5, "<init>", "()V"⟩
abbrev w_Sf_init : List Cond := wsO y_Sf_init c_Sf_init 1 none
abbrev c_Sf_add : ByteArray := prog_7_method_2_code
def y_Sf_add : MethodName := ⟨RX5, "add", "(II)Z"⟩
abbrev w_Sf_add : List Cond := wsO y_Sf_add c_Sf_add 3 (some (.boolean))
abbrev c_Bc_run : ByteArray := prog_1_method_9_code
def y_Bc_run : MethodName := ⟨RX8, "run", "(J)I"⟩
abbrev w_Bc_run : List Cond := wsO y_Bc_run c_Bc_run 4 (some (.int))
abbrev c_Bc_cutDiameter : ByteArray := prog_1_method_26_code
def y_Bc_cutDiameter : MethodName := ⟨RX8, "cutDiameter", "(II)Z"⟩
abbrev w_Bc_cutDiameter : List Cond := wsO y_Bc_cutDiameter c_Bc_cutDiameter 6 (some (.boolean))
abbrev c_Bc_gatherPieces : ByteArray := prog_1_method_27_code
def y_Bc_gatherPieces : MethodName := ⟨RX8, "gatherPieces", "(II)Z"⟩
abbrev w_Bc_gatherPieces : List Cond := wsO y_Bc_gatherPieces c_Bc_gatherPieces 7 (some (.boolean))
abbrev c_Pl_addPiece : ByteArray := prog_5_method_3_code
def y_Pl_addPiece : MethodName := ⟨RX3, "addPiece", "(III)V"⟩
abbrev w_Pl_addPiece : List Cond := wsO y_Pl_addPiece c_Pl_addPiece 5 none
abbrev c_Ff_cut : ByteArray := prog_2_method_2_code
def y_Ff_cut : MethodName := ⟨RX0, "cut", "(LBarCutting$Plan;IILBarCutting$Shelf;)Z"⟩
abbrev w_Ff_cut : List Cond := wsO y_Ff_cut c_Ff_cut 10 (some (.boolean))
abbrev c_Ff_firstWithRoom : ByteArray := prog_2_method_3_code
def y_Ff_firstWithRoom : MethodName := ⟨RX0, "firstWithRoom", "(LBarCutting$Plan;II)I"⟩
abbrev w_Ff_firstWithRoom : List Cond := wsO y_Ff_firstWithRoom c_Ff_firstWithRoom 4 (some (.int))
abbrev c_Ff_leastKindFor : ByteArray := prog_2_method_4_code
def y_Ff_leastKindFor : MethodName := ⟨RX0, "leastKindFor", "(LBarCutting$Shelf;I)I"⟩
abbrev w_Ff_leastKindFor : List Cond := wsO y_Ff_leastKindFor c_Ff_leastKindFor 6 (some (.int))
abbrev c_Pl_openBar : ByteArray := prog_5_method_4_code
def y_Pl_openBar : MethodName := ⟨RX3, "openBar", "(II)I"⟩
abbrev w_Pl_openBar : List Cond := wsO y_Pl_openBar c_Pl_openBar 3 (some (.int))
abbrev c_Pl_putPiece : ByteArray := prog_5_method_5_code
def y_Pl_putPiece : MethodName := ⟨RX3, "putPiece", "(II)V"⟩
abbrev w_Pl_putPiece : List Cond := wsO y_Pl_putPiece c_Pl_putPiece 3 none
abbrev c_Lw_cut : ByteArray := prog_3_method_2_code
def y_Lw_cut : MethodName := ⟨RX1, "cut", "(LBarCutting$Plan;IILBarCutting$Shelf;)Z"⟩
abbrev w_Lw_cut : List Cond := wsO y_Lw_cut c_Lw_cut 6 (some (.boolean))
abbrev c_Lw_sumSets : ByteArray := prog_3_method_3_code
def y_Lw_sumSets : MethodName := ⟨RX1, "sumSets", "(LBarCutting$Plan;II)V"⟩
abbrev w_Lw_sumSets : List Cond := wsO y_Lw_sumSets c_Lw_sumSets 8 none
abbrev c_Lw_findFloors : ByteArray := prog_3_method_4_code
def y_Lw_findFloors : MethodName := ⟨RX1, "findFloors", "(I)V"⟩
abbrev w_Lw_findFloors : List Cond := wsO y_Lw_findFloors c_Lw_findFloors 6 none
abbrev c_Lw_highestBit : ByteArray := prog_3_method_11_code
def y_Lw_highestBit : MethodName := ⟨RX1, "highestBit", "(I)I"⟩
abbrev w_Lw_highestBit : List Cond := wsO y_Lw_highestBit c_Lw_highestBit 2 (some (.int))
abbrev c_Lw_costOfCheapestBar : ByteArray := prog_3_method_5_code
def y_Lw_costOfCheapestBar : MethodName := ⟨RX1, "costOfCheapestBar", "(I)I"⟩
abbrev w_Lw_costOfCheapestBar : List Cond := wsO y_Lw_costOfCheapestBar c_Lw_costOfCheapestBar 4 (some (.int))
abbrev c_Lw_costOfBar : ByteArray := prog_3_method_6_code
def y_Lw_costOfBar : MethodName := ⟨RX1, "costOfBar", "(I)I"⟩
abbrev w_Lw_costOfBar : List Cond := wsO y_Lw_costOfBar c_Lw_costOfBar 2 (some (.int))
abbrev c_Lw_search : ByteArray := prog_3_method_7_code
def y_Lw_search : MethodName := ⟨RX1, "search", "(III)V"⟩
abbrev w_Lw_search : List Cond := wsO y_Lw_search c_Lw_search 5 none
abbrev c_Lw_keep : ByteArray := prog_3_method_9_code
def y_Lw_keep : MethodName := ⟨RX1, "keep", "(II)V"⟩
abbrev w_Lw_keep : List Cond := wsO y_Lw_keep c_Lw_keep 4 none
abbrev c_Lw_searchRows : ByteArray := prog_3_method_8_code
def y_Lw_searchRows : MethodName := ⟨RX1, "searchRows", "(III)V"⟩
abbrev w_Lw_searchRows : List Cond := wsO y_Lw_searchRows c_Lw_searchRows 7 none
abbrev c_Lw_writeBest : ByteArray := prog_3_method_10_code
def y_Lw_writeBest : MethodName := ⟨RX1, "writeBest", "(LBarCutting$Plan;II)Z"⟩
abbrev w_Lw_writeBest : List Cond := wsO y_Lw_writeBest c_Lw_writeBest 7 (some (.boolean))
abbrev c_Bc_loss : ByteArray := prog_1_method_10_code
def y_Bc_loss : MethodName := ⟨RX8, "loss", "(I)J"⟩
abbrev w_Bc_loss : List Cond := wsO y_Bc_loss c_Bc_loss 2 (some (.long))
abbrev c_Pl_sumOfBars : ByteArray := prog_5_method_7_code
def y_Pl_sumOfBars : MethodName := ⟨RX3, "sumOfBars", "()I"⟩
abbrev w_Pl_sumOfBars : List Cond := wsO y_Pl_sumOfBars c_Pl_sumOfBars 3 (some (.int))
abbrev c_Pl_sumOfPieces : ByteArray := prog_5_method_8_code
def y_Pl_sumOfPieces : MethodName := ⟨RX3, "sumOfPieces", "()I"⟩
abbrev w_Pl_sumOfPieces : List Cond := wsO y_Pl_sumOfPieces c_Pl_sumOfPieces 3 (some (.int))
abbrev c_Bc_bound : ByteArray := prog_1_method_11_code
def y_Bc_bound : MethodName := ⟨RX8, "bound", "(I)J"⟩
abbrev w_Bc_bound : List Cond := wsO y_Bc_bound c_Bc_bound 2 (some (.long))
abbrev c_Bc_proved : ByteArray := prog_1_method_12_code
def y_Bc_proved : MethodName := ⟨RX8, "proved", "()Z"⟩
abbrev w_Bc_proved : List Cond := wsO y_Bc_proved c_Bc_proved 1 (some (.boolean))
abbrev c_Bc_pattern : ByteArray := prog_1_method_13_code
def y_Bc_pattern : MethodName := ⟨RX8, "pattern", "(II)I"⟩
abbrev w_Bc_pattern : List Cond := wsO y_Bc_pattern c_Bc_pattern 3 (some (.int))
abbrev c_Pl_lineOfPiece : ByteArray := prog_5_method_6_code
def y_Pl_lineOfPiece : MethodName := ⟨RX3, "lineOfPiece", "(II)I"⟩
abbrev w_Pl_lineOfPiece : List Cond := wsO y_Pl_lineOfPiece c_Pl_lineOfPiece 5 (some (.int))
abbrev c_Bc_place : ByteArray := prog_1_method_14_code
def y_Bc_place : MethodName := ⟨RX8, "place", "(IJJJ)Z"⟩
abbrev w_Bc_place : List Cond := wsO y_Bc_place c_Bc_place 9 (some (.boolean))
abbrev c_Bc_isPlace : ByteArray := prog_1_method_23_code
def y_Bc_isPlace : MethodName := ⟨RX8, "isPlace", "(J)Z"⟩
abbrev w_Bc_isPlace : List Cond := wsO y_Bc_isPlace c_Bc_isPlace 2 (some (.boolean))
abbrev c_Bc_command : ByteArray := prog_1_method_15_code
def y_Bc_command : MethodName := ⟨RX8, "command", "(II)I"⟩
abbrev w_Bc_command : List Cond := wsO y_Bc_command c_Bc_command 5 (some (.int))
abbrev c_Ln_allLegsTold : ByteArray := prog_4_method_3_code
def y_Ln_allLegsTold : MethodName := ⟨RX2, "allLegsTold", "()Z"⟩
abbrev w_Ln_allLegsTold : List Cond := wsO y_Ln_allLegsTold c_Ln_allLegsTold 2 (some (.boolean))
abbrev c_Tr_follow : ByteArray := prog_9_method_2_code
def y_Tr_follow : MethodName := ⟨RX7, "follow", "(LBarCutting$Line;)V"⟩
abbrev w_Tr_follow : List Cond := wsO y_Tr_follow c_Tr_follow 8 none
abbrev c_Sh_bendBefore : ByteArray := prog_6_method_2_code
def y_Sh_bendBefore : MethodName := ⟨RX4, "bendBefore", "(I)I"⟩
abbrev w_Sh_bendBefore : List Cond := wsO y_Sh_bendBefore c_Sh_bendBefore 3 (some (.int))
abbrev c_Tr_go : ByteArray := prog_9_method_3_code
def y_Tr_go : MethodName := ⟨RX7, "go", "(IIZ)V"⟩
abbrev w_Tr_go : List Cond := wsO y_Tr_go c_Tr_go 4 none
abbrev c_Bc_clash : ByteArray := prog_1_method_16_code
def y_Bc_clash : MethodName := ⟨RX8, "clash", "(II)I"⟩
abbrev w_Bc_clash : List Cond := wsO y_Bc_clash c_Bc_clash 11 (some (.int))
abbrev c_Tr_leastSquareTo : ByteArray := prog_9_method_4_code
def y_Tr_leastSquareTo : MethodName := ⟨RX7, "leastSquareTo", "(LBarCutting$Track;)J"⟩
abbrev w_Tr_leastSquareTo : List Cond := wsO y_Tr_leastSquareTo c_Tr_leastSquareTo 10 (some (.long))
abbrev c_Tr_gap : ByteArray := prog_9_method_5_code
def y_Tr_gap : MethodName := ⟨RX7, "gap", "(IIII)I"⟩
abbrev w_Tr_gap : List Cond := wsO y_Tr_gap c_Tr_gap 6 (some (.int))
abbrev c_Bc_lap : ByteArray := prog_1_method_17_code
def y_Bc_lap : MethodName := ⟨RX8, "lap", "(IJ)I"⟩
abbrev w_Bc_lap : List Cond := wsO y_Bc_lap c_Bc_lap 9 (some (.int))
abbrev c_Sf_greatest : ByteArray := prog_7_method_3_code
def y_Sf_greatest : MethodName := ⟨RX5, "greatest", "()I"⟩
abbrev w_Sf_greatest : List Cond := wsO y_Sf_greatest c_Sf_greatest 3 (some (.int))
abbrev c_Bc_weight : ByteArray := prog_1_method_18_code
def y_Bc_weight : MethodName := ⟨RX8, "weight", "(II)J"⟩
abbrev w_Bc_weight : List Cond := wsO y_Bc_weight c_Bc_weight 7 (some (.long))
abbrev c_Bc_greatestCommonWithDivisor : ByteArray := prog_1_method_28_code
def y_Bc_greatestCommonWithDivisor : MethodName := ⟨RX8, "greatestCommonWithDivisor", "(J)I"⟩
abbrev w_Bc_greatestCommonWithDivisor : List Cond := wsO y_Bc_greatestCommonWithDivisor c_Bc_greatestCommonWithDivisor 3 (some (.int))
abbrev c_Bc_tag : ByteArray := prog_1_method_19_code
def y_Bc_tag : MethodName := ⟨RX8, "tag", "(II)I"⟩
abbrev w_Bc_tag : List Cond := wsO y_Bc_tag c_Bc_tag 4 (some (.int))
abbrev c_Ln_signOfTag : ByteArray := prog_4_method_5_code
def y_Ln_signOfTag : MethodName := ⟨RX2, "signOfTag", "(I)I"⟩
abbrev w_Ln_signOfTag : List Cond := wsO y_Ln_signOfTag c_Ln_signOfTag 5 (some (.int))
abbrev c_Bc_differs : ByteArray := prog_1_method_20_code
def y_Bc_differs : MethodName := ⟨RX8, "differs", "(III)I"⟩
abbrev w_Bc_differs : List Cond := wsO y_Bc_differs c_Bc_differs 8 (some (.int))
abbrev c_Ln_thing : ByteArray := prog_4_method_4_code
def y_Ln_thing : MethodName := ⟨RX2, "thing", "(I)I"⟩
abbrev w_Ln_thing : List Cond := wsO y_Ln_thing c_Ln_thing 3 (some (.int))
abbrev c_Bc_order : ByteArray := prog_1_method_21_code
def y_Bc_order : MethodName := ⟨RX8, "order", "(I)I"⟩
abbrev w_Bc_order : List Cond := wsO y_Bc_order c_Bc_order 3 (some (.int))
abbrev c_Bc_linesBentBefore : ByteArray := prog_1_method_29_code
def y_Bc_linesBentBefore : MethodName := ⟨RX8, "linesBentBefore", "(I)I"⟩
abbrev w_Bc_linesBentBefore : List Cond := wsO y_Bc_linesBentBefore c_Bc_linesBentBefore 4 (some (.int))
abbrev c_Bc_isBentBefore : ByteArray := prog_1_method_30_code
def y_Bc_isBentBefore : MethodName := ⟨RX8, "isBentBefore", "(II)Z"⟩
abbrev w_Bc_isBentBefore : List Cond := wsO y_Bc_isBentBefore c_Bc_isBentBefore 5 (some (.boolean))
abbrev c_Md_init : ByteArray := prog_11_method_1_code
def y_Md_init : MethodName := ⟨RX9, "<init>", "()V"⟩
abbrev w_Md_init : List Cond := wsO y_Md_init c_Md_init 1 none
abbrev c_Md_unit : ByteArray := prog_11_method_5_code
def y_Md_unit : MethodName := ⟨RX9, "unit", "(I)Z"⟩
abbrev w_Md_unit : List Cond := wsO y_Md_unit c_Md_unit 2 (some (.boolean))
abbrev c_Md_isIn : ByteArray := prog_11_method_3_code
def y_Md_isIn : MethodName := ⟨RX9, "isIn", "(JJJ)Z"⟩
abbrev w_Md_isIn : List Cond := wsO y_Md_isIn c_Md_isIn 6 (some (.boolean))
abbrev c_Md_shape : ByteArray := prog_11_method_7_code
def y_Md_shape : MethodName := ⟨RX9, "shape", "()I"⟩
abbrev w_Md_shape : List Cond := wsO y_Md_shape c_Md_shape 5 (some (.int))
abbrev c_Md_bendOf : ByteArray := prog_11_method_6_code
def y_Md_bendOf : MethodName := ⟨RX9, "bendOf", "(I)I"⟩
abbrev w_Md_bendOf : List Cond := wsO y_Md_bendOf c_Md_bendOf 1 (some (.int))
abbrev c_Md_rule : ByteArray := prog_11_method_8_code
def y_Md_rule : MethodName := ⟨RX9, "rule", "(IJ)Z"⟩
abbrev w_Md_rule : List Cond := wsO y_Md_rule c_Md_rule 4 (some (.boolean))
abbrev c_Md_bar : ByteArray := prog_11_method_9_code
def y_Md_bar : MethodName := ⟨RX9, "bar", "(III)I"⟩
abbrev w_Md_bar : List Cond := wsO y_Md_bar c_Md_bar 4 (some (.int))
abbrev c_Md_leg : ByteArray := prog_11_method_10_code
def y_Md_leg : MethodName := ⟨RX9, "leg", "(IIJ)Z"⟩
abbrev w_Md_leg : List Cond := wsO y_Md_leg c_Md_leg 5 (some (.boolean))
abbrev c_Md_isLine : ByteArray := prog_11_method_4_code
def y_Md_isLine : MethodName := ⟨RX9, "isLine", "(I)Z"⟩
abbrev w_Md_isLine : List Cond := wsO y_Md_isLine c_Md_isLine 2 (some (.boolean))
abbrev c_Md_stock : ByteArray := prog_11_method_11_code
def y_Md_stock : MethodName := ⟨RX9, "stock", "(IJI)Z"⟩
abbrev w_Md_stock : List Cond := wsO y_Md_stock c_Md_stock 5 (some (.boolean))
abbrev c_Md_length : ByteArray := prog_11_method_14_code
def y_Md_length : MethodName := ⟨RX9, "length", "(II)J"⟩
abbrev w_Md_length : List Cond := wsO y_Md_length c_Md_length 3 (some (.long))
abbrev c_Md_lengthOf : ByteArray := prog_11_method_13_code
def y_Md_lengthOf : MethodName := ⟨RX9, "lengthOf", "(I)J"⟩
abbrev w_Md_lengthOf : List Cond := wsO y_Md_lengthOf c_Md_lengthOf 6 (some (.long))
abbrev c_Md_sumOf : ByteArray := prog_11_method_12_code
def y_Md_sumOf : MethodName := ⟨RX9, "sumOf", "(I)J"⟩
abbrev w_Md_sumOf : List Cond := wsO y_Md_sumOf c_Md_sumOf 5 (some (.long))
abbrev c_Md_run : ByteArray := prog_11_method_23_code
def y_Md_run : MethodName := ⟨RX9, "run", "(J)I"⟩
abbrev w_Md_run : List Cond := wsO y_Md_run c_Md_run 5 (some (.int))
abbrev c_Md_findPieces : ByteArray := prog_11_method_15_code
def y_Md_findPieces : MethodName := ⟨RX9, "findPieces", "(I)V"⟩
abbrev w_Md_findPieces : List Cond := wsO y_Md_findPieces c_Md_findPieces 5 none
abbrev c_Md_cutBest : ByteArray := prog_11_method_22_code
def y_Md_cutBest : MethodName := ⟨RX9, "cutBest", "(I)Z"⟩
abbrev w_Md_cutBest : List Cond := wsO y_Md_cutBest c_Md_cutBest 16 (some (.boolean))
abbrev c_Md_firstOf : ByteArray := prog_11_method_21_code
def y_Md_firstOf : MethodName := ⟨RX9, "firstOf", "(I)I"⟩
abbrev w_Md_firstOf : List Cond := wsO y_Md_firstOf c_Md_firstOf 3 (some (.int))
abbrev c_Md_lengthOfSet : ByteArray := prog_11_method_20_code
def y_Md_lengthOfSet : MethodName := ⟨RX9, "lengthOfSet", "(I)J"⟩
abbrev w_Md_lengthOfSet : List Cond := wsO y_Md_lengthOfSet c_Md_lengthOfSet 5 (some (.long))
abbrev c_Md_openBar : ByteArray := prog_11_method_16_code
def y_Md_openBar : MethodName := ⟨RX9, "openBar", "(II)V"⟩
abbrev w_Md_openBar : List Cond := wsO y_Md_openBar c_Md_openBar 3 none
abbrev c_Md_put : ByteArray := prog_11_method_17_code
def y_Md_put : MethodName := ⟨RX9, "put", "(II)V"⟩
abbrev w_Md_put : List Cond := wsO y_Md_put c_Md_put 3 none
abbrev c_Md_cutInTurn : ByteArray := prog_11_method_19_code
def y_Md_cutInTurn : MethodName := ⟨RX9, "cutInTurn", "(I)Z"⟩
abbrev w_Md_cutInTurn : List Cond := wsO y_Md_cutInTurn c_Md_cutInTurn 6 (some (.boolean))
abbrev c_Md_kindFor : ByteArray := prog_11_method_18_code
def y_Md_kindFor : MethodName := ⟨RX9, "kindFor", "(IJ)I"⟩
abbrev w_Md_kindFor : List Cond := wsO y_Md_kindFor c_Md_kindFor 8 (some (.int))
abbrev c_Md_loss : ByteArray := prog_11_method_25_code
def y_Md_loss : MethodName := ⟨RX9, "loss", "(I)J"⟩
abbrev w_Md_loss : List Cond := wsO y_Md_loss c_Md_loss 5 (some (.long))
abbrev c_Md_piecesTogether : ByteArray := prog_11_method_24_code
def y_Md_piecesTogether : MethodName := ⟨RX9, "piecesTogether", "()J"⟩
abbrev w_Md_piecesTogether : List Cond := wsO y_Md_piecesTogether c_Md_piecesTogether 4 (some (.long))
abbrev c_Md_bound : ByteArray := prog_11_method_26_code
def y_Md_bound : MethodName := ⟨RX9, "bound", "(I)J"⟩
abbrev w_Md_bound : List Cond := wsO y_Md_bound c_Md_bound 2 (some (.long))
abbrev c_Md_proved : ByteArray := prog_11_method_27_code
def y_Md_proved : MethodName := ⟨RX9, "proved", "()Z"⟩
abbrev w_Md_proved : List Cond := wsO y_Md_proved c_Md_proved 1 (some (.boolean))
abbrev c_Md_pattern : ByteArray := prog_11_method_28_code
def y_Md_pattern : MethodName := ⟨RX9, "pattern", "(II)I"⟩
abbrev w_Md_pattern : List Cond := wsO y_Md_pattern c_Md_pattern 3 (some (.int))
abbrev c_Md_place : ByteArray := prog_11_method_29_code
def y_Md_place : MethodName := ⟨RX9, "place", "(IJJJ)Z"⟩
abbrev w_Md_place : List Cond := wsO y_Md_place c_Md_place 8 (some (.boolean))
abbrev c_Md_command : ByteArray := prog_11_method_33_code
def y_Md_command : MethodName := ⟨RX9, "command", "(II)I"⟩
abbrev w_Md_command : List Cond := wsO y_Md_command c_Md_command 3 (some (.int))
abbrev c_Md_isTold : ByteArray := prog_11_method_30_code
def y_Md_isTold : MethodName := ⟨RX9, "isTold", "(I)Z"⟩
abbrev w_Md_isTold : List Cond := wsO y_Md_isTold c_Md_isTold 4 (some (.boolean))
abbrev c_Md_draw : ByteArray := prog_11_method_32_code
def y_Md_draw : MethodName := ⟨RX9, "draw", "(I)V"⟩
abbrev w_Md_draw : List Cond := wsO y_Md_draw c_Md_draw 5 none
abbrev c_Md_go : ByteArray := prog_11_method_31_code
def y_Md_go : MethodName := ⟨RX9, "go", "(IJZ)V"⟩
abbrev w_Md_go : List Cond := wsO y_Md_go c_Md_go 5 none
abbrev c_Md_clash : ByteArray := prog_11_method_36_code
def y_Md_clash : MethodName := ⟨RX9, "clash", "(II)I"⟩
abbrev w_Md_clash : List Cond := wsO y_Md_clash c_Md_clash 16 (some (.int))
abbrev c_Md_stretches : ByteArray := prog_11_method_34_code
def y_Md_stretches : MethodName := ⟨RX9, "stretches", "(II)I"⟩
abbrev w_Md_stretches : List Cond := wsO y_Md_stretches c_Md_stretches 13 (some (.int))
abbrev c_Md_gap : ByteArray := prog_11_method_35_code
def y_Md_gap : MethodName := ⟨RX9, "gap", "(JJJJ)J"⟩
abbrev w_Md_gap : List Cond := wsO y_Md_gap c_Md_gap 8 (some (.long))
abbrev c_Md_lap : ByteArray := prog_11_method_37_code
def y_Md_lap : MethodName := ⟨RX9, "lap", "(IJ)I"⟩
abbrev w_Md_lap : List Cond := wsO y_Md_lap c_Md_lap 10 (some (.int))
abbrev c_Md_weight : ByteArray := prog_11_method_38_code
def y_Md_weight : MethodName := ⟨RX9, "weight", "(II)J"⟩
abbrev w_Md_weight : List Cond := wsO y_Md_weight c_Md_weight 11 (some (.long))
abbrev c_Md_tag : ByteArray := prog_11_method_40_code
def y_Md_tag : MethodName := ⟨RX9, "tag", "(II)I"⟩
abbrev w_Md_tag : List Cond := wsO y_Md_tag c_Md_tag 5 (some (.int))
abbrev c_Md_sign : ByteArray := prog_11_method_39_code
def y_Md_sign : MethodName := ⟨RX9, "sign", "(I)V"⟩
abbrev w_Md_sign : List Cond := wsO y_Md_sign c_Md_sign 2 none
abbrev c_Md_differs : ByteArray := prog_11_method_42_code
def y_Md_differs : MethodName := ⟨RX9, "differs", "(III)I"⟩
abbrev w_Md_differs : List Cond := wsO y_Md_differs c_Md_differs 6 (some (.int))
abbrev c_Md_differ : ByteArray := prog_11_method_41_code
def y_Md_differ : MethodName := ⟨RX9, "differ", "(III)Z"⟩
abbrev w_Md_differ : List Cond := wsO y_Md_differ c_Md_differ 4 (some (.boolean))
abbrev c_Md_order : ByteArray := prog_11_method_44_code
def y_Md_order : MethodName := ⟨RX9, "order", "(I)I"⟩
abbrev w_Md_order : List Cond := wsO y_Md_order c_Md_order 5 (some (.int))
abbrev c_Md_isBentBefore : ByteArray := prog_11_method_43_code
def y_Md_isBentBefore : MethodName := ⟨RX9, "isBentBefore", "(II)Z"⟩
abbrev w_Md_isBentBefore : List Cond := wsO y_Md_isBentBefore c_Md_isBentBefore 3 (some (.boolean))
abbrev c_L_law : ByteArray := code
