abbrev R_J : String := "JointSolids"
def F_J : u_T := fun k => match k with
  | 0 => ("JointSolids", "parts", "[LJointSolids$Solid;", true)
  | 1 => ("JointSolids", "partCount", "I", false)
  | 2 => ("JointSolids", "stocks", "[I", true)
  | 3 => ("JointSolids", "joints", "[LJointSolids$Joint;", true)
  | 4 => ("JointSolids", "jointCount", "I", false)
  | 5 => ("JointSolids", "rows", "[I", true)
  | 6 => ("JointSolids", "clearance", "I", false)
  | 7 => ("JointSolids", "draftA", "LJointSolids$Solid;", true)
  | 8 => ("JointSolids", "draftB", "LJointSolids$Solid;", true)
  | 9 => ("JointSolids", "spare", "LJointSolids$Solid;", true)
  | 10 => ("JointSolids", "tool", "[I", true)
  | 11 => ("JointSolids", "rest", "[I", true)
  | 12 => ("JointSolids", "common", "[I", true)
  | _ => ("JointSolids", "marks", "[I", true)
def t_J : Nat → FieldType := fun k => match k with
  | 0 => .array (.object "JointSolids$Solid")
  | 1 => .int
  | 2 => .array .int
  | 3 => .array (.object "JointSolids$Joint")
  | 4 => .int
  | 5 => .array .int
  | 6 => .int
  | 7 => .object "JointSolids$Solid"
  | 8 => .object "JointSolids$Solid"
  | 9 => .object "JointSolids$Solid"
  | 10 => .array .int
  | 11 => .array .int
  | 12 => .array .int
  | _ => .array .int
abbrev R_S : String := "JointSolids$Solid"
def F_S : u_T := fun k => match k with
  | 0 => ("JointSolids$Solid", "boxes", "[I", true)
  | _ => ("JointSolids$Solid", "count", "I", false)
def t_S : Nat → FieldType := fun k => match k with
  | 0 => .array .int
  | _ => .int
abbrev R_K : String := "JointSolids$Joint"
def F_K : u_T := fun k => match k with
  | 0 => ("JointSolids$Joint", "kind", "I", true)
  | 1 => ("JointSolids$Joint", "a", "I", true)
  | 2 => ("JointSolids$Joint", "b", "I", true)
  | 3 => ("JointSolids$Joint", "axis", "I", true)
  | 4 => ("JointSolids$Joint", "lostA", "J", false)
  | _ => ("JointSolids$Joint", "lostB", "J", false)
def t_K : Nat → FieldType := fun k => match k with
  | 0 => .int
  | 1 => .int
  | 2 => .int
  | 3 => .int
  | 4 => .long
  | _ => .long
abbrev R_M : String := "JointSolidsModel"
def F_M : u_T := fun k => match k with
  | 0 => ("JointSolidsModel", "thrown", "I", false)
  | 1 => ("JointSolidsModel", "parts", "I", false)
  | 2 => ("JointSolidsModel", "stocks", "[I", true)
  | 3 => ("JointSolidsModel", "pieces", "[I", true)
  | 4 => ("JointSolidsModel", "many", "[I", true)
  | 5 => ("JointSolidsModel", "draft", "[I", true)
  | 6 => ("JointSolidsModel", "draftMany", "[I", true)
  | 7 => ("JointSolidsModel", "made", "[I", true)
  | 8 => ("JointSolidsModel", "box", "[I", true)
  | 9 => ("JointSolidsModel", "common", "[I", true)
  | 10 => ("JointSolidsModel", "clearance", "I", false)
  | 11 => ("JointSolidsModel", "joints", "I", false)
  | 12 => ("JointSolidsModel", "kinds", "[I", true)
  | 13 => ("JointSolidsModel", "firsts", "[I", true)
  | 14 => ("JointSolidsModel", "seconds", "[I", true)
  | 15 => ("JointSolidsModel", "axes", "[I", true)
  | 16 => ("JointSolidsModel", "lostFirst", "[J", true)
  | 17 => ("JointSolidsModel", "lostSecond", "[J", true)
  | _ => ("JointSolidsModel", "rows", "[I", true)
def t_M : Nat → FieldType := fun k => match k with
  | 0 => .int
  | 1 => .int
  | 2 => .array .int
  | 3 => .array .int
  | 4 => .array .int
  | 5 => .array .int
  | 6 => .array .int
  | 7 => .array .int
  | 8 => .array .int
  | 9 => .array .int
  | 10 => .int
  | 11 => .int
  | 12 => .array .int
  | 13 => .array .int
  | 14 => .array .int
  | 15 => .array .int
  | 16 => .array .long
  | 17 => .array .long
  | _ => .array .int
abbrev R_L : String := "JointSolidsLaw"
abbrev cls : List vw_C := [(R_S, F_S, 2), (R_J, F_J, 14), (R_K, F_K, 6), (R_M, F_M, 19)]
/-- the tables' words that every callee may ask for -/
def tB : List Cond := lw_tbl.filter goodWord
theorem tB_good {w : Cond} (h : w ∈ tB) : goodWord w = true := (List.mem_filter.mp h).2
theorem tB_in {w : Cond} (h : w ∈ tB) : w ∈ lw_tbl := (List.mem_filter.mp h).1
theorem gB {c : Cond} (h : c ∈ tB) : GoodIn tB (c :: tB) := fun w hw => (List.mem_cons.mp hw).elim (fun e => e ▸ ⟨h, good_of_word (tB_good h)⟩) (fun h2 => ⟨h2, good_of_word (tB_good h2)⟩)
theorem gV {own C : String} {idx : Nat} {y : MethodName} {ws : List Cond} (h1 : Cond.methodLink own idx y ∈ tB) (h2 : Cond.instanceMethod y ∈ tB) (h3 : Cond.selects C y y ∈ tB) (h4 : Cond.initialized C ∈ tB) (h : GoodIn tB ws) : GoodIn tB (wsV own idx C y ws) := by
  intro w hw
  rcases List.mem_append.mp hw with q | q
  · have : w ∈ tB := by simp only [List.mem_cons, List.not_mem_nil, or_false] at q; rcases q with rfl | rfl | rfl | rfl <;> assumption
    exact ⟨this, good_of_word (tB_good this)⟩
  · exact h w q
theorem gS {own : String} {idx : Nat} {y : MethodName} {ws : List Cond} (h1 : Cond.methodLink own idx y ∈ tB) (h2 : Cond.static y ∈ tB) (h4 : Cond.initialized y.cls ∈ tB) (h : GoodIn tB ws) : GoodIn tB (va_wsS own idx y ws) := by
  intro w hw
  rcases List.mem_append.mp hw with q | q
  · have : w ∈ tB := by simp only [List.mem_cons, List.not_mem_nil, or_false] at q; rcases q with rfl | rfl | rfl <;> assumption
    exact ⟨this, good_of_word (tB_good this)⟩
  · exact h w q
theorem ks_0_0 : Cond.selects "JointSolids" ⟨"JointSolids", "solidOf", "(I)LJointSolids$Solid;"⟩ ⟨"JointSolids", "solidOf", "(I)LJointSolids$Solid;"⟩ ∈ tB := List.mem_filter.mpr ⟨List.mem_append_left _ (List.mem_map.mpr ⟨(⟨"JointSolids", "solidOf", "(I)LJointSolids$Solid;"⟩, 14), List.mem_append_left _ (List.mem_of_getElem? (i := 0) rfl), rfl⟩), rfl⟩
theorem ks_0_1 : Cond.selects "java/lang/Throwable" ⟨"java/lang/Throwable", "fillInStackTrace", "(I)Ljava/lang/Throwable;"⟩ ⟨"java/lang/Throwable", "fillInStackTrace", "(I)Ljava/lang/Throwable;"⟩ ∈ tB := List.mem_filter.mpr ⟨List.mem_append_left _ (List.mem_map.mpr ⟨(⟨"java/lang/Throwable", "fillInStackTrace", "(I)Ljava/lang/Throwable;"⟩, 6), List.mem_append_left _ (List.mem_of_getElem? (i := 1) rfl), rfl⟩), rfl⟩
theorem ks_0_2 : Cond.selects "JointSolids" ⟨"JointSolids", "setTool", "(IIIIII)V"⟩ ⟨"JointSolids", "setTool", "(IIIIII)V"⟩ ∈ tB := List.mem_filter.mpr ⟨List.mem_append_left _ (List.mem_map.mpr ⟨(⟨"JointSolids", "setTool", "(IIIIII)V"⟩, 14), List.mem_append_left _ (List.mem_of_getElem? (i := 2) rfl), rfl⟩), rfl⟩
theorem ks_0_3 : Cond.selects "JointSolids$Solid" ⟨"JointSolids$Solid", "add", "([II)V"⟩ ⟨"JointSolids$Solid", "add", "([II)V"⟩ ∈ tB := List.mem_filter.mpr ⟨List.mem_append_left _ (List.mem_map.mpr ⟨(⟨"JointSolids$Solid", "add", "([II)V"⟩, 2), List.mem_append_left _ (List.mem_of_getElem? (i := 3) rfl), rfl⟩), rfl⟩
theorem ks_0_4 : Cond.selects "JointSolids$Solid" ⟨"JointSolids$Solid", "total", "()J"⟩ ⟨"JointSolids$Solid", "total", "()J"⟩ ∈ tB := List.mem_filter.mpr ⟨List.mem_append_left _ (List.mem_map.mpr ⟨(⟨"JointSolids$Solid", "total", "()J"⟩, 2), List.mem_append_left _ (List.mem_of_getElem? (i := 4) rfl), rfl⟩), rfl⟩
theorem ks_0_5 : Cond.selects "JointSolids" ⟨"JointSolids", "carve", "(LJointSolids$Solid;)Z"⟩ ⟨"JointSolids", "carve", "(LJointSolids$Solid;)Z"⟩ ∈ tB := List.mem_filter.mpr ⟨List.mem_append_left _ (List.mem_map.mpr ⟨(⟨"JointSolids", "carve", "(LJointSolids$Solid;)Z"⟩, 14), List.mem_append_left _ (List.mem_of_getElem? (i := 5) rfl), rfl⟩), rfl⟩
theorem ks_0_6 : Cond.selects "JointSolids$Solid" ⟨"JointSolids$Solid", "empty", "()V"⟩ ⟨"JointSolids$Solid", "empty", "()V"⟩ ∈ tB := List.mem_filter.mpr ⟨List.mem_append_left _ (List.mem_map.mpr ⟨(⟨"JointSolids$Solid", "empty", "()V"⟩, 2), List.mem_append_left _ (List.mem_of_getElem? (i := 6) rfl), rfl⟩), rfl⟩
theorem ks_0_7 : Cond.selects "JointSolids" ⟨"JointSolids", "addRest", "(LJointSolids$Solid;I)V"⟩ ⟨"JointSolids", "addRest", "(LJointSolids$Solid;I)V"⟩ ∈ tB := List.mem_filter.mpr ⟨List.mem_append_left _ (List.mem_map.mpr ⟨(⟨"JointSolids", "addRest", "(LJointSolids$Solid;I)V"⟩, 14), List.mem_append_left _ (List.mem_of_getElem? (i := 7) rfl), rfl⟩), rfl⟩
theorem ks_0_8 : Cond.selects "JointSolids" ⟨"JointSolids", "addSlab", "(III)V"⟩ ⟨"JointSolids", "addSlab", "(III)V"⟩ ∈ tB := List.mem_filter.mpr ⟨List.mem_append_left _ (List.mem_map.mpr ⟨(⟨"JointSolids", "addSlab", "(III)V"⟩, 14), List.mem_append_left _ (List.mem_of_getElem? (i := 8) rfl), rfl⟩), rfl⟩
theorem ks_0_9 : Cond.selects "JointSolids$Solid" ⟨"JointSolids$Solid", "copy", "(LJointSolids$Solid;)V"⟩ ⟨"JointSolids$Solid", "copy", "(LJointSolids$Solid;)V"⟩ ∈ tB := List.mem_filter.mpr ⟨List.mem_append_left _ (List.mem_map.mpr ⟨(⟨"JointSolids$Solid", "copy", "(LJointSolids$Solid;)V"⟩, 2), List.mem_append_left _ (List.mem_of_getElem? (i := 9) rfl), rfl⟩), rfl⟩
theorem ks_0_10 : Cond.selects "JointSolids" ⟨"JointSolids", "findCommon", "(II)Z"⟩ ⟨"JointSolids", "findCommon", "(II)Z"⟩ ∈ tB := List.mem_filter.mpr ⟨List.mem_append_left _ (List.mem_map.mpr ⟨(⟨"JointSolids", "findCommon", "(II)Z"⟩, 14), List.mem_append_left _ (List.mem_of_getElem? (i := 10) rfl), rfl⟩), rfl⟩
theorem ks_0_11 : Cond.selects "JointSolids" ⟨"JointSolids", "markSpans", "(III)I"⟩ ⟨"JointSolids", "markSpans", "(III)I"⟩ ∈ tB := List.mem_filter.mpr ⟨List.mem_append_left _ (List.mem_map.mpr ⟨(⟨"JointSolids", "markSpans", "(III)I"⟩, 14), List.mem_append_left _ (List.mem_of_getElem? (i := 11) rfl), rfl⟩), rfl⟩
theorem ks_0_12 : Cond.selects "JointSolids" ⟨"JointSolids", "carveSpans", "(III)Z"⟩ ⟨"JointSolids", "carveSpans", "(III)Z"⟩ ∈ tB := List.mem_filter.mpr ⟨List.mem_append_left _ (List.mem_map.mpr ⟨(⟨"JointSolids", "carveSpans", "(III)Z"⟩, 14), List.mem_append_left _ (List.mem_of_getElem? (i := 12) rfl), rfl⟩), rfl⟩
theorem ks_0_13 : Cond.selects "JointSolids" ⟨"JointSolids", "setSpan", "(IIII)V"⟩ ⟨"JointSolids", "setSpan", "(IIII)V"⟩ ∈ tB := List.mem_filter.mpr ⟨List.mem_append_left _ (List.mem_map.mpr ⟨(⟨"JointSolids", "setSpan", "(IIII)V"⟩, 14), List.mem_append_left _ (List.mem_of_getElem? (i := 13) rfl), rfl⟩), rfl⟩
theorem ks_0_14 : Cond.selects "JointSolids$Solid" ⟨"JointSolids$Solid", "holds", "(III)Z"⟩ ⟨"JointSolids$Solid", "holds", "(III)Z"⟩ ∈ tB := List.mem_filter.mpr ⟨List.mem_append_left _ (List.mem_map.mpr ⟨(⟨"JointSolids$Solid", "holds", "(III)Z"⟩, 2), List.mem_append_left _ (List.mem_of_getElem? (i := 14) rfl), rfl⟩), rfl⟩
theorem ks_0_15 : Cond.selects "JointSolids" ⟨"JointSolids", "jointOf", "(I)LJointSolids$Joint;"⟩ ⟨"JointSolids", "jointOf", "(I)LJointSolids$Joint;"⟩ ∈ tB := List.mem_filter.mpr ⟨List.mem_append_left _ (List.mem_map.mpr ⟨(⟨"JointSolids", "jointOf", "(I)LJointSolids$Joint;"⟩, 14), List.mem_append_left _ (List.mem_of_getElem? (i := 15) rfl), rfl⟩), rfl⟩
theorem ks_1_0 : Cond.selects "JointSolidsModel" ⟨"JointSolidsModel", "tell", "(IIIIII)V"⟩ ⟨"JointSolidsModel", "tell", "(IIIIII)V"⟩ ∈ tB := List.mem_filter.mpr ⟨List.mem_append_left _ (List.mem_map.mpr ⟨(⟨"JointSolidsModel", "tell", "(IIIIII)V"⟩, 19), List.mem_append_right _ (List.mem_of_getElem? (i := 0) rfl), rfl⟩), rfl⟩
theorem ks_1_1 : Cond.selects "JointSolidsModel" ⟨"JointSolidsModel", "noPart", "(I)Z"⟩ ⟨"JointSolidsModel", "noPart", "(I)Z"⟩ ∈ tB := List.mem_filter.mpr ⟨List.mem_append_left _ (List.mem_map.mpr ⟨(⟨"JointSolidsModel", "noPart", "(I)Z"⟩, 19), List.mem_append_right _ (List.mem_of_getElem? (i := 1) rfl), rfl⟩), rfl⟩
theorem ks_1_2 : Cond.selects "JointSolidsModel" ⟨"JointSolidsModel", "load", "(II)V"⟩ ⟨"JointSolidsModel", "load", "(II)V"⟩ ∈ tB := List.mem_filter.mpr ⟨List.mem_append_left _ (List.mem_map.mpr ⟨(⟨"JointSolidsModel", "load", "(II)V"⟩, 19), List.mem_append_right _ (List.mem_of_getElem? (i := 2) rfl), rfl⟩), rfl⟩
theorem ks_1_3 : Cond.selects "JointSolidsModel" ⟨"JointSolidsModel", "pareAll", "(I)I"⟩ ⟨"JointSolidsModel", "pareAll", "(I)I"⟩ ∈ tB := List.mem_filter.mpr ⟨List.mem_append_left _ (List.mem_map.mpr ⟨(⟨"JointSolidsModel", "pareAll", "(I)I"⟩, 19), List.mem_append_right _ (List.mem_of_getElem? (i := 3) rfl), rfl⟩), rfl⟩
theorem ks_1_4 : Cond.selects "JointSolidsModel" ⟨"JointSolidsModel", "meets", "(I)Z"⟩ ⟨"JointSolidsModel", "meets", "(I)Z"⟩ ∈ tB := List.mem_filter.mpr ⟨List.mem_append_left _ (List.mem_map.mpr ⟨(⟨"JointSolidsModel", "meets", "(I)Z"⟩, 19), List.mem_append_right _ (List.mem_of_getElem? (i := 4) rfl), rfl⟩), rfl⟩
theorem ks_1_5 : Cond.selects "JointSolidsModel" ⟨"JointSolidsModel", "pare", "(II)I"⟩ ⟨"JointSolidsModel", "pare", "(II)I"⟩ ∈ tB := List.mem_filter.mpr ⟨List.mem_append_left _ (List.mem_map.mpr ⟨(⟨"JointSolidsModel", "pare", "(II)I"⟩, 19), List.mem_append_right _ (List.mem_of_getElem? (i := 5) rfl), rfl⟩), rfl⟩
theorem ks_1_6 : Cond.selects "JointSolidsModel" ⟨"JointSolidsModel", "store", "(II)V"⟩ ⟨"JointSolidsModel", "store", "(II)V"⟩ ∈ tB := List.mem_filter.mpr ⟨List.mem_append_left _ (List.mem_map.mpr ⟨(⟨"JointSolidsModel", "store", "(II)V"⟩, 19), List.mem_append_right _ (List.mem_of_getElem? (i := 6) rfl), rfl⟩), rfl⟩
theorem ks_1_7 : Cond.selects "JointSolidsModel" ⟨"JointSolidsModel", "hasCommon", "(II)Z"⟩ ⟨"JointSolidsModel", "hasCommon", "(II)Z"⟩ ∈ tB := List.mem_filter.mpr ⟨List.mem_append_left _ (List.mem_map.mpr ⟨(⟨"JointSolidsModel", "hasCommon", "(II)Z"⟩, 19), List.mem_append_right _ (List.mem_of_getElem? (i := 7) rfl), rfl⟩), rfl⟩
theorem ks_1_8 : Cond.selects "JointSolidsModel" ⟨"JointSolidsModel", "shape", "(III)Z"⟩ ⟨"JointSolidsModel", "shape", "(III)Z"⟩ ∈ tB := List.mem_filter.mpr ⟨List.mem_append_left _ (List.mem_map.mpr ⟨(⟨"JointSolidsModel", "shape", "(III)Z"⟩, 19), List.mem_append_right _ (List.mem_of_getElem? (i := 8) rfl), rfl⟩), rfl⟩
theorem ks_1_9 : Cond.selects "JointSolidsModel" ⟨"JointSolidsModel", "loses", "(IIII)Z"⟩ ⟨"JointSolidsModel", "loses", "(IIII)Z"⟩ ∈ tB := List.mem_filter.mpr ⟨List.mem_append_left _ (List.mem_map.mpr ⟨(⟨"JointSolidsModel", "loses", "(IIII)Z"⟩, 19), List.mem_append_right _ (List.mem_of_getElem? (i := 9) rfl), rfl⟩), rfl⟩
theorem ks_1_10 : Cond.selects "JointSolidsModel" ⟨"JointSolidsModel", "volumeOf", "(I)J"⟩ ⟨"JointSolidsModel", "volumeOf", "(I)J"⟩ ∈ tB := List.mem_filter.mpr ⟨List.mem_append_left _ (List.mem_map.mpr ⟨(⟨"JointSolidsModel", "volumeOf", "(I)J"⟩, 19), List.mem_append_right _ (List.mem_of_getElem? (i := 10) rfl), rfl⟩), rfl⟩
theorem ks_1_11 : Cond.selects "JointSolidsModel" ⟨"JointSolidsModel", "pair", "(II)I"⟩ ⟨"JointSolidsModel", "pair", "(II)I"⟩ ∈ tB := List.mem_filter.mpr ⟨List.mem_append_left _ (List.mem_map.mpr ⟨(⟨"JointSolidsModel", "pair", "(II)I"⟩, 19), List.mem_append_right _ (List.mem_of_getElem? (i := 11) rfl), rfl⟩), rfl⟩
theorem ks_1_12 : Cond.selects "JointSolidsModel" ⟨"JointSolidsModel", "overlapOf", "(II)J"⟩ ⟨"JointSolidsModel", "overlapOf", "(II)J"⟩ ∈ tB := List.mem_filter.mpr ⟨List.mem_append_left _ (List.mem_map.mpr ⟨(⟨"JointSolidsModel", "overlapOf", "(II)J"⟩, 19), List.mem_append_right _ (List.mem_of_getElem? (i := 12) rfl), rfl⟩), rfl⟩
theorem ks_1_13 : Cond.selects "JointSolidsModel" ⟨"JointSolidsModel", "span", "(III)J"⟩ ⟨"JointSolidsModel", "span", "(III)J"⟩ ∈ tB := List.mem_filter.mpr ⟨List.mem_append_left _ (List.mem_map.mpr ⟨(⟨"JointSolidsModel", "span", "(III)J"⟩, 19), List.mem_append_right _ (List.mem_of_getElem? (i := 13) rfl), rfl⟩), rfl⟩
theorem ks_1_14 : Cond.selects "JointSolidsModel" ⟨"JointSolidsModel", "touchOf", "(II)J"⟩ ⟨"JointSolidsModel", "touchOf", "(II)J"⟩ ∈ tB := List.mem_filter.mpr ⟨List.mem_append_left _ (List.mem_map.mpr ⟨(⟨"JointSolidsModel", "touchOf", "(II)J"⟩, 19), List.mem_append_right _ (List.mem_of_getElem? (i := 14) rfl), rfl⟩), rfl⟩
theorem ks_1_15 : Cond.selects "JointSolidsModel" ⟨"JointSolidsModel", "noJoint", "(I)Z"⟩ ⟨"JointSolidsModel", "noJoint", "(I)Z"⟩ ∈ tB := List.mem_filter.mpr ⟨List.mem_append_left _ (List.mem_map.mpr ⟨(⟨"JointSolidsModel", "noJoint", "(I)Z"⟩, 19), List.mem_append_right _ (List.mem_of_getElem? (i := 15) rfl), rfl⟩), rfl⟩
theorem kw_0 : Jvm.Cond.initialized "JointSolidsLaw" ∈ tB := List.mem_filter.mpr ⟨List.mem_append_right _ (List.mem_append_left _ (List.mem_of_getElem? (i := 0) rfl)), rfl⟩
theorem kw_1 : Jvm.Cond.initialized "JointSolids" ∈ tB := List.mem_filter.mpr ⟨List.mem_append_right _ (List.mem_append_left _ (List.mem_of_getElem? (i := 1) rfl)), rfl⟩
theorem kw_2 : Jvm.Cond.initialized "JointSolids$Solid" ∈ tB := List.mem_filter.mpr ⟨List.mem_append_right _ (List.mem_append_left _ (List.mem_of_getElem? (i := 2) rfl)), rfl⟩
theorem kw_3 : Jvm.Cond.initialized "JointSolidsModel" ∈ tB := List.mem_filter.mpr ⟨List.mem_append_right _ (List.mem_append_left _ (List.mem_of_getElem? (i := 3) rfl)), rfl⟩
theorem kw_4 : Jvm.Cond.initialized "java/lang/Math" ∈ tB := List.mem_filter.mpr ⟨List.mem_append_right _ (List.mem_append_left _ (List.mem_of_getElem? (i := 4) rfl)), rfl⟩
theorem kw_5 : Jvm.Cond.initialized "java/lang/Throwable" ∈ tB := List.mem_filter.mpr ⟨List.mem_append_right _ (List.mem_append_left _ (List.mem_of_getElem? (i := 5) rfl)), rfl⟩
theorem kw_6 : Jvm.Cond.initialized "java/lang/Exception" ∈ tB := List.mem_filter.mpr ⟨List.mem_append_right _ (List.mem_append_left _ (List.mem_of_getElem? (i := 6) rfl)), rfl⟩
theorem kw_7 : Jvm.Cond.initialized "java/lang/RuntimeException" ∈ tB := List.mem_filter.mpr ⟨List.mem_append_right _ (List.mem_append_left _ (List.mem_of_getElem? (i := 7) rfl)), rfl⟩
theorem kw_8 : Jvm.Cond.initialized "java/lang/IllegalArgumentException" ∈ tB := List.mem_filter.mpr ⟨List.mem_append_right _ (List.mem_append_left _ (List.mem_of_getElem? (i := 8) rfl)), rfl⟩
theorem kw_9 : Jvm.Cond.initialized "java/lang/IllegalStateException" ∈ tB := List.mem_filter.mpr ⟨List.mem_append_right _ (List.mem_append_left _ (List.mem_of_getElem? (i := 9) rfl)), rfl⟩
theorem kw_10 : Jvm.Cond.initialized "java/lang/System" ∈ tB := List.mem_filter.mpr ⟨List.mem_append_right _ (List.mem_append_left _ (List.mem_of_getElem? (i := 10) rfl)), rfl⟩
theorem kw_11 : Jvm.Cond.initialized "java/lang/IndexOutOfBoundsException" ∈ tB := List.mem_filter.mpr ⟨List.mem_append_right _ (List.mem_append_left _ (List.mem_of_getElem? (i := 11) rfl)), rfl⟩
theorem kw_12 : Jvm.Cond.initialized "JointSolids$Joint" ∈ tB := List.mem_filter.mpr ⟨List.mem_append_right _ (List.mem_append_left _ (List.mem_of_getElem? (i := 12) rfl)), rfl⟩
theorem kw_13 : Jvm.Cond.classLink "JointSolidsLaw" (8 : Nat) "JointSolids" ∈ tB := List.mem_filter.mpr ⟨List.mem_append_right _ (List.mem_append_left _ (List.mem_of_getElem? (i := 13) rfl)), rfl⟩
theorem kw_14 : Jvm.Cond.instantiable "JointSolids" (14 : Nat) ∈ tB := List.mem_filter.mpr ⟨List.mem_append_right _ (List.mem_append_left _ (List.mem_of_getElem? (i := 14) rfl)), rfl⟩
theorem kw_15 : Jvm.Cond.methodLink "JointSolidsLaw" (64 : Nat) ({ cls := "JointSolids", name := "<init>", desc := "()V" } : Jvm.MethodName) ∈ tB := List.mem_filter.mpr ⟨List.mem_append_right _ (List.mem_append_left _ (List.mem_of_getElem? (i := 15) rfl)), rfl⟩
theorem kw_16 : Jvm.Cond.instanceMethod ({ cls := "JointSolids", name := "<init>", desc := "()V" } : Jvm.MethodName) ∈ tB := List.mem_filter.mpr ⟨List.mem_append_right _ (List.mem_append_left _ (List.mem_of_getElem? (i := 16) rfl)), rfl⟩
theorem kw_17 : Jvm.Cond.code ({ cls := "JointSolids", name := "<init>", desc := "()V" } : Jvm.MethodName) prog_1_method_1_code (1 : Nat) (Option.none : Option Jvm.ClassFile.FieldType) ∈ tB := List.mem_filter.mpr ⟨List.mem_append_right _ (List.mem_append_left _ (List.mem_of_getElem? (i := 17) rfl)), rfl⟩
theorem kw_18 : Jvm.Cond.methodLink "JointSolids" (1 : Nat) ({ cls := "java/lang/Object", name := "<init>", desc := "()V" } : Jvm.MethodName) ∈ tB := List.mem_filter.mpr ⟨List.mem_append_right _ (List.mem_append_left _ (List.mem_of_getElem? (i := 18) rfl)), rfl⟩
theorem kw_19 : Jvm.Cond.instanceMethod ({ cls := "java/lang/Object", name := "<init>", desc := "()V" } : Jvm.MethodName) ∈ tB := List.mem_filter.mpr ⟨List.mem_append_right _ (List.mem_append_left _ (List.mem_of_getElem? (i := 19) rfl)), rfl⟩
theorem kw_20 : Jvm.Cond.code ({ cls := "java/lang/Object", name := "<init>", desc := "()V" } : Jvm.MethodName) object_method_1_code (1 : Nat) (Option.none : Option Jvm.ClassFile.FieldType) ∈ tB := List.mem_filter.mpr ⟨List.mem_append_right _ (List.mem_append_left _ (List.mem_of_getElem? (i := 20) rfl)), rfl⟩
theorem kw_21 : Jvm.Cond.classLink "JointSolids" (9 : Nat) "JointSolids$Solid" ∈ tB := List.mem_filter.mpr ⟨List.mem_append_right _ (List.mem_append_left _ (List.mem_of_getElem? (i := 21) rfl)), rfl⟩
theorem kw_23 : Jvm.Cond.classLink "JointSolids" (19 : Nat) "JointSolids$Joint" ∈ tB := List.mem_filter.mpr ⟨List.mem_append_right _ (List.mem_append_left _ (List.mem_of_getElem? (i := 23) rfl)), rfl⟩
theorem kw_25 : Jvm.Cond.instantiable "JointSolids$Solid" (2 : Nat) ∈ tB := List.mem_filter.mpr ⟨List.mem_append_right _ (List.mem_append_left _ (List.mem_of_getElem? (i := 25) rfl)), rfl⟩
theorem kw_27 : Jvm.Cond.instanceMethod ({ cls := "JointSolids$Solid", name := "<init>", desc := "()V" } : Jvm.MethodName) ∈ tB := List.mem_filter.mpr ⟨List.mem_append_right _ (List.mem_append_left _ (List.mem_of_getElem? (i := 27) rfl)), rfl⟩
theorem kw_28 : Jvm.Cond.code ({ cls := "JointSolids$Solid", name := "<init>", desc := "()V" } : Jvm.MethodName) prog_3_method_1_code (1 : Nat) (Option.none : Option Jvm.ClassFile.FieldType) ∈ tB := List.mem_filter.mpr ⟨List.mem_append_right _ (List.mem_append_left _ (List.mem_of_getElem? (i := 28) rfl)), rfl⟩
theorem kw_29 : Jvm.Cond.methodLink "JointSolids$Solid" (3 : Nat) ({ cls := "java/lang/Object", name := "<init>", desc := "()V" } : Jvm.MethodName) ∈ tB := List.mem_filter.mpr ⟨List.mem_append_right _ (List.mem_append_left _ (List.mem_of_getElem? (i := 29) rfl)), rfl⟩
theorem kw_30 : Jvm.Cond.fieldLink "JointSolids$Solid" (9 : Nat) "JointSolids$Solid" "boxes" "[I" ∈ tB := List.mem_filter.mpr ⟨List.mem_append_right _ (List.mem_append_left _ (List.mem_of_getElem? (i := 30) rfl)), rfl⟩
theorem kw_32 : Jvm.Cond.fieldLink "JointSolids$Solid" (15 : Nat) "JointSolids$Solid" "count" "I" ∈ tB := List.mem_filter.mpr ⟨List.mem_append_right _ (List.mem_append_left _ (List.mem_of_getElem? (i := 32) rfl)), rfl⟩
theorem kw_34 : Jvm.Cond.laysFinal "JointSolids$Solid" "JointSolids$Solid" "boxes" "[I" ∈ tB := List.mem_filter.mpr ⟨List.mem_append_right _ (List.mem_append_left _ (List.mem_of_getElem? (i := 34) rfl)), rfl⟩
theorem kw_35 : Jvm.Cond.soleField "JointSolids$Solid" "boxes" ∈ tB := List.mem_filter.mpr ⟨List.mem_append_right _ (List.mem_append_left _ (List.mem_of_getElem? (i := 35) rfl)), rfl⟩
theorem kw_36 : Jvm.Cond.lays "JointSolids$Solid" "JointSolids$Solid" "count" "I" ∈ tB := List.mem_filter.mpr ⟨List.mem_append_right _ (List.mem_append_left _ (List.mem_of_getElem? (i := 36) rfl)), rfl⟩
theorem kw_37 : Jvm.Cond.soleField "JointSolids$Solid" "count" ∈ tB := List.mem_filter.mpr ⟨List.mem_append_right _ (List.mem_append_left _ (List.mem_of_getElem? (i := 37) rfl)), rfl⟩
theorem kw_38 : Jvm.Cond.superclass "JointSolids$Solid" "java/lang/Object" ∈ tB := List.mem_filter.mpr ⟨List.mem_append_right _ (List.mem_append_left _ (List.mem_of_getElem? (i := 38) rfl)), rfl⟩
theorem kw_39 : Jvm.Cond.arrayClass Jvm.ClassFile.FieldType.int ∈ tB := List.mem_filter.mpr ⟨List.mem_append_right _ (List.mem_append_left _ (List.mem_of_getElem? (i := 39) rfl)), rfl⟩
theorem kw_40 : Jvm.Cond.fieldLink "JointSolids" (11 : Nat) "JointSolids" "parts" "[LJointSolids$Solid;" ∈ tB := List.mem_filter.mpr ⟨List.mem_append_right _ (List.mem_append_left _ (List.mem_of_getElem? (i := 40) rfl)), rfl⟩
theorem kw_41 : Jvm.Cond.fieldLink "JointSolids" (58 : Nat) "JointSolids" "partCount" "I" ∈ tB := List.mem_filter.mpr ⟨List.mem_append_right _ (List.mem_append_left _ (List.mem_of_getElem? (i := 41) rfl)), rfl⟩
theorem kw_42 : Jvm.Cond.fieldLink "JointSolids" (15 : Nat) "JointSolids" "stocks" "[I" ∈ tB := List.mem_filter.mpr ⟨List.mem_append_right _ (List.mem_append_left _ (List.mem_of_getElem? (i := 42) rfl)), rfl⟩
theorem kw_43 : Jvm.Cond.fieldLink "JointSolids" (21 : Nat) "JointSolids" "joints" "[LJointSolids$Joint;" ∈ tB := List.mem_filter.mpr ⟨List.mem_append_right _ (List.mem_append_left _ (List.mem_of_getElem? (i := 43) rfl)), rfl⟩
theorem kw_44 : Jvm.Cond.fieldLink "JointSolids" (119 : Nat) "JointSolids" "jointCount" "I" ∈ tB := List.mem_filter.mpr ⟨List.mem_append_right _ (List.mem_append_left _ (List.mem_of_getElem? (i := 44) rfl)), rfl⟩
theorem kw_45 : Jvm.Cond.fieldLink "JointSolids" (25 : Nat) "JointSolids" "rows" "[I" ∈ tB := List.mem_filter.mpr ⟨List.mem_append_right _ (List.mem_append_left _ (List.mem_of_getElem? (i := 45) rfl)), rfl⟩
theorem kw_46 : Jvm.Cond.fieldLink "JointSolids" (102 : Nat) "JointSolids" "clearance" "I" ∈ tB := List.mem_filter.mpr ⟨List.mem_append_right _ (List.mem_append_left _ (List.mem_of_getElem? (i := 46) rfl)), rfl⟩
theorem kw_47 : Jvm.Cond.fieldLink "JointSolids" (29 : Nat) "JointSolids" "draftA" "LJointSolids$Solid;" ∈ tB := List.mem_filter.mpr ⟨List.mem_append_right _ (List.mem_append_left _ (List.mem_of_getElem? (i := 47) rfl)), rfl⟩
theorem kw_48 : Jvm.Cond.fieldLink "JointSolids" (33 : Nat) "JointSolids" "draftB" "LJointSolids$Solid;" ∈ tB := List.mem_filter.mpr ⟨List.mem_append_right _ (List.mem_append_left _ (List.mem_of_getElem? (i := 48) rfl)), rfl⟩
theorem kw_49 : Jvm.Cond.fieldLink "JointSolids" (36 : Nat) "JointSolids" "spare" "LJointSolids$Solid;" ∈ tB := List.mem_filter.mpr ⟨List.mem_append_right _ (List.mem_append_left _ (List.mem_of_getElem? (i := 49) rfl)), rfl⟩
theorem kw_50 : Jvm.Cond.fieldLink "JointSolids" (39 : Nat) "JointSolids" "tool" "[I" ∈ tB := List.mem_filter.mpr ⟨List.mem_append_right _ (List.mem_append_left _ (List.mem_of_getElem? (i := 50) rfl)), rfl⟩
theorem kw_51 : Jvm.Cond.fieldLink "JointSolids" (42 : Nat) "JointSolids" "rest" "[I" ∈ tB := List.mem_filter.mpr ⟨List.mem_append_right _ (List.mem_append_left _ (List.mem_of_getElem? (i := 51) rfl)), rfl⟩
theorem kw_52 : Jvm.Cond.fieldLink "JointSolids" (45 : Nat) "JointSolids" "common" "[I" ∈ tB := List.mem_filter.mpr ⟨List.mem_append_right _ (List.mem_append_left _ (List.mem_of_getElem? (i := 52) rfl)), rfl⟩
theorem kw_53 : Jvm.Cond.fieldLink "JointSolids" (48 : Nat) "JointSolids" "marks" "[I" ∈ tB := List.mem_filter.mpr ⟨List.mem_append_right _ (List.mem_append_left _ (List.mem_of_getElem? (i := 53) rfl)), rfl⟩
theorem kw_54 : Jvm.Cond.laysFinal "JointSolids" "JointSolids" "parts" "[LJointSolids$Solid;" ∈ tB := List.mem_filter.mpr ⟨List.mem_append_right _ (List.mem_append_left _ (List.mem_of_getElem? (i := 54) rfl)), rfl⟩
theorem kw_55 : Jvm.Cond.soleField "JointSolids" "parts" ∈ tB := List.mem_filter.mpr ⟨List.mem_append_right _ (List.mem_append_left _ (List.mem_of_getElem? (i := 55) rfl)), rfl⟩
theorem kw_56 : Jvm.Cond.lays "JointSolids" "JointSolids" "partCount" "I" ∈ tB := List.mem_filter.mpr ⟨List.mem_append_right _ (List.mem_append_left _ (List.mem_of_getElem? (i := 56) rfl)), rfl⟩
theorem kw_57 : Jvm.Cond.soleField "JointSolids" "partCount" ∈ tB := List.mem_filter.mpr ⟨List.mem_append_right _ (List.mem_append_left _ (List.mem_of_getElem? (i := 57) rfl)), rfl⟩
theorem kw_58 : Jvm.Cond.laysFinal "JointSolids" "JointSolids" "stocks" "[I" ∈ tB := List.mem_filter.mpr ⟨List.mem_append_right _ (List.mem_append_left _ (List.mem_of_getElem? (i := 58) rfl)), rfl⟩
theorem kw_59 : Jvm.Cond.soleField "JointSolids" "stocks" ∈ tB := List.mem_filter.mpr ⟨List.mem_append_right _ (List.mem_append_left _ (List.mem_of_getElem? (i := 59) rfl)), rfl⟩
theorem kw_60 : Jvm.Cond.laysFinal "JointSolids" "JointSolids" "joints" "[LJointSolids$Joint;" ∈ tB := List.mem_filter.mpr ⟨List.mem_append_right _ (List.mem_append_left _ (List.mem_of_getElem? (i := 60) rfl)), rfl⟩
theorem kw_61 : Jvm.Cond.soleField "JointSolids" "joints" ∈ tB := List.mem_filter.mpr ⟨List.mem_append_right _ (List.mem_append_left _ (List.mem_of_getElem? (i := 61) rfl)), rfl⟩
theorem kw_62 : Jvm.Cond.lays "JointSolids" "JointSolids" "jointCount" "I" ∈ tB := List.mem_filter.mpr ⟨List.mem_append_right _ (List.mem_append_left _ (List.mem_of_getElem? (i := 62) rfl)), rfl⟩
theorem kw_63 : Jvm.Cond.soleField "JointSolids" "jointCount" ∈ tB := List.mem_filter.mpr ⟨List.mem_append_right _ (List.mem_append_left _ (List.mem_of_getElem? (i := 63) rfl)), rfl⟩
theorem kw_64 : Jvm.Cond.laysFinal "JointSolids" "JointSolids" "rows" "[I" ∈ tB := List.mem_filter.mpr ⟨List.mem_append_right _ (List.mem_append_left _ (List.mem_of_getElem? (i := 64) rfl)), rfl⟩
theorem kw_65 : Jvm.Cond.soleField "JointSolids" "rows" ∈ tB := List.mem_filter.mpr ⟨List.mem_append_right _ (List.mem_append_left _ (List.mem_of_getElem? (i := 65) rfl)), rfl⟩
theorem kw_66 : Jvm.Cond.lays "JointSolids" "JointSolids" "clearance" "I" ∈ tB := List.mem_filter.mpr ⟨List.mem_append_right _ (List.mem_append_left _ (List.mem_of_getElem? (i := 66) rfl)), rfl⟩
theorem kw_67 : Jvm.Cond.soleField "JointSolids" "clearance" ∈ tB := List.mem_filter.mpr ⟨List.mem_append_right _ (List.mem_append_left _ (List.mem_of_getElem? (i := 67) rfl)), rfl⟩
theorem kw_68 : Jvm.Cond.laysFinal "JointSolids" "JointSolids" "draftA" "LJointSolids$Solid;" ∈ tB := List.mem_filter.mpr ⟨List.mem_append_right _ (List.mem_append_left _ (List.mem_of_getElem? (i := 68) rfl)), rfl⟩
theorem kw_69 : Jvm.Cond.soleField "JointSolids" "draftA" ∈ tB := List.mem_filter.mpr ⟨List.mem_append_right _ (List.mem_append_left _ (List.mem_of_getElem? (i := 69) rfl)), rfl⟩
theorem kw_70 : Jvm.Cond.laysFinal "JointSolids" "JointSolids" "draftB" "LJointSolids$Solid;" ∈ tB := List.mem_filter.mpr ⟨List.mem_append_right _ (List.mem_append_left _ (List.mem_of_getElem? (i := 70) rfl)), rfl⟩
theorem kw_71 : Jvm.Cond.soleField "JointSolids" "draftB" ∈ tB := List.mem_filter.mpr ⟨List.mem_append_right _ (List.mem_append_left _ (List.mem_of_getElem? (i := 71) rfl)), rfl⟩
theorem kw_72 : Jvm.Cond.laysFinal "JointSolids" "JointSolids" "spare" "LJointSolids$Solid;" ∈ tB := List.mem_filter.mpr ⟨List.mem_append_right _ (List.mem_append_left _ (List.mem_of_getElem? (i := 72) rfl)), rfl⟩
theorem kw_73 : Jvm.Cond.soleField "JointSolids" "spare" ∈ tB := List.mem_filter.mpr ⟨List.mem_append_right _ (List.mem_append_left _ (List.mem_of_getElem? (i := 73) rfl)), rfl⟩
theorem kw_74 : Jvm.Cond.laysFinal "JointSolids" "JointSolids" "tool" "[I" ∈ tB := List.mem_filter.mpr ⟨List.mem_append_right _ (List.mem_append_left _ (List.mem_of_getElem? (i := 74) rfl)), rfl⟩
theorem kw_75 : Jvm.Cond.soleField "JointSolids" "tool" ∈ tB := List.mem_filter.mpr ⟨List.mem_append_right _ (List.mem_append_left _ (List.mem_of_getElem? (i := 75) rfl)), rfl⟩
theorem kw_76 : Jvm.Cond.laysFinal "JointSolids" "JointSolids" "rest" "[I" ∈ tB := List.mem_filter.mpr ⟨List.mem_append_right _ (List.mem_append_left _ (List.mem_of_getElem? (i := 76) rfl)), rfl⟩
theorem kw_77 : Jvm.Cond.soleField "JointSolids" "rest" ∈ tB := List.mem_filter.mpr ⟨List.mem_append_right _ (List.mem_append_left _ (List.mem_of_getElem? (i := 77) rfl)), rfl⟩
theorem kw_78 : Jvm.Cond.laysFinal "JointSolids" "JointSolids" "common" "[I" ∈ tB := List.mem_filter.mpr ⟨List.mem_append_right _ (List.mem_append_left _ (List.mem_of_getElem? (i := 78) rfl)), rfl⟩
theorem kw_79 : Jvm.Cond.soleField "JointSolids" "common" ∈ tB := List.mem_filter.mpr ⟨List.mem_append_right _ (List.mem_append_left _ (List.mem_of_getElem? (i := 79) rfl)), rfl⟩
theorem kw_80 : Jvm.Cond.laysFinal "JointSolids" "JointSolids" "marks" "[I" ∈ tB := List.mem_filter.mpr ⟨List.mem_append_right _ (List.mem_append_left _ (List.mem_of_getElem? (i := 80) rfl)), rfl⟩
theorem kw_81 : Jvm.Cond.soleField "JointSolids" "marks" ∈ tB := List.mem_filter.mpr ⟨List.mem_append_right _ (List.mem_append_left _ (List.mem_of_getElem? (i := 81) rfl)), rfl⟩
theorem kw_82 : Jvm.Cond.superclass "JointSolids" "java/lang/Object" ∈ tB := List.mem_filter.mpr ⟨List.mem_append_right _ (List.mem_append_left _ (List.mem_of_getElem? (i := 82) rfl)), rfl⟩
theorem kw_83 : Jvm.Cond.methodLink "JointSolidsLaw" (122 : Nat) ({ cls := "JointSolids", name := "first", desc := "()I" } : Jvm.MethodName) ∈ tB := List.mem_filter.mpr ⟨List.mem_append_right _ (List.mem_append_left _ (List.mem_of_getElem? (i := 83) rfl)), rfl⟩
theorem kw_84 : Jvm.Cond.instanceMethod ({ cls := "JointSolids", name := "first", desc := "()I" } : Jvm.MethodName) ∈ tB := List.mem_filter.mpr ⟨List.mem_append_right _ (List.mem_append_left _ (List.mem_of_getElem? (i := 84) rfl)), rfl⟩
theorem kw_85 : Jvm.Cond.selects "JointSolids" ({ cls := "JointSolids", name := "first", desc := "()I" } : Jvm.MethodName) ({ cls := "JointSolids", name := "first", desc := "()I" } : Jvm.MethodName) ∈ tB := List.mem_filter.mpr ⟨List.mem_append_right _ (List.mem_append_left _ (List.mem_of_getElem? (i := 85) rfl)), rfl⟩
theorem kw_86 : Jvm.Cond.code ({ cls := "JointSolids", name := "first", desc := "()I" } : Jvm.MethodName) prog_1_method_15_code (3 : Nat) (Option.some Jvm.ClassFile.FieldType.int) ∈ tB := List.mem_filter.mpr ⟨List.mem_append_right _ (List.mem_append_left _ (List.mem_of_getElem? (i := 86) rfl)), rfl⟩
theorem kw_87 : Jvm.Cond.methodLink "JointSolids" (83 : Nat) ({ cls := "JointSolids", name := "solidOf", desc := "(I)LJointSolids$Solid;" } : Jvm.MethodName) ∈ tB := List.mem_filter.mpr ⟨List.mem_append_right _ (List.mem_append_left _ (List.mem_of_getElem? (i := 87) rfl)), rfl⟩
theorem kw_89 : Jvm.Cond.instanceMethod ({ cls := "JointSolids", name := "solidOf", desc := "(I)LJointSolids$Solid;" } : Jvm.MethodName) ∈ tB := List.mem_filter.mpr ⟨List.mem_append_right _ (List.mem_append_left _ (List.mem_of_getElem? (i := 89) rfl)), rfl⟩
theorem kw_90 : Jvm.Cond.code ({ cls := "JointSolids", name := "solidOf", desc := "(I)LJointSolids$Solid;" } : Jvm.MethodName) prog_1_method_16_code (2 : Nat) (Option.some (Jvm.ClassFile.FieldType.object "JointSolids$Solid")) ∈ tB := List.mem_filter.mpr ⟨List.mem_append_right _ (List.mem_append_left _ (List.mem_of_getElem? (i := 90) rfl)), rfl⟩
theorem kw_91 : Jvm.Cond.classLink "JointSolids" (163 : Nat) "java/lang/IndexOutOfBoundsException" ∈ tB := List.mem_filter.mpr ⟨List.mem_append_right _ (List.mem_append_left _ (List.mem_of_getElem? (i := 91) rfl)), rfl⟩
theorem kw_92 : Jvm.Cond.instantiable "java/lang/IndexOutOfBoundsException" (6 : Nat) ∈ tB := List.mem_filter.mpr ⟨List.mem_append_right _ (List.mem_append_left _ (List.mem_of_getElem? (i := 92) rfl)), rfl⟩
theorem kw_100 : Jvm.Cond.selects "java/lang/IndexOutOfBoundsException" ({ cls := "java/lang/Throwable", name := "fillInStackTrace", desc := "(I)Ljava/lang/Throwable;" } : Jvm.MethodName) ({ cls := "java/lang/Throwable", name := "fillInStackTrace", desc := "(I)Ljava/lang/Throwable;" } : Jvm.MethodName) ∈ tB := List.mem_filter.mpr ⟨List.mem_append_right _ (List.mem_append_left _ (List.mem_of_getElem? (i := 100) rfl)), rfl⟩
theorem kw_101 : Jvm.Cond.selects "java/lang/IndexOutOfBoundsException" ({ cls := "java/lang/Throwable", name := "fillInStackTrace", desc := "()Ljava/lang/Throwable;" } : Jvm.MethodName) ({ cls := "java/lang/Throwable", name := "fillInStackTrace", desc := "()Ljava/lang/Throwable;" } : Jvm.MethodName) ∈ tB := List.mem_filter.mpr ⟨List.mem_append_right _ (List.mem_append_left _ (List.mem_of_getElem? (i := 101) rfl)), rfl⟩
theorem kw_102 : Jvm.Cond.lays "java/lang/IndexOutOfBoundsException" "java/lang/Throwable" "cause" "Ljava/lang/Throwable;" ∈ tB := List.mem_filter.mpr ⟨List.mem_append_right _ (List.mem_append_left _ (List.mem_of_getElem? (i := 102) rfl)), rfl⟩
theorem kw_103 : Jvm.Cond.lays "java/lang/Throwable" "java/lang/Throwable" "cause" "Ljava/lang/Throwable;" ∈ tB := List.mem_filter.mpr ⟨List.mem_append_right _ (List.mem_append_left _ (List.mem_of_getElem? (i := 103) rfl)), rfl⟩
theorem kw_104 : Jvm.Cond.lays "java/lang/IndexOutOfBoundsException" "java/lang/Throwable" "stackTrace" "[Ljava/lang/StackTraceElement;" ∈ tB := List.mem_filter.mpr ⟨List.mem_append_right _ (List.mem_append_left _ (List.mem_of_getElem? (i := 104) rfl)), rfl⟩
theorem kw_105 : Jvm.Cond.lays "java/lang/Throwable" "java/lang/Throwable" "stackTrace" "[Ljava/lang/StackTraceElement;" ∈ tB := List.mem_filter.mpr ⟨List.mem_append_right _ (List.mem_append_left _ (List.mem_of_getElem? (i := 105) rfl)), rfl⟩
theorem kw_106 : Jvm.Cond.lays "java/lang/IndexOutOfBoundsException" "java/lang/Throwable" "suppressedExceptions" "Ljava/util/List;" ∈ tB := List.mem_filter.mpr ⟨List.mem_append_right _ (List.mem_append_left _ (List.mem_of_getElem? (i := 106) rfl)), rfl⟩
theorem kw_107 : Jvm.Cond.lays "java/lang/Throwable" "java/lang/Throwable" "suppressedExceptions" "Ljava/util/List;" ∈ tB := List.mem_filter.mpr ⟨List.mem_append_right _ (List.mem_append_left _ (List.mem_of_getElem? (i := 107) rfl)), rfl⟩
theorem kw_108 : Jvm.Cond.lays "java/lang/IndexOutOfBoundsException" "java/lang/Throwable" "detailMessage" "Ljava/lang/String;" ∈ tB := List.mem_filter.mpr ⟨List.mem_append_right _ (List.mem_append_left _ (List.mem_of_getElem? (i := 108) rfl)), rfl⟩
theorem kw_109 : Jvm.Cond.lays "java/lang/Throwable" "java/lang/Throwable" "detailMessage" "Ljava/lang/String;" ∈ tB := List.mem_filter.mpr ⟨List.mem_append_right _ (List.mem_append_left _ (List.mem_of_getElem? (i := 109) rfl)), rfl⟩
theorem kw_110 : Jvm.Cond.lays "java/lang/IndexOutOfBoundsException" "java/lang/Throwable" "backtrace" "Ljava/lang/Object;" ∈ tB := List.mem_filter.mpr ⟨List.mem_append_right _ (List.mem_append_left _ (List.mem_of_getElem? (i := 110) rfl)), rfl⟩
theorem kw_111 : Jvm.Cond.lays "java/lang/Throwable" "java/lang/Throwable" "backtrace" "Ljava/lang/Object;" ∈ tB := List.mem_filter.mpr ⟨List.mem_append_right _ (List.mem_append_left _ (List.mem_of_getElem? (i := 111) rfl)), rfl⟩
theorem kw_112 : Jvm.Cond.fieldLink "java/lang/Throwable" (198 : Nat) "java/lang/Throwable" "backtrace" "Ljava/lang/Object;" ∈ tB := List.mem_filter.mpr ⟨List.mem_append_right _ (List.mem_append_left _ (List.mem_of_getElem? (i := 112) rfl)), rfl⟩
theorem kw_113 : Jvm.Cond.superclass "java/lang/Throwable" "java/lang/Object" ∈ tB := List.mem_filter.mpr ⟨List.mem_append_right _ (List.mem_append_left _ (List.mem_of_getElem? (i := 113) rfl)), rfl⟩
theorem kw_114 : Jvm.Cond.instanceMethod ({ cls := "java/lang/Throwable", name := "<init>", desc := "()V" } : Jvm.MethodName) ∈ tB := List.mem_filter.mpr ⟨List.mem_append_right _ (List.mem_append_left _ (List.mem_of_getElem? (i := 114) rfl)), rfl⟩
theorem kw_115 : Jvm.Cond.code ({ cls := "java/lang/Throwable", name := "<init>", desc := "()V" } : Jvm.MethodName) prog_14_method_1_code (1 : Nat) (Option.none : Option Jvm.ClassFile.FieldType) ∈ tB := List.mem_filter.mpr ⟨List.mem_append_right _ (List.mem_append_left _ (List.mem_of_getElem? (i := 115) rfl)), rfl⟩
theorem kw_116 : Jvm.Cond.methodLink "java/lang/Throwable" (1 : Nat) ({ cls := "java/lang/Object", name := "<init>", desc := "()V" } : Jvm.MethodName) ∈ tB := List.mem_filter.mpr ⟨List.mem_append_right _ (List.mem_append_left _ (List.mem_of_getElem? (i := 116) rfl)), rfl⟩
theorem kw_117 : Jvm.Cond.fieldLink "java/lang/Throwable" (13 : Nat) "java/lang/Throwable" "UNASSIGNED_STACK" "[Ljava/lang/StackTraceElement;" ∈ tB := List.mem_filter.mpr ⟨List.mem_append_right _ (List.mem_append_left _ (List.mem_of_getElem? (i := 117) rfl)), rfl⟩
theorem kw_119 : Jvm.Cond.fieldLink "java/lang/Throwable" (20 : Nat) "java/lang/Throwable" "SUPPRESSED_SENTINEL" "Ljava/util/List;" ∈ tB := List.mem_filter.mpr ⟨List.mem_append_right _ (List.mem_append_left _ (List.mem_of_getElem? (i := 119) rfl)), rfl⟩
theorem kw_121 : Jvm.Cond.methodLink "java/lang/Throwable" (27 : Nat) ({ cls := "java/lang/Throwable", name := "fillInStackTrace", desc := "()Ljava/lang/Throwable;" } : Jvm.MethodName) ∈ tB := List.mem_filter.mpr ⟨List.mem_append_right _ (List.mem_append_left _ (List.mem_of_getElem? (i := 121) rfl)), rfl⟩
theorem kw_122 : Jvm.Cond.instanceMethod ({ cls := "java/lang/Throwable", name := "fillInStackTrace", desc := "()Ljava/lang/Throwable;" } : Jvm.MethodName) ∈ tB := List.mem_filter.mpr ⟨List.mem_append_right _ (List.mem_append_left _ (List.mem_of_getElem? (i := 122) rfl)), rfl⟩
theorem kw_123 : Jvm.Cond.sameMethod "java/lang/Throwable" "java/lang/Throwable" "fillInStackTrace" "()Ljava/lang/Throwable;" ∈ tB := List.mem_filter.mpr ⟨List.mem_append_right _ (List.mem_append_left _ (List.mem_of_getElem? (i := 123) rfl)), rfl⟩
theorem kw_124 : Jvm.Cond.selects "java/lang/IllegalArgumentException" ({ cls := "java/lang/Throwable", name := "fillInStackTrace", desc := "()Ljava/lang/Throwable;" } : Jvm.MethodName) ({ cls := "java/lang/Throwable", name := "fillInStackTrace", desc := "()Ljava/lang/Throwable;" } : Jvm.MethodName) ∈ tB := List.mem_filter.mpr ⟨List.mem_append_right _ (List.mem_append_left _ (List.mem_of_getElem? (i := 124) rfl)), rfl⟩
theorem kw_125 : Jvm.Cond.selects "java/lang/IllegalStateException" ({ cls := "java/lang/Throwable", name := "fillInStackTrace", desc := "()Ljava/lang/Throwable;" } : Jvm.MethodName) ({ cls := "java/lang/Throwable", name := "fillInStackTrace", desc := "()Ljava/lang/Throwable;" } : Jvm.MethodName) ∈ tB := List.mem_filter.mpr ⟨List.mem_append_right _ (List.mem_append_left _ (List.mem_of_getElem? (i := 125) rfl)), rfl⟩
theorem kw_126 : Jvm.Cond.codeSync ({ cls := "java/lang/Throwable", name := "fillInStackTrace", desc := "()Ljava/lang/Throwable;" } : Jvm.MethodName) prog_14_method_18_code (1 : Nat) (Option.some (Jvm.ClassFile.FieldType.object "java/lang/Throwable")) ∈ tB := List.mem_filter.mpr ⟨List.mem_append_right _ (List.mem_append_left _ (List.mem_of_getElem? (i := 126) rfl)), rfl⟩
theorem kw_127 : Jvm.Cond.methodLink "java/lang/Throwable" (202 : Nat) ({ cls := "java/lang/Throwable", name := "fillInStackTrace", desc := "(I)Ljava/lang/Throwable;" } : Jvm.MethodName) ∈ tB := List.mem_filter.mpr ⟨List.mem_append_right _ (List.mem_append_left _ (List.mem_of_getElem? (i := 127) rfl)), rfl⟩
theorem kw_129 : Jvm.Cond.instanceMethod ({ cls := "java/lang/Throwable", name := "fillInStackTrace", desc := "(I)Ljava/lang/Throwable;" } : Jvm.MethodName) ∈ tB := List.mem_filter.mpr ⟨List.mem_append_right _ (List.mem_append_left _ (List.mem_of_getElem? (i := 129) rfl)), rfl⟩
theorem kw_130 : Jvm.Cond.instantiable "java/lang/Throwable" (6 : Nat) ∈ tB := List.mem_filter.mpr ⟨List.mem_append_right _ (List.mem_append_left _ (List.mem_of_getElem? (i := 130) rfl)), rfl⟩
theorem kw_131 : Jvm.Cond.native ({ cls := "java/lang/Throwable", name := "fillInStackTrace", desc := "(I)Ljava/lang/Throwable;" } : Jvm.MethodName) ∈ tB := List.mem_filter.mpr ⟨List.mem_append_right _ (List.mem_append_left _ (List.mem_of_getElem? (i := 131) rfl)), rfl⟩
theorem kw_133 : Jvm.Cond.methodLink "JointSolids" (167 : Nat) ({ cls := "java/lang/IndexOutOfBoundsException", name := "<init>", desc := "(Ljava/lang/String;)V" } : Jvm.MethodName) ∈ tB := List.mem_filter.mpr ⟨List.mem_append_right _ (List.mem_append_left _ (List.mem_of_getElem? (i := 133) rfl)), rfl⟩
theorem kw_134 : Jvm.Cond.instanceMethod ({ cls := "java/lang/IndexOutOfBoundsException", name := "<init>", desc := "(Ljava/lang/String;)V" } : Jvm.MethodName) ∈ tB := List.mem_filter.mpr ⟨List.mem_append_right _ (List.mem_append_left _ (List.mem_of_getElem? (i := 134) rfl)), rfl⟩
theorem kw_135 : Jvm.Cond.code ({ cls := "java/lang/IndexOutOfBoundsException", name := "<init>", desc := "(Ljava/lang/String;)V" } : Jvm.MethodName) prog_9_method_2_code (2 : Nat) (Option.none : Option Jvm.ClassFile.FieldType) ∈ tB := List.mem_filter.mpr ⟨List.mem_append_right _ (List.mem_append_left _ (List.mem_of_getElem? (i := 135) rfl)), rfl⟩
theorem kw_136 : Jvm.Cond.methodLink "java/lang/IndexOutOfBoundsException" (7 : Nat) ({ cls := "java/lang/RuntimeException", name := "<init>", desc := "(Ljava/lang/String;)V" } : Jvm.MethodName) ∈ tB := List.mem_filter.mpr ⟨List.mem_append_right _ (List.mem_append_left _ (List.mem_of_getElem? (i := 136) rfl)), rfl⟩
theorem kw_137 : Jvm.Cond.instanceMethod ({ cls := "java/lang/RuntimeException", name := "<init>", desc := "(Ljava/lang/String;)V" } : Jvm.MethodName) ∈ tB := List.mem_filter.mpr ⟨List.mem_append_right _ (List.mem_append_left _ (List.mem_of_getElem? (i := 137) rfl)), rfl⟩
theorem kw_138 : Jvm.Cond.code ({ cls := "java/lang/RuntimeException", name := "<init>", desc := "(Ljava/lang/String;)V" } : Jvm.MethodName) prog_11_method_2_code (2 : Nat) (Option.none : Option Jvm.ClassFile.FieldType) ∈ tB := List.mem_filter.mpr ⟨List.mem_append_right _ (List.mem_append_left _ (List.mem_of_getElem? (i := 138) rfl)), rfl⟩
theorem kw_139 : Jvm.Cond.methodLink "java/lang/RuntimeException" (7 : Nat) ({ cls := "java/lang/Exception", name := "<init>", desc := "(Ljava/lang/String;)V" } : Jvm.MethodName) ∈ tB := List.mem_filter.mpr ⟨List.mem_append_right _ (List.mem_append_left _ (List.mem_of_getElem? (i := 139) rfl)), rfl⟩
theorem kw_140 : Jvm.Cond.instanceMethod ({ cls := "java/lang/Exception", name := "<init>", desc := "(Ljava/lang/String;)V" } : Jvm.MethodName) ∈ tB := List.mem_filter.mpr ⟨List.mem_append_right _ (List.mem_append_left _ (List.mem_of_getElem? (i := 140) rfl)), rfl⟩
theorem kw_141 : Jvm.Cond.code ({ cls := "java/lang/Exception", name := "<init>", desc := "(Ljava/lang/String;)V" } : Jvm.MethodName) prog_6_method_2_code (2 : Nat) (Option.none : Option Jvm.ClassFile.FieldType) ∈ tB := List.mem_filter.mpr ⟨List.mem_append_right _ (List.mem_append_left _ (List.mem_of_getElem? (i := 141) rfl)), rfl⟩
theorem kw_142 : Jvm.Cond.methodLink "java/lang/Exception" (7 : Nat) ({ cls := "java/lang/Throwable", name := "<init>", desc := "(Ljava/lang/String;)V" } : Jvm.MethodName) ∈ tB := List.mem_filter.mpr ⟨List.mem_append_right _ (List.mem_append_left _ (List.mem_of_getElem? (i := 142) rfl)), rfl⟩
theorem kw_143 : Jvm.Cond.instanceMethod ({ cls := "java/lang/Throwable", name := "<init>", desc := "(Ljava/lang/String;)V" } : Jvm.MethodName) ∈ tB := List.mem_filter.mpr ⟨List.mem_append_right _ (List.mem_append_left _ (List.mem_of_getElem? (i := 143) rfl)), rfl⟩
theorem kw_144 : Jvm.Cond.code ({ cls := "java/lang/Throwable", name := "<init>", desc := "(Ljava/lang/String;)V" } : Jvm.MethodName) prog_14_method_2_code (2 : Nat) (Option.none : Option Jvm.ClassFile.FieldType) ∈ tB := List.mem_filter.mpr ⟨List.mem_append_right _ (List.mem_append_left _ (List.mem_of_getElem? (i := 144) rfl)), rfl⟩
theorem kw_145 : Jvm.Cond.fieldLink "java/lang/Throwable" (198 : Nat) "java/lang/Throwable" "backtrace" "Ljava/lang/Object;" ∈ tB := List.mem_filter.mpr ⟨List.mem_append_right _ (List.mem_append_left _ (List.mem_of_getElem? (i := 145) rfl)), rfl⟩
theorem kw_146 : Jvm.Cond.fieldLink "java/lang/Throwable" (31 : Nat) "java/lang/Throwable" "detailMessage" "Ljava/lang/String;" ∈ tB := List.mem_filter.mpr ⟨List.mem_append_right _ (List.mem_append_left _ (List.mem_of_getElem? (i := 146) rfl)), rfl⟩
theorem kw_147 : Jvm.Cond.fieldLink "java/lang/Throwable" (7 : Nat) "java/lang/Throwable" "cause" "Ljava/lang/Throwable;" ∈ tB := List.mem_filter.mpr ⟨List.mem_append_right _ (List.mem_append_left _ (List.mem_of_getElem? (i := 147) rfl)), rfl⟩
theorem kw_148 : Jvm.Cond.fieldLink "java/lang/Throwable" (17 : Nat) "java/lang/Throwable" "stackTrace" "[Ljava/lang/StackTraceElement;" ∈ tB := List.mem_filter.mpr ⟨List.mem_append_right _ (List.mem_append_left _ (List.mem_of_getElem? (i := 148) rfl)), rfl⟩
theorem kw_149 : Jvm.Cond.fieldLink "java/lang/Throwable" (24 : Nat) "java/lang/Throwable" "suppressedExceptions" "Ljava/util/List;" ∈ tB := List.mem_filter.mpr ⟨List.mem_append_right _ (List.mem_append_left _ (List.mem_of_getElem? (i := 149) rfl)), rfl⟩
theorem kw_150 : Jvm.Cond.soleField "java/lang/Throwable" "backtrace" ∈ tB := List.mem_filter.mpr ⟨List.mem_append_right _ (List.mem_append_left _ (List.mem_of_getElem? (i := 150) rfl)), rfl⟩
theorem kw_151 : Jvm.Cond.soleField "java/lang/Throwable" "detailMessage" ∈ tB := List.mem_filter.mpr ⟨List.mem_append_right _ (List.mem_append_left _ (List.mem_of_getElem? (i := 151) rfl)), rfl⟩
theorem kw_152 : Jvm.Cond.soleField "java/lang/Throwable" "cause" ∈ tB := List.mem_filter.mpr ⟨List.mem_append_right _ (List.mem_append_left _ (List.mem_of_getElem? (i := 152) rfl)), rfl⟩
theorem kw_153 : Jvm.Cond.soleField "java/lang/Throwable" "stackTrace" ∈ tB := List.mem_filter.mpr ⟨List.mem_append_right _ (List.mem_append_left _ (List.mem_of_getElem? (i := 153) rfl)), rfl⟩
theorem kw_154 : Jvm.Cond.lays "java/lang/IndexOutOfBoundsException" "java/lang/Throwable" "depth" "I" ∈ tB := List.mem_filter.mpr ⟨List.mem_append_right _ (List.mem_append_left _ (List.mem_of_getElem? (i := 154) rfl)), rfl⟩
theorem kw_155 : Jvm.Cond.soleField "java/lang/Throwable" "depth" ∈ tB := List.mem_filter.mpr ⟨List.mem_append_right _ (List.mem_append_left _ (List.mem_of_getElem? (i := 155) rfl)), rfl⟩
theorem kw_156 : Jvm.Cond.soleField "java/lang/Throwable" "suppressedExceptions" ∈ tB := List.mem_filter.mpr ⟨List.mem_append_right _ (List.mem_append_left _ (List.mem_of_getElem? (i := 156) rfl)), rfl⟩
theorem kw_157 : Jvm.Cond.superclass "java/lang/IndexOutOfBoundsException" "java/lang/RuntimeException" ∈ tB := List.mem_filter.mpr ⟨List.mem_append_right _ (List.mem_append_left _ (List.mem_of_getElem? (i := 157) rfl)), rfl⟩
theorem kw_158 : Jvm.Cond.arrayClass Jvm.ClassFile.FieldType.byte ∈ tB := List.mem_filter.mpr ⟨List.mem_append_right _ (List.mem_append_left _ (List.mem_of_getElem? (i := 158) rfl)), rfl⟩
theorem kw_159 : Jvm.Cond.methodLink "JointSolids" (173 : Nat) ({ cls := "JointSolids", name := "volumeOfBoth", desc := "(LJointSolids$Solid;LJointSolids$Solid;)J" } : Jvm.MethodName) ∈ tB := List.mem_filter.mpr ⟨List.mem_append_right _ (List.mem_append_left _ (List.mem_of_getElem? (i := 159) rfl)), rfl⟩
theorem kw_160 : Jvm.Cond.static ({ cls := "JointSolids", name := "volumeOfBoth", desc := "(LJointSolids$Solid;LJointSolids$Solid;)J" } : Jvm.MethodName) ∈ tB := List.mem_filter.mpr ⟨List.mem_append_right _ (List.mem_append_left _ (List.mem_of_getElem? (i := 160) rfl)), rfl⟩
theorem kw_161 : Jvm.Cond.code ({ cls := "JointSolids", name := "volumeOfBoth", desc := "(LJointSolids$Solid;LJointSolids$Solid;)J" } : Jvm.MethodName) prog_1_method_34_code (6 : Nat) (Option.some Jvm.ClassFile.FieldType.long) ∈ tB := List.mem_filter.mpr ⟨List.mem_append_right _ (List.mem_append_left _ (List.mem_of_getElem? (i := 161) rfl)), rfl⟩
theorem kw_162 : Jvm.Cond.methodLink "JointSolids" (232 : Nat) ({ cls := "JointSolids", name := "volumeShared", desc := "([II[II)J" } : Jvm.MethodName) ∈ tB := List.mem_filter.mpr ⟨List.mem_append_right _ (List.mem_append_left _ (List.mem_of_getElem? (i := 162) rfl)), rfl⟩
theorem kw_163 : Jvm.Cond.static ({ cls := "JointSolids", name := "volumeShared", desc := "([II[II)J" } : Jvm.MethodName) ∈ tB := List.mem_filter.mpr ⟨List.mem_append_right _ (List.mem_append_left _ (List.mem_of_getElem? (i := 163) rfl)), rfl⟩
theorem kw_164 : Jvm.Cond.code ({ cls := "JointSolids", name := "volumeShared", desc := "([II[II)J" } : Jvm.MethodName) prog_1_method_37_code (7 : Nat) (Option.some Jvm.ClassFile.FieldType.long) ∈ tB := List.mem_filter.mpr ⟨List.mem_append_right _ (List.mem_append_left _ (List.mem_of_getElem? (i := 164) rfl)), rfl⟩
theorem kw_165 : Jvm.Cond.methodLink "JointSolids" (250 : Nat) ({ cls := "JointSolids", name := "lengthShared", desc := "([II[III)I" } : Jvm.MethodName) ∈ tB := List.mem_filter.mpr ⟨List.mem_append_right _ (List.mem_append_left _ (List.mem_of_getElem? (i := 165) rfl)), rfl⟩
theorem kw_166 : Jvm.Cond.static ({ cls := "JointSolids", name := "lengthShared", desc := "([II[III)I" } : Jvm.MethodName) ∈ tB := List.mem_filter.mpr ⟨List.mem_append_right _ (List.mem_append_left _ (List.mem_of_getElem? (i := 166) rfl)), rfl⟩
theorem kw_167 : Jvm.Cond.code ({ cls := "JointSolids", name := "lengthShared", desc := "([II[III)I" } : Jvm.MethodName) prog_1_method_36_code (7 : Nat) (Option.some Jvm.ClassFile.FieldType.int) ∈ tB := List.mem_filter.mpr ⟨List.mem_append_right _ (List.mem_append_left _ (List.mem_of_getElem? (i := 167) rfl)), rfl⟩
theorem kw_168 : Jvm.Cond.methodLink "JointSolids" (222 : Nat) ({ cls := "java/lang/Math", name := "max", desc := "(II)I" } : Jvm.MethodName) ∈ tB := List.mem_filter.mpr ⟨List.mem_append_right _ (List.mem_append_left _ (List.mem_of_getElem? (i := 168) rfl)), rfl⟩
theorem kw_169 : Jvm.Cond.static ({ cls := "java/lang/Math", name := "max", desc := "(II)I" } : Jvm.MethodName) ∈ tB := List.mem_filter.mpr ⟨List.mem_append_right _ (List.mem_append_left _ (List.mem_of_getElem? (i := 169) rfl)), rfl⟩
theorem kw_170 : Jvm.Cond.code ({ cls := "java/lang/Math", name := "max", desc := "(II)I" } : Jvm.MethodName) prog_10_method_65_code (2 : Nat) (Option.some Jvm.ClassFile.FieldType.int) ∈ tB := List.mem_filter.mpr ⟨List.mem_append_right _ (List.mem_append_left _ (List.mem_of_getElem? (i := 170) rfl)), rfl⟩
theorem kw_171 : Jvm.Cond.methodLink "JointSolids" (217 : Nat) ({ cls := "java/lang/Math", name := "min", desc := "(II)I" } : Jvm.MethodName) ∈ tB := List.mem_filter.mpr ⟨List.mem_append_right _ (List.mem_append_left _ (List.mem_of_getElem? (i := 171) rfl)), rfl⟩
theorem kw_172 : Jvm.Cond.static ({ cls := "java/lang/Math", name := "min", desc := "(II)I" } : Jvm.MethodName) ∈ tB := List.mem_filter.mpr ⟨List.mem_append_right _ (List.mem_append_left _ (List.mem_of_getElem? (i := 172) rfl)), rfl⟩
theorem kw_173 : Jvm.Cond.code ({ cls := "java/lang/Math", name := "min", desc := "(II)I" } : Jvm.MethodName) prog_10_method_69_code (2 : Nat) (Option.some Jvm.ClassFile.FieldType.int) ∈ tB := List.mem_filter.mpr ⟨List.mem_append_right _ (List.mem_append_left _ (List.mem_of_getElem? (i := 173) rfl)), rfl⟩
theorem kw_174 : Jvm.Cond.methodLink "JointSolidsLaw" (68 : Nat) ({ cls := "JointSolidsLaw", name := "part", desc := "(LJointSolids;IIIIII[J)I" } : Jvm.MethodName) ∈ tB := List.mem_filter.mpr ⟨List.mem_append_right _ (List.mem_append_left _ (List.mem_of_getElem? (i := 174) rfl)), rfl⟩
theorem kw_175 : Jvm.Cond.static ({ cls := "JointSolidsLaw", name := "part", desc := "(LJointSolids;IIIIII[J)I" } : Jvm.MethodName) ∈ tB := List.mem_filter.mpr ⟨List.mem_append_right _ (List.mem_append_left _ (List.mem_of_getElem? (i := 175) rfl)), rfl⟩
theorem kw_176 : Jvm.Cond.codeWith ({ cls := "JointSolidsLaw", name := "part", desc := "(LJointSolids;IIIIII[J)I" } : Jvm.MethodName) method_3_code (9 : Nat) (Option.some Jvm.ClassFile.FieldType.int) [((0 : Nat), (18 : Nat), (21 : Nat), (13 : Nat)), ((0 : Nat), (18 : Nat), (25 : Nat), (15 : Nat))] ∈ tB := List.mem_filter.mpr ⟨List.mem_append_right _ (List.mem_append_left _ (List.mem_of_getElem? (i := 176) rfl)), rfl⟩
theorem kw_177 : Jvm.Cond.classLink "JointSolidsLaw" (13 : Nat) "java/lang/IllegalArgumentException" ∈ tB := List.mem_filter.mpr ⟨List.mem_append_right _ (List.mem_append_left _ (List.mem_of_getElem? (i := 177) rfl)), rfl⟩
theorem kw_178 : Jvm.Cond.classLink "JointSolidsLaw" (15 : Nat) "java/lang/IllegalStateException" ∈ tB := List.mem_filter.mpr ⟨List.mem_append_right _ (List.mem_append_left _ (List.mem_of_getElem? (i := 178) rfl)), rfl⟩
theorem kw_179 : Jvm.Cond.methodLink "JointSolidsLaw" (7 : Nat) ({ cls := "JointSolids", name := "part", desc := "(IIIIII)I" } : Jvm.MethodName) ∈ tB := List.mem_filter.mpr ⟨List.mem_append_right _ (List.mem_append_left _ (List.mem_of_getElem? (i := 179) rfl)), rfl⟩
theorem kw_180 : Jvm.Cond.instanceMethod ({ cls := "JointSolids", name := "part", desc := "(IIIIII)I" } : Jvm.MethodName) ∈ tB := List.mem_filter.mpr ⟨List.mem_append_right _ (List.mem_append_left _ (List.mem_of_getElem? (i := 180) rfl)), rfl⟩
theorem kw_181 : Jvm.Cond.selects "JointSolids" ({ cls := "JointSolids", name := "part", desc := "(IIIIII)I" } : Jvm.MethodName) ({ cls := "JointSolids", name := "part", desc := "(IIIIII)I" } : Jvm.MethodName) ∈ tB := List.mem_filter.mpr ⟨List.mem_append_right _ (List.mem_append_left _ (List.mem_of_getElem? (i := 181) rfl)), rfl⟩
theorem kw_182 : Jvm.Cond.code ({ cls := "JointSolids", name := "part", desc := "(IIIIII)I" } : Jvm.MethodName) prog_1_method_2_code (8 : Nat) (Option.some Jvm.ClassFile.FieldType.int) ∈ tB := List.mem_filter.mpr ⟨List.mem_append_right _ (List.mem_append_left _ (List.mem_of_getElem? (i := 182) rfl)), rfl⟩
theorem kw_183 : Jvm.Cond.methodLink "JointSolids" (51 : Nat) ({ cls := "JointSolids", name := "needPlaces", desc := "(IIII)V" } : Jvm.MethodName) ∈ tB := List.mem_filter.mpr ⟨List.mem_append_right _ (List.mem_append_left _ (List.mem_of_getElem? (i := 183) rfl)), rfl⟩
theorem kw_184 : Jvm.Cond.static ({ cls := "JointSolids", name := "needPlaces", desc := "(IIII)V" } : Jvm.MethodName) ∈ tB := List.mem_filter.mpr ⟨List.mem_append_right _ (List.mem_append_left _ (List.mem_of_getElem? (i := 184) rfl)), rfl⟩
theorem kw_185 : Jvm.Cond.code ({ cls := "JointSolids", name := "needPlaces", desc := "(IIII)V" } : Jvm.MethodName) prog_1_method_22_code (4 : Nat) (Option.none : Option Jvm.ClassFile.FieldType) ∈ tB := List.mem_filter.mpr ⟨List.mem_append_right _ (List.mem_append_left _ (List.mem_of_getElem? (i := 185) rfl)), rfl⟩
theorem kw_186 : Jvm.Cond.classLink "JointSolids" (97 : Nat) "java/lang/IllegalArgumentException" ∈ tB := List.mem_filter.mpr ⟨List.mem_append_right _ (List.mem_append_left _ (List.mem_of_getElem? (i := 186) rfl)), rfl⟩
theorem kw_187 : Jvm.Cond.instantiable "java/lang/IllegalArgumentException" (6 : Nat) ∈ tB := List.mem_filter.mpr ⟨List.mem_append_right _ (List.mem_append_left _ (List.mem_of_getElem? (i := 187) rfl)), rfl⟩
theorem kw_189 : Jvm.Cond.selects "java/lang/IllegalArgumentException" ({ cls := "java/lang/Throwable", name := "fillInStackTrace", desc := "(I)Ljava/lang/Throwable;" } : Jvm.MethodName) ({ cls := "java/lang/Throwable", name := "fillInStackTrace", desc := "(I)Ljava/lang/Throwable;" } : Jvm.MethodName) ∈ tB := List.mem_filter.mpr ⟨List.mem_append_right _ (List.mem_append_left _ (List.mem_of_getElem? (i := 189) rfl)), rfl⟩
theorem kw_190 : Jvm.Cond.lays "java/lang/IllegalArgumentException" "java/lang/Throwable" "cause" "Ljava/lang/Throwable;" ∈ tB := List.mem_filter.mpr ⟨List.mem_append_right _ (List.mem_append_left _ (List.mem_of_getElem? (i := 190) rfl)), rfl⟩
theorem kw_191 : Jvm.Cond.lays "java/lang/IllegalArgumentException" "java/lang/Throwable" "stackTrace" "[Ljava/lang/StackTraceElement;" ∈ tB := List.mem_filter.mpr ⟨List.mem_append_right _ (List.mem_append_left _ (List.mem_of_getElem? (i := 191) rfl)), rfl⟩
theorem kw_192 : Jvm.Cond.lays "java/lang/IllegalArgumentException" "java/lang/Throwable" "suppressedExceptions" "Ljava/util/List;" ∈ tB := List.mem_filter.mpr ⟨List.mem_append_right _ (List.mem_append_left _ (List.mem_of_getElem? (i := 192) rfl)), rfl⟩
theorem kw_193 : Jvm.Cond.lays "java/lang/IllegalArgumentException" "java/lang/Throwable" "detailMessage" "Ljava/lang/String;" ∈ tB := List.mem_filter.mpr ⟨List.mem_append_right _ (List.mem_append_left _ (List.mem_of_getElem? (i := 193) rfl)), rfl⟩
theorem kw_194 : Jvm.Cond.lays "java/lang/IllegalArgumentException" "java/lang/Throwable" "backtrace" "Ljava/lang/Object;" ∈ tB := List.mem_filter.mpr ⟨List.mem_append_right _ (List.mem_append_left _ (List.mem_of_getElem? (i := 194) rfl)), rfl⟩
theorem kw_196 : Jvm.Cond.methodLink "JointSolids" (101 : Nat) ({ cls := "java/lang/IllegalArgumentException", name := "<init>", desc := "(Ljava/lang/String;)V" } : Jvm.MethodName) ∈ tB := List.mem_filter.mpr ⟨List.mem_append_right _ (List.mem_append_left _ (List.mem_of_getElem? (i := 196) rfl)), rfl⟩
theorem kw_197 : Jvm.Cond.instanceMethod ({ cls := "java/lang/IllegalArgumentException", name := "<init>", desc := "(Ljava/lang/String;)V" } : Jvm.MethodName) ∈ tB := List.mem_filter.mpr ⟨List.mem_append_right _ (List.mem_append_left _ (List.mem_of_getElem? (i := 197) rfl)), rfl⟩
theorem kw_198 : Jvm.Cond.code ({ cls := "java/lang/IllegalArgumentException", name := "<init>", desc := "(Ljava/lang/String;)V" } : Jvm.MethodName) prog_7_method_2_code (2 : Nat) (Option.none : Option Jvm.ClassFile.FieldType) ∈ tB := List.mem_filter.mpr ⟨List.mem_append_right _ (List.mem_append_left _ (List.mem_of_getElem? (i := 198) rfl)), rfl⟩
theorem kw_199 : Jvm.Cond.methodLink "java/lang/IllegalArgumentException" (7 : Nat) ({ cls := "java/lang/RuntimeException", name := "<init>", desc := "(Ljava/lang/String;)V" } : Jvm.MethodName) ∈ tB := List.mem_filter.mpr ⟨List.mem_append_right _ (List.mem_append_left _ (List.mem_of_getElem? (i := 199) rfl)), rfl⟩
theorem kw_200 : Jvm.Cond.lays "java/lang/IllegalArgumentException" "java/lang/Throwable" "depth" "I" ∈ tB := List.mem_filter.mpr ⟨List.mem_append_right _ (List.mem_append_left _ (List.mem_of_getElem? (i := 200) rfl)), rfl⟩
theorem kw_201 : Jvm.Cond.superclass "java/lang/IllegalArgumentException" "java/lang/RuntimeException" ∈ tB := List.mem_filter.mpr ⟨List.mem_append_right _ (List.mem_append_left _ (List.mem_of_getElem? (i := 201) rfl)), rfl⟩
theorem kw_202 : Jvm.Cond.methodLink "JointSolids" (55 : Nat) ({ cls := "JointSolids", name := "needSizes", desc := "(IIII)V" } : Jvm.MethodName) ∈ tB := List.mem_filter.mpr ⟨List.mem_append_right _ (List.mem_append_left _ (List.mem_of_getElem? (i := 202) rfl)), rfl⟩
theorem kw_203 : Jvm.Cond.static ({ cls := "JointSolids", name := "needSizes", desc := "(IIII)V" } : Jvm.MethodName) ∈ tB := List.mem_filter.mpr ⟨List.mem_append_right _ (List.mem_append_left _ (List.mem_of_getElem? (i := 203) rfl)), rfl⟩
theorem kw_204 : Jvm.Cond.code ({ cls := "JointSolids", name := "needSizes", desc := "(IIII)V" } : Jvm.MethodName) prog_1_method_23_code (4 : Nat) (Option.none : Option Jvm.ClassFile.FieldType) ∈ tB := List.mem_filter.mpr ⟨List.mem_append_right _ (List.mem_append_left _ (List.mem_of_getElem? (i := 204) rfl)), rfl⟩
theorem kw_206 : Jvm.Cond.classLink "JointSolids" (62 : Nat) "java/lang/IllegalStateException" ∈ tB := List.mem_filter.mpr ⟨List.mem_append_right _ (List.mem_append_left _ (List.mem_of_getElem? (i := 206) rfl)), rfl⟩
theorem kw_207 : Jvm.Cond.instantiable "java/lang/IllegalStateException" (6 : Nat) ∈ tB := List.mem_filter.mpr ⟨List.mem_append_right _ (List.mem_append_left _ (List.mem_of_getElem? (i := 207) rfl)), rfl⟩
theorem kw_209 : Jvm.Cond.selects "java/lang/IllegalStateException" ({ cls := "java/lang/Throwable", name := "fillInStackTrace", desc := "(I)Ljava/lang/Throwable;" } : Jvm.MethodName) ({ cls := "java/lang/Throwable", name := "fillInStackTrace", desc := "(I)Ljava/lang/Throwable;" } : Jvm.MethodName) ∈ tB := List.mem_filter.mpr ⟨List.mem_append_right _ (List.mem_append_left _ (List.mem_of_getElem? (i := 209) rfl)), rfl⟩
theorem kw_210 : Jvm.Cond.lays "java/lang/IllegalStateException" "java/lang/Throwable" "cause" "Ljava/lang/Throwable;" ∈ tB := List.mem_filter.mpr ⟨List.mem_append_right _ (List.mem_append_left _ (List.mem_of_getElem? (i := 210) rfl)), rfl⟩
theorem kw_211 : Jvm.Cond.lays "java/lang/IllegalStateException" "java/lang/Throwable" "stackTrace" "[Ljava/lang/StackTraceElement;" ∈ tB := List.mem_filter.mpr ⟨List.mem_append_right _ (List.mem_append_left _ (List.mem_of_getElem? (i := 211) rfl)), rfl⟩
theorem kw_212 : Jvm.Cond.lays "java/lang/IllegalStateException" "java/lang/Throwable" "suppressedExceptions" "Ljava/util/List;" ∈ tB := List.mem_filter.mpr ⟨List.mem_append_right _ (List.mem_append_left _ (List.mem_of_getElem? (i := 212) rfl)), rfl⟩
theorem kw_213 : Jvm.Cond.lays "java/lang/IllegalStateException" "java/lang/Throwable" "detailMessage" "Ljava/lang/String;" ∈ tB := List.mem_filter.mpr ⟨List.mem_append_right _ (List.mem_append_left _ (List.mem_of_getElem? (i := 213) rfl)), rfl⟩
theorem kw_214 : Jvm.Cond.lays "java/lang/IllegalStateException" "java/lang/Throwable" "backtrace" "Ljava/lang/Object;" ∈ tB := List.mem_filter.mpr ⟨List.mem_append_right _ (List.mem_append_left _ (List.mem_of_getElem? (i := 214) rfl)), rfl⟩
theorem kw_216 : Jvm.Cond.methodLink "JointSolids" (66 : Nat) ({ cls := "java/lang/IllegalStateException", name := "<init>", desc := "(Ljava/lang/String;)V" } : Jvm.MethodName) ∈ tB := List.mem_filter.mpr ⟨List.mem_append_right _ (List.mem_append_left _ (List.mem_of_getElem? (i := 216) rfl)), rfl⟩
theorem kw_217 : Jvm.Cond.instanceMethod ({ cls := "java/lang/IllegalStateException", name := "<init>", desc := "(Ljava/lang/String;)V" } : Jvm.MethodName) ∈ tB := List.mem_filter.mpr ⟨List.mem_append_right _ (List.mem_append_left _ (List.mem_of_getElem? (i := 217) rfl)), rfl⟩
theorem kw_218 : Jvm.Cond.code ({ cls := "java/lang/IllegalStateException", name := "<init>", desc := "(Ljava/lang/String;)V" } : Jvm.MethodName) prog_8_method_2_code (2 : Nat) (Option.none : Option Jvm.ClassFile.FieldType) ∈ tB := List.mem_filter.mpr ⟨List.mem_append_right _ (List.mem_append_left _ (List.mem_of_getElem? (i := 218) rfl)), rfl⟩
theorem kw_219 : Jvm.Cond.methodLink "java/lang/IllegalStateException" (7 : Nat) ({ cls := "java/lang/RuntimeException", name := "<init>", desc := "(Ljava/lang/String;)V" } : Jvm.MethodName) ∈ tB := List.mem_filter.mpr ⟨List.mem_append_right _ (List.mem_append_left _ (List.mem_of_getElem? (i := 219) rfl)), rfl⟩
theorem kw_220 : Jvm.Cond.lays "java/lang/IllegalStateException" "java/lang/Throwable" "depth" "I" ∈ tB := List.mem_filter.mpr ⟨List.mem_append_right _ (List.mem_append_left _ (List.mem_of_getElem? (i := 220) rfl)), rfl⟩
theorem kw_221 : Jvm.Cond.superclass "java/lang/IllegalStateException" "java/lang/RuntimeException" ∈ tB := List.mem_filter.mpr ⟨List.mem_append_right _ (List.mem_append_left _ (List.mem_of_getElem? (i := 221) rfl)), rfl⟩
theorem kw_222 : Jvm.Cond.methodLink "JointSolids" (69 : Nat) ({ cls := "JointSolids", name := "setTool", desc := "(IIIIII)V" } : Jvm.MethodName) ∈ tB := List.mem_filter.mpr ⟨List.mem_append_right _ (List.mem_append_left _ (List.mem_of_getElem? (i := 222) rfl)), rfl⟩
theorem kw_224 : Jvm.Cond.instanceMethod ({ cls := "JointSolids", name := "setTool", desc := "(IIIIII)V" } : Jvm.MethodName) ∈ tB := List.mem_filter.mpr ⟨List.mem_append_right _ (List.mem_append_left _ (List.mem_of_getElem? (i := 224) rfl)), rfl⟩
theorem kw_225 : Jvm.Cond.code ({ cls := "JointSolids", name := "setTool", desc := "(IIIIII)V" } : Jvm.MethodName) prog_1_method_24_code (7 : Nat) (Option.none : Option Jvm.ClassFile.FieldType) ∈ tB := List.mem_filter.mpr ⟨List.mem_append_right _ (List.mem_append_left _ (List.mem_of_getElem? (i := 225) rfl)), rfl⟩
theorem kw_226 : Jvm.Cond.methodLink "JointSolids" (73 : Nat) ({ cls := "java/lang/System", name := "arraycopy", desc := "(Ljava/lang/Object;ILjava/lang/Object;II)V" } : Jvm.MethodName) ∈ tB := List.mem_filter.mpr ⟨List.mem_append_right _ (List.mem_append_left _ (List.mem_of_getElem? (i := 226) rfl)), rfl⟩
theorem kw_227 : Jvm.Cond.static ({ cls := "java/lang/System", name := "arraycopy", desc := "(Ljava/lang/Object;ILjava/lang/Object;II)V" } : Jvm.MethodName) ∈ tB := List.mem_filter.mpr ⟨List.mem_append_right _ (List.mem_append_left _ (List.mem_of_getElem? (i := 227) rfl)), rfl⟩
theorem kw_228 : Jvm.Cond.native ({ cls := "java/lang/System", name := "arraycopy", desc := "(Ljava/lang/Object;ILjava/lang/Object;II)V" } : Jvm.MethodName) ∈ tB := List.mem_filter.mpr ⟨List.mem_append_right _ (List.mem_append_left _ (List.mem_of_getElem? (i := 228) rfl)), rfl⟩
theorem kw_231 : Jvm.Cond.instanceMethod ({ cls := "JointSolids$Solid", name := "add", desc := "([II)V" } : Jvm.MethodName) ∈ tB := List.mem_filter.mpr ⟨List.mem_append_right _ (List.mem_append_left _ (List.mem_of_getElem? (i := 231) rfl)), rfl⟩
theorem kw_232 : Jvm.Cond.code ({ cls := "JointSolids$Solid", name := "add", desc := "([II)V" } : Jvm.MethodName) prog_3_method_3_code (3 : Nat) (Option.none : Option Jvm.ClassFile.FieldType) ∈ tB := List.mem_filter.mpr ⟨List.mem_append_right _ (List.mem_append_left _ (List.mem_of_getElem? (i := 232) rfl)), rfl⟩
theorem kw_233 : Jvm.Cond.methodLink "JointSolids$Solid" (19 : Nat) ({ cls := "java/lang/System", name := "arraycopy", desc := "(Ljava/lang/Object;ILjava/lang/Object;II)V" } : Jvm.MethodName) ∈ tB := List.mem_filter.mpr ⟨List.mem_append_right _ (List.mem_append_left _ (List.mem_of_getElem? (i := 233) rfl)), rfl⟩
theorem kw_234 : Jvm.Cond.methodLink "JointSolidsLaw" (78 : Nat) ({ cls := "JointSolidsLaw", name := "cut", desc := "(LJointSolids;IIIIIII[J)I" } : Jvm.MethodName) ∈ tB := List.mem_filter.mpr ⟨List.mem_append_right _ (List.mem_append_left _ (List.mem_of_getElem? (i := 234) rfl)), rfl⟩
theorem kw_235 : Jvm.Cond.static ({ cls := "JointSolidsLaw", name := "cut", desc := "(LJointSolids;IIIIIII[J)I" } : Jvm.MethodName) ∈ tB := List.mem_filter.mpr ⟨List.mem_append_right _ (List.mem_append_left _ (List.mem_of_getElem? (i := 235) rfl)), rfl⟩
theorem kw_236 : Jvm.Cond.codeWith ({ cls := "JointSolidsLaw", name := "cut", desc := "(LJointSolids;IIIIIII[J)I" } : Jvm.MethodName) method_4_code (10 : Nat) (Option.some Jvm.ClassFile.FieldType.int) [((0 : Nat), (27 : Nat), (30 : Nat), (21 : Nat)), ((0 : Nat), (27 : Nat), (34 : Nat), (13 : Nat)), ((0 : Nat), (27 : Nat), (38 : Nat), (15 : Nat))] ∈ tB := List.mem_filter.mpr ⟨List.mem_append_right _ (List.mem_append_left _ (List.mem_of_getElem? (i := 236) rfl)), rfl⟩
theorem kw_237 : Jvm.Cond.classLink "JointSolidsLaw" (21 : Nat) "java/lang/IndexOutOfBoundsException" ∈ tB := List.mem_filter.mpr ⟨List.mem_append_right _ (List.mem_append_left _ (List.mem_of_getElem? (i := 237) rfl)), rfl⟩
theorem kw_238 : Jvm.Cond.methodLink "JointSolidsLaw" (17 : Nat) ({ cls := "JointSolids", name := "cut", desc := "(IIIIIII)Z" } : Jvm.MethodName) ∈ tB := List.mem_filter.mpr ⟨List.mem_append_right _ (List.mem_append_left _ (List.mem_of_getElem? (i := 238) rfl)), rfl⟩
theorem kw_239 : Jvm.Cond.instanceMethod ({ cls := "JointSolids", name := "cut", desc := "(IIIIIII)Z" } : Jvm.MethodName) ∈ tB := List.mem_filter.mpr ⟨List.mem_append_right _ (List.mem_append_left _ (List.mem_of_getElem? (i := 239) rfl)), rfl⟩
theorem kw_240 : Jvm.Cond.selects "JointSolids" ({ cls := "JointSolids", name := "cut", desc := "(IIIIIII)Z" } : Jvm.MethodName) ({ cls := "JointSolids", name := "cut", desc := "(IIIIIII)Z" } : Jvm.MethodName) ∈ tB := List.mem_filter.mpr ⟨List.mem_append_right _ (List.mem_append_right _ (List.mem_append_left _ (List.mem_of_getElem? (i := 0) rfl))), rfl⟩
theorem kw_241 : Jvm.Cond.code ({ cls := "JointSolids", name := "cut", desc := "(IIIIIII)Z" } : Jvm.MethodName) prog_1_method_3_code (11 : Nat) (Option.some Jvm.ClassFile.FieldType.boolean) ∈ tB := List.mem_filter.mpr ⟨List.mem_append_right _ (List.mem_append_right _ (List.mem_append_left _ (List.mem_of_getElem? (i := 1) rfl))), rfl⟩
theorem kw_244 : Jvm.Cond.instanceMethod ({ cls := "JointSolids$Solid", name := "total", desc := "()J" } : Jvm.MethodName) ∈ tB := List.mem_filter.mpr ⟨List.mem_append_right _ (List.mem_append_right _ (List.mem_append_left _ (List.mem_of_getElem? (i := 4) rfl))), rfl⟩
theorem kw_245 : Jvm.Cond.code ({ cls := "JointSolids$Solid", name := "total", desc := "()J" } : Jvm.MethodName) prog_3_method_5_code (5 : Nat) (Option.some Jvm.ClassFile.FieldType.long) ∈ tB := List.mem_filter.mpr ⟨List.mem_append_right _ (List.mem_append_right _ (List.mem_append_left _ (List.mem_of_getElem? (i := 5) rfl))), rfl⟩
theorem kw_247 : Jvm.Cond.methodLink "JointSolids" (91 : Nat) ({ cls := "JointSolids", name := "carve", desc := "(LJointSolids$Solid;)Z" } : Jvm.MethodName) ∈ tB := List.mem_filter.mpr ⟨List.mem_append_right _ (List.mem_append_right _ (List.mem_append_left _ (List.mem_of_getElem? (i := 7) rfl))), rfl⟩
theorem kw_249 : Jvm.Cond.instanceMethod ({ cls := "JointSolids", name := "carve", desc := "(LJointSolids$Solid;)Z" } : Jvm.MethodName) ∈ tB := List.mem_filter.mpr ⟨List.mem_append_right _ (List.mem_append_right _ (List.mem_append_left _ (List.mem_of_getElem? (i := 9) rfl))), rfl⟩
theorem kw_250 : Jvm.Cond.code ({ cls := "JointSolids", name := "carve", desc := "(LJointSolids$Solid;)Z" } : Jvm.MethodName) prog_1_method_25_code (3 : Nat) (Option.some Jvm.ClassFile.FieldType.boolean) ∈ tB := List.mem_filter.mpr ⟨List.mem_append_right _ (List.mem_append_right _ (List.mem_append_left _ (List.mem_of_getElem? (i := 10) rfl))), rfl⟩
theorem kw_253 : Jvm.Cond.instanceMethod ({ cls := "JointSolids$Solid", name := "empty", desc := "()V" } : Jvm.MethodName) ∈ tB := List.mem_filter.mpr ⟨List.mem_append_right _ (List.mem_append_right _ (List.mem_append_left _ (List.mem_of_getElem? (i := 13) rfl))), rfl⟩
theorem kw_254 : Jvm.Cond.code ({ cls := "JointSolids$Solid", name := "empty", desc := "()V" } : Jvm.MethodName) prog_3_method_2_code (1 : Nat) (Option.none : Option Jvm.ClassFile.FieldType) ∈ tB := List.mem_filter.mpr ⟨List.mem_append_right _ (List.mem_append_right _ (List.mem_append_left _ (List.mem_of_getElem? (i := 14) rfl))), rfl⟩
theorem kw_255 : Jvm.Cond.methodLink "JointSolids" (236 : Nat) ({ cls := "JointSolids", name := "addRest", desc := "(LJointSolids$Solid;I)V" } : Jvm.MethodName) ∈ tB := List.mem_filter.mpr ⟨List.mem_append_right _ (List.mem_append_right _ (List.mem_append_left _ (List.mem_of_getElem? (i := 15) rfl))), rfl⟩
theorem kw_257 : Jvm.Cond.instanceMethod ({ cls := "JointSolids", name := "addRest", desc := "(LJointSolids$Solid;I)V" } : Jvm.MethodName) ∈ tB := List.mem_filter.mpr ⟨List.mem_append_right _ (List.mem_append_right _ (List.mem_append_left _ (List.mem_of_getElem? (i := 17) rfl))), rfl⟩
theorem kw_258 : Jvm.Cond.code ({ cls := "JointSolids", name := "addRest", desc := "(LJointSolids$Solid;I)V" } : Jvm.MethodName) prog_1_method_26_code (8 : Nat) (Option.none : Option Jvm.ClassFile.FieldType) ∈ tB := List.mem_filter.mpr ⟨List.mem_append_right _ (List.mem_append_right _ (List.mem_append_left _ (List.mem_of_getElem? (i := 18) rfl))), rfl⟩
theorem kw_259 : Jvm.Cond.methodLink "JointSolids" (240 : Nat) ({ cls := "JointSolids", name := "addSlab", desc := "(III)V" } : Jvm.MethodName) ∈ tB := List.mem_filter.mpr ⟨List.mem_append_right _ (List.mem_append_right _ (List.mem_append_left _ (List.mem_of_getElem? (i := 19) rfl))), rfl⟩
theorem kw_261 : Jvm.Cond.instanceMethod ({ cls := "JointSolids", name := "addSlab", desc := "(III)V" } : Jvm.MethodName) ∈ tB := List.mem_filter.mpr ⟨List.mem_append_right _ (List.mem_append_right _ (List.mem_append_left _ (List.mem_of_getElem? (i := 21) rfl))), rfl⟩
theorem kw_262 : Jvm.Cond.code ({ cls := "JointSolids", name := "addSlab", desc := "(III)V" } : Jvm.MethodName) prog_1_method_27_code (4 : Nat) (Option.none : Option Jvm.ClassFile.FieldType) ∈ tB := List.mem_filter.mpr ⟨List.mem_append_right _ (List.mem_append_right _ (List.mem_append_left _ (List.mem_of_getElem? (i := 22) rfl))), rfl⟩
theorem kw_265 : Jvm.Cond.instanceMethod ({ cls := "JointSolids$Solid", name := "copy", desc := "(LJointSolids$Solid;)V" } : Jvm.MethodName) ∈ tB := List.mem_filter.mpr ⟨List.mem_append_right _ (List.mem_append_right _ (List.mem_append_left _ (List.mem_of_getElem? (i := 25) rfl))), rfl⟩
theorem kw_266 : Jvm.Cond.code ({ cls := "JointSolids$Solid", name := "copy", desc := "(LJointSolids$Solid;)V" } : Jvm.MethodName) prog_3_method_4_code (2 : Nat) (Option.none : Option Jvm.ClassFile.FieldType) ∈ tB := List.mem_filter.mpr ⟨List.mem_append_right _ (List.mem_append_right _ (List.mem_append_left _ (List.mem_of_getElem? (i := 26) rfl))), rfl⟩
theorem kw_267 : Jvm.Cond.methodLink "JointSolids$Solid" (25 : Nat) ({ cls := "java/lang/Math", name := "min", desc := "(II)I" } : Jvm.MethodName) ∈ tB := List.mem_filter.mpr ⟨List.mem_append_right _ (List.mem_append_right _ (List.mem_append_left _ (List.mem_of_getElem? (i := 27) rfl))), rfl⟩
theorem kw_269 : Jvm.Cond.methodLink "JointSolidsLaw" (82 : Nat) ({ cls := "JointSolidsLaw", name := "clear", desc := "(LJointSolids;I)I" } : Jvm.MethodName) ∈ tB := List.mem_filter.mpr ⟨List.mem_append_right _ (List.mem_append_right _ (List.mem_append_left _ (List.mem_of_getElem? (i := 29) rfl))), rfl⟩
theorem kw_270 : Jvm.Cond.static ({ cls := "JointSolidsLaw", name := "clear", desc := "(LJointSolids;I)I" } : Jvm.MethodName) ∈ tB := List.mem_filter.mpr ⟨List.mem_append_right _ (List.mem_append_right _ (List.mem_append_left _ (List.mem_of_getElem? (i := 30) rfl))), rfl⟩
theorem kw_271 : Jvm.Cond.codeWith ({ cls := "JointSolidsLaw", name := "clear", desc := "(LJointSolids;I)I" } : Jvm.MethodName) method_5_code (3 : Nat) (Option.some Jvm.ClassFile.FieldType.int) [((0 : Nat), (5 : Nat), (8 : Nat), (13 : Nat))] ∈ tB := List.mem_filter.mpr ⟨List.mem_append_right _ (List.mem_append_right _ (List.mem_append_left _ (List.mem_of_getElem? (i := 31) rfl))), rfl⟩
theorem kw_272 : Jvm.Cond.methodLink "JointSolidsLaw" (23 : Nat) ({ cls := "JointSolids", name := "clear", desc := "(I)V" } : Jvm.MethodName) ∈ tB := List.mem_filter.mpr ⟨List.mem_append_right _ (List.mem_append_right _ (List.mem_append_left _ (List.mem_of_getElem? (i := 32) rfl))), rfl⟩
theorem kw_273 : Jvm.Cond.instanceMethod ({ cls := "JointSolids", name := "clear", desc := "(I)V" } : Jvm.MethodName) ∈ tB := List.mem_filter.mpr ⟨List.mem_append_right _ (List.mem_append_right _ (List.mem_append_left _ (List.mem_of_getElem? (i := 33) rfl))), rfl⟩
theorem kw_274 : Jvm.Cond.selects "JointSolids" ({ cls := "JointSolids", name := "clear", desc := "(I)V" } : Jvm.MethodName) ({ cls := "JointSolids", name := "clear", desc := "(I)V" } : Jvm.MethodName) ∈ tB := List.mem_filter.mpr ⟨List.mem_append_right _ (List.mem_append_right _ (List.mem_append_left _ (List.mem_of_getElem? (i := 34) rfl))), rfl⟩
theorem kw_275 : Jvm.Cond.code ({ cls := "JointSolids", name := "clear", desc := "(I)V" } : Jvm.MethodName) prog_1_method_4_code (2 : Nat) (Option.none : Option Jvm.ClassFile.FieldType) ∈ tB := List.mem_filter.mpr ⟨List.mem_append_right _ (List.mem_append_right _ (List.mem_append_left _ (List.mem_of_getElem? (i := 35) rfl))), rfl⟩
theorem kw_277 : Jvm.Cond.methodLink "JointSolidsLaw" (86 : Nat) ({ cls := "JointSolidsLaw", name := "joint", desc := "(LJointSolids;IIIII[J)I" } : Jvm.MethodName) ∈ tB := List.mem_filter.mpr ⟨List.mem_append_right _ (List.mem_append_right _ (List.mem_append_left _ (List.mem_of_getElem? (i := 37) rfl))), rfl⟩
theorem kw_278 : Jvm.Cond.static ({ cls := "JointSolidsLaw", name := "joint", desc := "(LJointSolids;IIIII[J)I" } : Jvm.MethodName) ∈ tB := List.mem_filter.mpr ⟨List.mem_append_right _ (List.mem_append_right _ (List.mem_append_left _ (List.mem_of_getElem? (i := 38) rfl))), rfl⟩
theorem kw_279 : Jvm.Cond.codeWith ({ cls := "JointSolidsLaw", name := "joint", desc := "(LJointSolids;IIIII[J)I" } : Jvm.MethodName) method_6_code (8 : Nat) (Option.some Jvm.ClassFile.FieldType.int) [((0 : Nat), (16 : Nat), (19 : Nat), (21 : Nat)), ((0 : Nat), (16 : Nat), (23 : Nat), (13 : Nat)), ((0 : Nat), (16 : Nat), (27 : Nat), (15 : Nat))] ∈ tB := List.mem_filter.mpr ⟨List.mem_append_right _ (List.mem_append_right _ (List.mem_append_left _ (List.mem_of_getElem? (i := 39) rfl))), rfl⟩
theorem kw_280 : Jvm.Cond.methodLink "JointSolidsLaw" (27 : Nat) ({ cls := "JointSolids", name := "joint", desc := "(IIIII)I" } : Jvm.MethodName) ∈ tB := List.mem_filter.mpr ⟨List.mem_append_right _ (List.mem_append_right _ (List.mem_append_left _ (List.mem_of_getElem? (i := 40) rfl))), rfl⟩
theorem kw_281 : Jvm.Cond.instanceMethod ({ cls := "JointSolids", name := "joint", desc := "(IIIII)I" } : Jvm.MethodName) ∈ tB := List.mem_filter.mpr ⟨List.mem_append_right _ (List.mem_append_right _ (List.mem_append_left _ (List.mem_of_getElem? (i := 41) rfl))), rfl⟩
theorem kw_282 : Jvm.Cond.selects "JointSolids" ({ cls := "JointSolids", name := "joint", desc := "(IIIII)I" } : Jvm.MethodName) ({ cls := "JointSolids", name := "joint", desc := "(IIIII)I" } : Jvm.MethodName) ∈ tB := List.mem_filter.mpr ⟨List.mem_append_right _ (List.mem_append_right _ (List.mem_append_left _ (List.mem_of_getElem? (i := 42) rfl))), rfl⟩
theorem kw_283 : Jvm.Cond.code ({ cls := "JointSolids", name := "joint", desc := "(IIIII)I" } : Jvm.MethodName) prog_1_method_5_code (11 : Nat) (Option.some Jvm.ClassFile.FieldType.int) ∈ tB := List.mem_filter.mpr ⟨List.mem_append_right _ (List.mem_append_right _ (List.mem_append_left _ (List.mem_of_getElem? (i := 43) rfl))), rfl⟩
theorem kw_284 : Jvm.Cond.methodLink "JointSolids" (105 : Nat) ({ cls := "JointSolids", name := "needKind", desc := "(I)V" } : Jvm.MethodName) ∈ tB := List.mem_filter.mpr ⟨List.mem_append_right _ (List.mem_append_right _ (List.mem_append_left _ (List.mem_of_getElem? (i := 44) rfl))), rfl⟩
theorem kw_285 : Jvm.Cond.static ({ cls := "JointSolids", name := "needKind", desc := "(I)V" } : Jvm.MethodName) ∈ tB := List.mem_filter.mpr ⟨List.mem_append_right _ (List.mem_append_right _ (List.mem_append_left _ (List.mem_of_getElem? (i := 45) rfl))), rfl⟩
theorem kw_286 : Jvm.Cond.code ({ cls := "JointSolids", name := "needKind", desc := "(I)V" } : Jvm.MethodName) prog_1_method_18_code (1 : Nat) (Option.none : Option Jvm.ClassFile.FieldType) ∈ tB := List.mem_filter.mpr ⟨List.mem_append_right _ (List.mem_append_right _ (List.mem_append_left _ (List.mem_of_getElem? (i := 46) rfl))), rfl⟩
theorem kw_288 : Jvm.Cond.methodLink "JointSolids" (109 : Nat) ({ cls := "JointSolids", name := "needAxis", desc := "(I)V" } : Jvm.MethodName) ∈ tB := List.mem_filter.mpr ⟨List.mem_append_right _ (List.mem_append_right _ (List.mem_append_left _ (List.mem_of_getElem? (i := 48) rfl))), rfl⟩
theorem kw_289 : Jvm.Cond.static ({ cls := "JointSolids", name := "needAxis", desc := "(I)V" } : Jvm.MethodName) ∈ tB := List.mem_filter.mpr ⟨List.mem_append_right _ (List.mem_append_right _ (List.mem_append_left _ (List.mem_of_getElem? (i := 49) rfl))), rfl⟩
theorem kw_290 : Jvm.Cond.code ({ cls := "JointSolids", name := "needAxis", desc := "(I)V" } : Jvm.MethodName) prog_1_method_19_code (1 : Nat) (Option.none : Option Jvm.ClassFile.FieldType) ∈ tB := List.mem_filter.mpr ⟨List.mem_append_right _ (List.mem_append_right _ (List.mem_append_left _ (List.mem_of_getElem? (i := 50) rfl))), rfl⟩
theorem kw_292 : Jvm.Cond.methodLink "JointSolids" (112 : Nat) ({ cls := "JointSolids", name := "needTwo", desc := "(II)V" } : Jvm.MethodName) ∈ tB := List.mem_filter.mpr ⟨List.mem_append_right _ (List.mem_append_right _ (List.mem_append_left _ (List.mem_of_getElem? (i := 52) rfl))), rfl⟩
theorem kw_293 : Jvm.Cond.static ({ cls := "JointSolids", name := "needTwo", desc := "(II)V" } : Jvm.MethodName) ∈ tB := List.mem_filter.mpr ⟨List.mem_append_right _ (List.mem_append_right _ (List.mem_append_left _ (List.mem_of_getElem? (i := 53) rfl))), rfl⟩
theorem kw_294 : Jvm.Cond.code ({ cls := "JointSolids", name := "needTwo", desc := "(II)V" } : Jvm.MethodName) prog_1_method_21_code (2 : Nat) (Option.none : Option Jvm.ClassFile.FieldType) ∈ tB := List.mem_filter.mpr ⟨List.mem_append_right _ (List.mem_append_right _ (List.mem_append_left _ (List.mem_of_getElem? (i := 54) rfl))), rfl⟩
theorem kw_296 : Jvm.Cond.methodLink "JointSolids" (116 : Nat) ({ cls := "JointSolids", name := "needWidth", desc := "(I)V" } : Jvm.MethodName) ∈ tB := List.mem_filter.mpr ⟨List.mem_append_right _ (List.mem_append_right _ (List.mem_append_left _ (List.mem_of_getElem? (i := 56) rfl))), rfl⟩
theorem kw_297 : Jvm.Cond.static ({ cls := "JointSolids", name := "needWidth", desc := "(I)V" } : Jvm.MethodName) ∈ tB := List.mem_filter.mpr ⟨List.mem_append_right _ (List.mem_append_right _ (List.mem_append_left _ (List.mem_of_getElem? (i := 57) rfl))), rfl⟩
theorem kw_298 : Jvm.Cond.code ({ cls := "JointSolids", name := "needWidth", desc := "(I)V" } : Jvm.MethodName) prog_1_method_20_code (1 : Nat) (Option.none : Option Jvm.ClassFile.FieldType) ∈ tB := List.mem_filter.mpr ⟨List.mem_append_right _ (List.mem_append_right _ (List.mem_append_left _ (List.mem_of_getElem? (i := 58) rfl))), rfl⟩
theorem kw_301 : Jvm.Cond.methodLink "JointSolids" (124 : Nat) ({ cls := "JointSolids", name := "findCommon", desc := "(II)Z" } : Jvm.MethodName) ∈ tB := List.mem_filter.mpr ⟨List.mem_append_right _ (List.mem_append_right _ (List.mem_append_left _ (List.mem_of_getElem? (i := 61) rfl))), rfl⟩
theorem kw_303 : Jvm.Cond.instanceMethod ({ cls := "JointSolids", name := "findCommon", desc := "(II)Z" } : Jvm.MethodName) ∈ tB := List.mem_filter.mpr ⟨List.mem_append_right _ (List.mem_append_right _ (List.mem_append_left _ (List.mem_of_getElem? (i := 63) rfl))), rfl⟩
theorem kw_304 : Jvm.Cond.code ({ cls := "JointSolids", name := "findCommon", desc := "(II)Z" } : Jvm.MethodName) prog_1_method_28_code (7 : Nat) (Option.some Jvm.ClassFile.FieldType.boolean) ∈ tB := List.mem_filter.mpr ⟨List.mem_append_right _ (List.mem_append_right _ (List.mem_append_left _ (List.mem_of_getElem? (i := 64) rfl))), rfl⟩
theorem kw_306 : Jvm.Cond.methodLink "JointSolids" (130 : Nat) ({ cls := "JointSolids", name := "slicesOf", desc := "(II)I" } : Jvm.MethodName) ∈ tB := List.mem_filter.mpr ⟨List.mem_append_right _ (List.mem_append_right _ (List.mem_append_left _ (List.mem_of_getElem? (i := 66) rfl))), rfl⟩
theorem kw_307 : Jvm.Cond.static ({ cls := "JointSolids", name := "slicesOf", desc := "(II)I" } : Jvm.MethodName) ∈ tB := List.mem_filter.mpr ⟨List.mem_append_right _ (List.mem_append_right _ (List.mem_append_left _ (List.mem_of_getElem? (i := 67) rfl))), rfl⟩
theorem kw_308 : Jvm.Cond.code ({ cls := "JointSolids", name := "slicesOf", desc := "(II)I" } : Jvm.MethodName) prog_1_method_29_code (2 : Nat) (Option.some Jvm.ClassFile.FieldType.int) ∈ tB := List.mem_filter.mpr ⟨List.mem_append_right _ (List.mem_append_right _ (List.mem_append_left _ (List.mem_of_getElem? (i := 68) rfl))), rfl⟩
theorem kw_310 : Jvm.Cond.methodLink "JointSolids" (136 : Nat) ({ cls := "JointSolids", name := "leastSize", desc := "(II)I" } : Jvm.MethodName) ∈ tB := List.mem_filter.mpr ⟨List.mem_append_right _ (List.mem_append_right _ (List.mem_append_left _ (List.mem_of_getElem? (i := 70) rfl))), rfl⟩
theorem kw_311 : Jvm.Cond.static ({ cls := "JointSolids", name := "leastSize", desc := "(II)I" } : Jvm.MethodName) ∈ tB := List.mem_filter.mpr ⟨List.mem_append_right _ (List.mem_append_right _ (List.mem_append_left _ (List.mem_of_getElem? (i := 71) rfl))), rfl⟩
theorem kw_312 : Jvm.Cond.code ({ cls := "JointSolids", name := "leastSize", desc := "(II)I" } : Jvm.MethodName) prog_1_method_30_code (2 : Nat) (Option.some Jvm.ClassFile.FieldType.int) ∈ tB := List.mem_filter.mpr ⟨List.mem_append_right _ (List.mem_append_right _ (List.mem_append_left _ (List.mem_of_getElem? (i := 72) rfl))), rfl⟩
theorem kw_313 : Jvm.Cond.methodLink "JointSolids" (143 : Nat) ({ cls := "JointSolids", name := "markSpans", desc := "(III)I" } : Jvm.MethodName) ∈ tB := List.mem_filter.mpr ⟨List.mem_append_right _ (List.mem_append_right _ (List.mem_append_left _ (List.mem_of_getElem? (i := 73) rfl))), rfl⟩
theorem kw_315 : Jvm.Cond.instanceMethod ({ cls := "JointSolids", name := "markSpans", desc := "(III)I" } : Jvm.MethodName) ∈ tB := List.mem_filter.mpr ⟨List.mem_append_right _ (List.mem_append_right _ (List.mem_append_left _ (List.mem_of_getElem? (i := 75) rfl))), rfl⟩
theorem kw_316 : Jvm.Cond.code ({ cls := "JointSolids", name := "markSpans", desc := "(III)I" } : Jvm.MethodName) prog_1_method_31_code (6 : Nat) (Option.some Jvm.ClassFile.FieldType.int) ∈ tB := List.mem_filter.mpr ⟨List.mem_append_right _ (List.mem_append_right _ (List.mem_append_left _ (List.mem_of_getElem? (i := 76) rfl))), rfl⟩
theorem kw_317 : Jvm.Cond.methodLink "JointSolids" (147 : Nat) ({ cls := "JointSolids", name := "carveSpans", desc := "(III)Z" } : Jvm.MethodName) ∈ tB := List.mem_filter.mpr ⟨List.mem_append_right _ (List.mem_append_right _ (List.mem_append_left _ (List.mem_of_getElem? (i := 77) rfl))), rfl⟩
theorem kw_319 : Jvm.Cond.instanceMethod ({ cls := "JointSolids", name := "carveSpans", desc := "(III)Z" } : Jvm.MethodName) ∈ tB := List.mem_filter.mpr ⟨List.mem_append_right _ (List.mem_append_right _ (List.mem_append_left _ (List.mem_of_getElem? (i := 79) rfl))), rfl⟩
theorem kw_320 : Jvm.Cond.code ({ cls := "JointSolids", name := "carveSpans", desc := "(III)Z" } : Jvm.MethodName) prog_1_method_32_code (6 : Nat) (Option.some Jvm.ClassFile.FieldType.boolean) ∈ tB := List.mem_filter.mpr ⟨List.mem_append_right _ (List.mem_append_right _ (List.mem_append_left _ (List.mem_of_getElem? (i := 80) rfl))), rfl⟩
theorem kw_321 : Jvm.Cond.methodLink "JointSolids" (244 : Nat) ({ cls := "JointSolids", name := "setSpan", desc := "(IIII)V" } : Jvm.MethodName) ∈ tB := List.mem_filter.mpr ⟨List.mem_append_right _ (List.mem_append_right _ (List.mem_append_left _ (List.mem_of_getElem? (i := 81) rfl))), rfl⟩
theorem kw_323 : Jvm.Cond.instanceMethod ({ cls := "JointSolids", name := "setSpan", desc := "(IIII)V" } : Jvm.MethodName) ∈ tB := List.mem_filter.mpr ⟨List.mem_append_right _ (List.mem_append_right _ (List.mem_append_left _ (List.mem_of_getElem? (i := 83) rfl))), rfl⟩
theorem kw_324 : Jvm.Cond.code ({ cls := "JointSolids", name := "setSpan", desc := "(IIII)V" } : Jvm.MethodName) prog_1_method_33_code (7 : Nat) (Option.none : Option Jvm.ClassFile.FieldType) ∈ tB := List.mem_filter.mpr ⟨List.mem_append_right _ (List.mem_append_right _ (List.mem_append_left _ (List.mem_of_getElem? (i := 84) rfl))), rfl⟩
theorem kw_325 : Jvm.Cond.instantiable "JointSolids$Joint" (6 : Nat) ∈ tB := List.mem_filter.mpr ⟨List.mem_append_right _ (List.mem_append_right _ (List.mem_append_left _ (List.mem_of_getElem? (i := 85) rfl))), rfl⟩
theorem kw_327 : Jvm.Cond.instanceMethod ({ cls := "JointSolids$Joint", name := "<init>", desc := "(IIII)V" } : Jvm.MethodName) ∈ tB := List.mem_filter.mpr ⟨List.mem_append_right _ (List.mem_append_right _ (List.mem_append_left _ (List.mem_of_getElem? (i := 87) rfl))), rfl⟩
theorem kw_328 : Jvm.Cond.code ({ cls := "JointSolids$Joint", name := "<init>", desc := "(IIII)V" } : Jvm.MethodName) prog_2_method_1_code (5 : Nat) (Option.none : Option Jvm.ClassFile.FieldType) ∈ tB := List.mem_filter.mpr ⟨List.mem_append_right _ (List.mem_append_right _ (List.mem_append_left _ (List.mem_of_getElem? (i := 88) rfl))), rfl⟩
theorem kw_329 : Jvm.Cond.methodLink "JointSolids$Joint" (1 : Nat) ({ cls := "java/lang/Object", name := "<init>", desc := "()V" } : Jvm.MethodName) ∈ tB := List.mem_filter.mpr ⟨List.mem_append_right _ (List.mem_append_right _ (List.mem_append_left _ (List.mem_of_getElem? (i := 89) rfl))), rfl⟩
theorem kw_330 : Jvm.Cond.fieldLink "JointSolids$Joint" (7 : Nat) "JointSolids$Joint" "kind" "I" ∈ tB := List.mem_filter.mpr ⟨List.mem_append_right _ (List.mem_append_right _ (List.mem_append_left _ (List.mem_of_getElem? (i := 90) rfl))), rfl⟩
theorem kw_332 : Jvm.Cond.fieldLink "JointSolids$Joint" (13 : Nat) "JointSolids$Joint" "a" "I" ∈ tB := List.mem_filter.mpr ⟨List.mem_append_right _ (List.mem_append_right _ (List.mem_append_left _ (List.mem_of_getElem? (i := 92) rfl))), rfl⟩
theorem kw_334 : Jvm.Cond.fieldLink "JointSolids$Joint" (16 : Nat) "JointSolids$Joint" "b" "I" ∈ tB := List.mem_filter.mpr ⟨List.mem_append_right _ (List.mem_append_right _ (List.mem_append_left _ (List.mem_of_getElem? (i := 94) rfl))), rfl⟩
theorem kw_336 : Jvm.Cond.fieldLink "JointSolids$Joint" (19 : Nat) "JointSolids$Joint" "axis" "I" ∈ tB := List.mem_filter.mpr ⟨List.mem_append_right _ (List.mem_append_right _ (List.mem_append_left _ (List.mem_of_getElem? (i := 96) rfl))), rfl⟩
theorem kw_340 : Jvm.Cond.laysFinal "JointSolids$Joint" "JointSolids$Joint" "kind" "I" ∈ tB := List.mem_filter.mpr ⟨List.mem_append_right _ (List.mem_append_right _ (List.mem_append_left _ (List.mem_of_getElem? (i := 100) rfl))), rfl⟩
theorem kw_341 : Jvm.Cond.soleField "JointSolids$Joint" "kind" ∈ tB := List.mem_filter.mpr ⟨List.mem_append_right _ (List.mem_append_right _ (List.mem_append_left _ (List.mem_of_getElem? (i := 101) rfl))), rfl⟩
theorem kw_342 : Jvm.Cond.laysFinal "JointSolids$Joint" "JointSolids$Joint" "a" "I" ∈ tB := List.mem_filter.mpr ⟨List.mem_append_right _ (List.mem_append_right _ (List.mem_append_left _ (List.mem_of_getElem? (i := 102) rfl))), rfl⟩
theorem kw_343 : Jvm.Cond.soleField "JointSolids$Joint" "a" ∈ tB := List.mem_filter.mpr ⟨List.mem_append_right _ (List.mem_append_right _ (List.mem_append_left _ (List.mem_of_getElem? (i := 103) rfl))), rfl⟩
theorem kw_344 : Jvm.Cond.laysFinal "JointSolids$Joint" "JointSolids$Joint" "b" "I" ∈ tB := List.mem_filter.mpr ⟨List.mem_append_right _ (List.mem_append_right _ (List.mem_append_left _ (List.mem_of_getElem? (i := 104) rfl))), rfl⟩
theorem kw_345 : Jvm.Cond.soleField "JointSolids$Joint" "b" ∈ tB := List.mem_filter.mpr ⟨List.mem_append_right _ (List.mem_append_right _ (List.mem_append_left _ (List.mem_of_getElem? (i := 105) rfl))), rfl⟩
theorem kw_346 : Jvm.Cond.laysFinal "JointSolids$Joint" "JointSolids$Joint" "axis" "I" ∈ tB := List.mem_filter.mpr ⟨List.mem_append_right _ (List.mem_append_right _ (List.mem_append_left _ (List.mem_of_getElem? (i := 106) rfl))), rfl⟩
theorem kw_347 : Jvm.Cond.soleField "JointSolids$Joint" "axis" ∈ tB := List.mem_filter.mpr ⟨List.mem_append_right _ (List.mem_append_right _ (List.mem_append_left _ (List.mem_of_getElem? (i := 107) rfl))), rfl⟩
theorem kw_348 : Jvm.Cond.lays "JointSolids$Joint" "JointSolids$Joint" "lostA" "J" ∈ tB := List.mem_filter.mpr ⟨List.mem_append_right _ (List.mem_append_right _ (List.mem_append_left _ (List.mem_of_getElem? (i := 108) rfl))), rfl⟩
theorem kw_349 : Jvm.Cond.soleField "JointSolids$Joint" "lostA" ∈ tB := List.mem_filter.mpr ⟨List.mem_append_right _ (List.mem_append_right _ (List.mem_append_left _ (List.mem_of_getElem? (i := 109) rfl))), rfl⟩
theorem kw_350 : Jvm.Cond.lays "JointSolids$Joint" "JointSolids$Joint" "lostB" "J" ∈ tB := List.mem_filter.mpr ⟨List.mem_append_right _ (List.mem_append_right _ (List.mem_append_left _ (List.mem_of_getElem? (i := 110) rfl))), rfl⟩
theorem kw_351 : Jvm.Cond.soleField "JointSolids$Joint" "lostB" ∈ tB := List.mem_filter.mpr ⟨List.mem_append_right _ (List.mem_append_right _ (List.mem_append_left _ (List.mem_of_getElem? (i := 111) rfl))), rfl⟩
theorem kw_352 : Jvm.Cond.superclass "JointSolids$Joint" "java/lang/Object" ∈ tB := List.mem_filter.mpr ⟨List.mem_append_right _ (List.mem_append_right _ (List.mem_append_left _ (List.mem_of_getElem? (i := 112) rfl))), rfl⟩
theorem kw_353 : Jvm.Cond.methodLink "JointSolidsLaw" (90 : Nat) ({ cls := "JointSolidsLaw", name := "pieces", desc := "(LJointSolids;I[J)I" } : Jvm.MethodName) ∈ tB := List.mem_filter.mpr ⟨List.mem_append_right _ (List.mem_append_right _ (List.mem_append_left _ (List.mem_of_getElem? (i := 113) rfl))), rfl⟩
theorem kw_354 : Jvm.Cond.static ({ cls := "JointSolidsLaw", name := "pieces", desc := "(LJointSolids;I[J)I" } : Jvm.MethodName) ∈ tB := List.mem_filter.mpr ⟨List.mem_append_right _ (List.mem_append_right _ (List.mem_append_left _ (List.mem_of_getElem? (i := 114) rfl))), rfl⟩
theorem kw_355 : Jvm.Cond.codeWith ({ cls := "JointSolidsLaw", name := "pieces", desc := "(LJointSolids;I[J)I" } : Jvm.MethodName) method_7_code (4 : Nat) (Option.some Jvm.ClassFile.FieldType.int) [((0 : Nat), (9 : Nat), (12 : Nat), (21 : Nat))] ∈ tB := List.mem_filter.mpr ⟨List.mem_append_right _ (List.mem_append_right _ (List.mem_append_left _ (List.mem_of_getElem? (i := 115) rfl))), rfl⟩
theorem kw_356 : Jvm.Cond.methodLink "JointSolidsLaw" (31 : Nat) ({ cls := "JointSolids", name := "pieces", desc := "(I)I" } : Jvm.MethodName) ∈ tB := List.mem_filter.mpr ⟨List.mem_append_right _ (List.mem_append_right _ (List.mem_append_left _ (List.mem_of_getElem? (i := 116) rfl))), rfl⟩
theorem kw_357 : Jvm.Cond.instanceMethod ({ cls := "JointSolids", name := "pieces", desc := "(I)I" } : Jvm.MethodName) ∈ tB := List.mem_filter.mpr ⟨List.mem_append_right _ (List.mem_append_right _ (List.mem_append_left _ (List.mem_of_getElem? (i := 117) rfl))), rfl⟩
theorem kw_358 : Jvm.Cond.selects "JointSolids" ({ cls := "JointSolids", name := "pieces", desc := "(I)I" } : Jvm.MethodName) ({ cls := "JointSolids", name := "pieces", desc := "(I)I" } : Jvm.MethodName) ∈ tB := List.mem_filter.mpr ⟨List.mem_append_right _ (List.mem_append_right _ (List.mem_append_left _ (List.mem_of_getElem? (i := 118) rfl))), rfl⟩
theorem kw_359 : Jvm.Cond.code ({ cls := "JointSolids", name := "pieces", desc := "(I)I" } : Jvm.MethodName) prog_1_method_6_code (2 : Nat) (Option.some Jvm.ClassFile.FieldType.int) ∈ tB := List.mem_filter.mpr ⟨List.mem_append_right _ (List.mem_append_right _ (List.mem_append_left _ (List.mem_of_getElem? (i := 119) rfl))), rfl⟩
theorem kw_360 : Jvm.Cond.methodLink "JointSolidsLaw" (94 : Nat) ({ cls := "JointSolidsLaw", name := "corner", desc := "(LJointSolids;III[J)I" } : Jvm.MethodName) ∈ tB := List.mem_filter.mpr ⟨List.mem_append_right _ (List.mem_append_right _ (List.mem_append_left _ (List.mem_of_getElem? (i := 120) rfl))), rfl⟩
theorem kw_361 : Jvm.Cond.static ({ cls := "JointSolidsLaw", name := "corner", desc := "(LJointSolids;III[J)I" } : Jvm.MethodName) ∈ tB := List.mem_filter.mpr ⟨List.mem_append_right _ (List.mem_append_right _ (List.mem_append_left _ (List.mem_of_getElem? (i := 121) rfl))), rfl⟩
theorem kw_362 : Jvm.Cond.codeWith ({ cls := "JointSolidsLaw", name := "corner", desc := "(LJointSolids;III[J)I" } : Jvm.MethodName) method_8_code (6 : Nat) (Option.some Jvm.ClassFile.FieldType.int) [((0 : Nat), (12 : Nat), (15 : Nat), (21 : Nat))] ∈ tB := List.mem_filter.mpr ⟨List.mem_append_right _ (List.mem_append_right _ (List.mem_append_left _ (List.mem_of_getElem? (i := 122) rfl))), rfl⟩
theorem kw_363 : Jvm.Cond.methodLink "JointSolidsLaw" (35 : Nat) ({ cls := "JointSolids", name := "corner", desc := "(III)I" } : Jvm.MethodName) ∈ tB := List.mem_filter.mpr ⟨List.mem_append_right _ (List.mem_append_right _ (List.mem_append_left _ (List.mem_of_getElem? (i := 123) rfl))), rfl⟩
theorem kw_364 : Jvm.Cond.instanceMethod ({ cls := "JointSolids", name := "corner", desc := "(III)I" } : Jvm.MethodName) ∈ tB := List.mem_filter.mpr ⟨List.mem_append_right _ (List.mem_append_right _ (List.mem_append_left _ (List.mem_of_getElem? (i := 124) rfl))), rfl⟩
theorem kw_365 : Jvm.Cond.selects "JointSolids" ({ cls := "JointSolids", name := "corner", desc := "(III)I" } : Jvm.MethodName) ({ cls := "JointSolids", name := "corner", desc := "(III)I" } : Jvm.MethodName) ∈ tB := List.mem_filter.mpr ⟨List.mem_append_right _ (List.mem_append_right _ (List.mem_append_left _ (List.mem_of_getElem? (i := 125) rfl))), rfl⟩
theorem kw_366 : Jvm.Cond.code ({ cls := "JointSolids", name := "corner", desc := "(III)I" } : Jvm.MethodName) prog_1_method_7_code (5 : Nat) (Option.some Jvm.ClassFile.FieldType.int) ∈ tB := List.mem_filter.mpr ⟨List.mem_append_right _ (List.mem_append_right _ (List.mem_append_left _ (List.mem_of_getElem? (i := 126) rfl))), rfl⟩
theorem kw_369 : Jvm.Cond.methodLink "JointSolidsLaw" (98 : Nat) ({ cls := "JointSolidsLaw", name := "volume", desc := "(LJointSolids;I[J)I" } : Jvm.MethodName) ∈ tB := List.mem_filter.mpr ⟨List.mem_append_right _ (List.mem_append_right _ (List.mem_append_left _ (List.mem_of_getElem? (i := 129) rfl))), rfl⟩
theorem kw_370 : Jvm.Cond.static ({ cls := "JointSolidsLaw", name := "volume", desc := "(LJointSolids;I[J)I" } : Jvm.MethodName) ∈ tB := List.mem_filter.mpr ⟨List.mem_append_right _ (List.mem_append_right _ (List.mem_append_left _ (List.mem_of_getElem? (i := 130) rfl))), rfl⟩
theorem kw_371 : Jvm.Cond.codeWith ({ cls := "JointSolidsLaw", name := "volume", desc := "(LJointSolids;I[J)I" } : Jvm.MethodName) method_9_code (4 : Nat) (Option.some Jvm.ClassFile.FieldType.int) [((0 : Nat), (8 : Nat), (11 : Nat), (21 : Nat))] ∈ tB := List.mem_filter.mpr ⟨List.mem_append_right _ (List.mem_append_right _ (List.mem_append_left _ (List.mem_of_getElem? (i := 131) rfl))), rfl⟩
theorem kw_372 : Jvm.Cond.methodLink "JointSolidsLaw" (39 : Nat) ({ cls := "JointSolids", name := "volume", desc := "(I)J" } : Jvm.MethodName) ∈ tB := List.mem_filter.mpr ⟨List.mem_append_right _ (List.mem_append_right _ (List.mem_append_left _ (List.mem_of_getElem? (i := 132) rfl))), rfl⟩
theorem kw_373 : Jvm.Cond.instanceMethod ({ cls := "JointSolids", name := "volume", desc := "(I)J" } : Jvm.MethodName) ∈ tB := List.mem_filter.mpr ⟨List.mem_append_right _ (List.mem_append_right _ (List.mem_append_left _ (List.mem_of_getElem? (i := 133) rfl))), rfl⟩
theorem kw_374 : Jvm.Cond.selects "JointSolids" ({ cls := "JointSolids", name := "volume", desc := "(I)J" } : Jvm.MethodName) ({ cls := "JointSolids", name := "volume", desc := "(I)J" } : Jvm.MethodName) ∈ tB := List.mem_filter.mpr ⟨List.mem_append_right _ (List.mem_append_right _ (List.mem_append_left _ (List.mem_of_getElem? (i := 134) rfl))), rfl⟩
theorem kw_375 : Jvm.Cond.code ({ cls := "JointSolids", name := "volume", desc := "(I)J" } : Jvm.MethodName) prog_1_method_8_code (2 : Nat) (Option.some Jvm.ClassFile.FieldType.long) ∈ tB := List.mem_filter.mpr ⟨List.mem_append_right _ (List.mem_append_right _ (List.mem_append_left _ (List.mem_of_getElem? (i := 135) rfl))), rfl⟩
theorem kw_376 : Jvm.Cond.methodLink "JointSolidsLaw" (101 : Nat) ({ cls := "JointSolidsLaw", name := "overlap", desc := "(LJointSolids;II[J)I" } : Jvm.MethodName) ∈ tB := List.mem_filter.mpr ⟨List.mem_append_right _ (List.mem_append_right _ (List.mem_append_left _ (List.mem_of_getElem? (i := 136) rfl))), rfl⟩
theorem kw_377 : Jvm.Cond.static ({ cls := "JointSolidsLaw", name := "overlap", desc := "(LJointSolids;II[J)I" } : Jvm.MethodName) ∈ tB := List.mem_filter.mpr ⟨List.mem_append_right _ (List.mem_append_right _ (List.mem_append_left _ (List.mem_of_getElem? (i := 137) rfl))), rfl⟩
theorem kw_378 : Jvm.Cond.codeWith ({ cls := "JointSolidsLaw", name := "overlap", desc := "(LJointSolids;II[J)I" } : Jvm.MethodName) method_10_code (5 : Nat) (Option.some Jvm.ClassFile.FieldType.int) [((0 : Nat), (9 : Nat), (12 : Nat), (21 : Nat)), ((0 : Nat), (9 : Nat), (16 : Nat), (13 : Nat))] ∈ tB := List.mem_filter.mpr ⟨List.mem_append_right _ (List.mem_append_right _ (List.mem_append_left _ (List.mem_of_getElem? (i := 138) rfl))), rfl⟩
theorem kw_379 : Jvm.Cond.methodLink "JointSolidsLaw" (43 : Nat) ({ cls := "JointSolids", name := "overlap", desc := "(II)J" } : Jvm.MethodName) ∈ tB := List.mem_filter.mpr ⟨List.mem_append_right _ (List.mem_append_right _ (List.mem_append_left _ (List.mem_of_getElem? (i := 139) rfl))), rfl⟩
theorem kw_380 : Jvm.Cond.instanceMethod ({ cls := "JointSolids", name := "overlap", desc := "(II)J" } : Jvm.MethodName) ∈ tB := List.mem_filter.mpr ⟨List.mem_append_right _ (List.mem_append_right _ (List.mem_append_left _ (List.mem_of_getElem? (i := 140) rfl))), rfl⟩
theorem kw_381 : Jvm.Cond.selects "JointSolids" ({ cls := "JointSolids", name := "overlap", desc := "(II)J" } : Jvm.MethodName) ({ cls := "JointSolids", name := "overlap", desc := "(II)J" } : Jvm.MethodName) ∈ tB := List.mem_filter.mpr ⟨List.mem_append_right _ (List.mem_append_right _ (List.mem_append_left _ (List.mem_of_getElem? (i := 141) rfl))), rfl⟩
theorem kw_382 : Jvm.Cond.code ({ cls := "JointSolids", name := "overlap", desc := "(II)J" } : Jvm.MethodName) prog_1_method_9_code (5 : Nat) (Option.some Jvm.ClassFile.FieldType.long) ∈ tB := List.mem_filter.mpr ⟨List.mem_append_right _ (List.mem_append_right _ (List.mem_append_left _ (List.mem_of_getElem? (i := 142) rfl))), rfl⟩
theorem kw_383 : Jvm.Cond.methodLink "JointSolidsLaw" (105 : Nat) ({ cls := "JointSolidsLaw", name := "touch", desc := "(LJointSolids;II[J)I" } : Jvm.MethodName) ∈ tB := List.mem_filter.mpr ⟨List.mem_append_right _ (List.mem_append_right _ (List.mem_append_left _ (List.mem_of_getElem? (i := 143) rfl))), rfl⟩
theorem kw_384 : Jvm.Cond.static ({ cls := "JointSolidsLaw", name := "touch", desc := "(LJointSolids;II[J)I" } : Jvm.MethodName) ∈ tB := List.mem_filter.mpr ⟨List.mem_append_right _ (List.mem_append_right _ (List.mem_append_left _ (List.mem_of_getElem? (i := 144) rfl))), rfl⟩
theorem kw_385 : Jvm.Cond.codeWith ({ cls := "JointSolidsLaw", name := "touch", desc := "(LJointSolids;II[J)I" } : Jvm.MethodName) method_11_code (5 : Nat) (Option.some Jvm.ClassFile.FieldType.int) [((0 : Nat), (9 : Nat), (12 : Nat), (21 : Nat)), ((0 : Nat), (9 : Nat), (16 : Nat), (13 : Nat))] ∈ tB := List.mem_filter.mpr ⟨List.mem_append_right _ (List.mem_append_right _ (List.mem_append_left _ (List.mem_of_getElem? (i := 145) rfl))), rfl⟩
theorem kw_386 : Jvm.Cond.methodLink "JointSolidsLaw" (47 : Nat) ({ cls := "JointSolids", name := "touch", desc := "(II)J" } : Jvm.MethodName) ∈ tB := List.mem_filter.mpr ⟨List.mem_append_right _ (List.mem_append_right _ (List.mem_append_left _ (List.mem_of_getElem? (i := 146) rfl))), rfl⟩
theorem kw_387 : Jvm.Cond.instanceMethod ({ cls := "JointSolids", name := "touch", desc := "(II)J" } : Jvm.MethodName) ∈ tB := List.mem_filter.mpr ⟨List.mem_append_right _ (List.mem_append_right _ (List.mem_append_left _ (List.mem_of_getElem? (i := 147) rfl))), rfl⟩
theorem kw_388 : Jvm.Cond.selects "JointSolids" ({ cls := "JointSolids", name := "touch", desc := "(II)J" } : Jvm.MethodName) ({ cls := "JointSolids", name := "touch", desc := "(II)J" } : Jvm.MethodName) ∈ tB := List.mem_filter.mpr ⟨List.mem_append_right _ (List.mem_append_right _ (List.mem_append_left _ (List.mem_of_getElem? (i := 148) rfl))), rfl⟩
theorem kw_389 : Jvm.Cond.code ({ cls := "JointSolids", name := "touch", desc := "(II)J" } : Jvm.MethodName) prog_1_method_10_code (5 : Nat) (Option.some Jvm.ClassFile.FieldType.long) ∈ tB := List.mem_filter.mpr ⟨List.mem_append_right _ (List.mem_append_right _ (List.mem_append_left _ (List.mem_of_getElem? (i := 149) rfl))), rfl⟩
theorem kw_390 : Jvm.Cond.methodLink "JointSolids" (177 : Nat) ({ cls := "JointSolids", name := "areaOfBoth", desc := "(LJointSolids$Solid;LJointSolids$Solid;)J" } : Jvm.MethodName) ∈ tB := List.mem_filter.mpr ⟨List.mem_append_right _ (List.mem_append_right _ (List.mem_append_left _ (List.mem_of_getElem? (i := 150) rfl))), rfl⟩
theorem kw_391 : Jvm.Cond.static ({ cls := "JointSolids", name := "areaOfBoth", desc := "(LJointSolids$Solid;LJointSolids$Solid;)J" } : Jvm.MethodName) ∈ tB := List.mem_filter.mpr ⟨List.mem_append_right _ (List.mem_append_right _ (List.mem_append_left _ (List.mem_of_getElem? (i := 151) rfl))), rfl⟩
theorem kw_392 : Jvm.Cond.code ({ cls := "JointSolids", name := "areaOfBoth", desc := "(LJointSolids$Solid;LJointSolids$Solid;)J" } : Jvm.MethodName) prog_1_method_35_code (6 : Nat) (Option.some Jvm.ClassFile.FieldType.long) ∈ tB := List.mem_filter.mpr ⟨List.mem_append_right _ (List.mem_append_right _ (List.mem_append_left _ (List.mem_of_getElem? (i := 152) rfl))), rfl⟩
theorem kw_393 : Jvm.Cond.methodLink "JointSolids" (247 : Nat) ({ cls := "JointSolids", name := "areaShared", desc := "([II[II)J" } : Jvm.MethodName) ∈ tB := List.mem_filter.mpr ⟨List.mem_append_right _ (List.mem_append_right _ (List.mem_append_left _ (List.mem_of_getElem? (i := 153) rfl))), rfl⟩
theorem kw_394 : Jvm.Cond.static ({ cls := "JointSolids", name := "areaShared", desc := "([II[II)J" } : Jvm.MethodName) ∈ tB := List.mem_filter.mpr ⟨List.mem_append_right _ (List.mem_append_right _ (List.mem_append_left _ (List.mem_of_getElem? (i := 154) rfl))), rfl⟩
theorem kw_395 : Jvm.Cond.code ({ cls := "JointSolids", name := "areaShared", desc := "([II[II)J" } : Jvm.MethodName) prog_1_method_38_code (9 : Nat) (Option.some Jvm.ClassFile.FieldType.long) ∈ tB := List.mem_filter.mpr ⟨List.mem_append_right _ (List.mem_append_right _ (List.mem_append_left _ (List.mem_of_getElem? (i := 155) rfl))), rfl⟩
theorem kw_396 : Jvm.Cond.methodLink "JointSolidsLaw" (108 : Nat) ({ cls := "JointSolidsLaw", name := "has", desc := "(LJointSolids;IIII[J)I" } : Jvm.MethodName) ∈ tB := List.mem_filter.mpr ⟨List.mem_append_right _ (List.mem_append_right _ (List.mem_append_left _ (List.mem_of_getElem? (i := 156) rfl))), rfl⟩
theorem kw_397 : Jvm.Cond.static ({ cls := "JointSolidsLaw", name := "has", desc := "(LJointSolids;IIII[J)I" } : Jvm.MethodName) ∈ tB := List.mem_filter.mpr ⟨List.mem_append_right _ (List.mem_append_right _ (List.mem_append_left _ (List.mem_of_getElem? (i := 157) rfl))), rfl⟩
theorem kw_398 : Jvm.Cond.codeWith ({ cls := "JointSolidsLaw", name := "has", desc := "(LJointSolids;IIII[J)I" } : Jvm.MethodName) method_12_code (7 : Nat) (Option.some Jvm.ClassFile.FieldType.int) [((0 : Nat), (21 : Nat), (24 : Nat), (21 : Nat))] ∈ tB := List.mem_filter.mpr ⟨List.mem_append_right _ (List.mem_append_right _ (List.mem_append_left _ (List.mem_of_getElem? (i := 158) rfl))), rfl⟩
theorem kw_399 : Jvm.Cond.methodLink "JointSolidsLaw" (50 : Nat) ({ cls := "JointSolids", name := "has", desc := "(IIII)Z" } : Jvm.MethodName) ∈ tB := List.mem_filter.mpr ⟨List.mem_append_right _ (List.mem_append_right _ (List.mem_append_left _ (List.mem_of_getElem? (i := 159) rfl))), rfl⟩
theorem kw_400 : Jvm.Cond.instanceMethod ({ cls := "JointSolids", name := "has", desc := "(IIII)Z" } : Jvm.MethodName) ∈ tB := List.mem_filter.mpr ⟨List.mem_append_right _ (List.mem_append_right _ (List.mem_append_left _ (List.mem_of_getElem? (i := 160) rfl))), rfl⟩
theorem kw_401 : Jvm.Cond.selects "JointSolids" ({ cls := "JointSolids", name := "has", desc := "(IIII)Z" } : Jvm.MethodName) ({ cls := "JointSolids", name := "has", desc := "(IIII)Z" } : Jvm.MethodName) ∈ tB := List.mem_filter.mpr ⟨List.mem_append_right _ (List.mem_append_right _ (List.mem_append_left _ (List.mem_of_getElem? (i := 161) rfl))), rfl⟩
theorem kw_402 : Jvm.Cond.code ({ cls := "JointSolids", name := "has", desc := "(IIII)Z" } : Jvm.MethodName) prog_1_method_11_code (5 : Nat) (Option.some Jvm.ClassFile.FieldType.boolean) ∈ tB := List.mem_filter.mpr ⟨List.mem_append_right _ (List.mem_append_right _ (List.mem_append_left _ (List.mem_of_getElem? (i := 162) rfl))), rfl⟩
theorem kw_405 : Jvm.Cond.instanceMethod ({ cls := "JointSolids$Solid", name := "holds", desc := "(III)Z" } : Jvm.MethodName) ∈ tB := List.mem_filter.mpr ⟨List.mem_append_right _ (List.mem_append_right _ (List.mem_append_left _ (List.mem_of_getElem? (i := 165) rfl))), rfl⟩
theorem kw_406 : Jvm.Cond.code ({ cls := "JointSolids$Solid", name := "holds", desc := "(III)Z" } : Jvm.MethodName) prog_3_method_6_code (6 : Nat) (Option.some Jvm.ClassFile.FieldType.boolean) ∈ tB := List.mem_filter.mpr ⟨List.mem_append_right _ (List.mem_append_right _ (List.mem_append_left _ (List.mem_of_getElem? (i := 166) rfl))), rfl⟩
theorem kw_407 : Jvm.Cond.methodLink "JointSolidsLaw" (112 : Nat) ({ cls := "JointSolidsLaw", name := "row", desc := "(LJointSolids;II)I" } : Jvm.MethodName) ∈ tB := List.mem_filter.mpr ⟨List.mem_append_right _ (List.mem_append_right _ (List.mem_append_left _ (List.mem_of_getElem? (i := 167) rfl))), rfl⟩
theorem kw_408 : Jvm.Cond.static ({ cls := "JointSolidsLaw", name := "row", desc := "(LJointSolids;II)I" } : Jvm.MethodName) ∈ tB := List.mem_filter.mpr ⟨List.mem_append_right _ (List.mem_append_right _ (List.mem_append_left _ (List.mem_of_getElem? (i := 168) rfl))), rfl⟩
theorem kw_409 : Jvm.Cond.codeWith ({ cls := "JointSolidsLaw", name := "row", desc := "(LJointSolids;II)I" } : Jvm.MethodName) method_13_code (4 : Nat) (Option.some Jvm.ClassFile.FieldType.int) [((0 : Nat), (6 : Nat), (9 : Nat), (21 : Nat)), ((0 : Nat), (6 : Nat), (12 : Nat), (13 : Nat))] ∈ tB := List.mem_filter.mpr ⟨List.mem_append_right _ (List.mem_append_right _ (List.mem_append_left _ (List.mem_of_getElem? (i := 169) rfl))), rfl⟩
theorem kw_410 : Jvm.Cond.methodLink "JointSolidsLaw" (54 : Nat) ({ cls := "JointSolids", name := "row", desc := "(II)V" } : Jvm.MethodName) ∈ tB := List.mem_filter.mpr ⟨List.mem_append_right _ (List.mem_append_right _ (List.mem_append_left _ (List.mem_of_getElem? (i := 170) rfl))), rfl⟩
theorem kw_411 : Jvm.Cond.instanceMethod ({ cls := "JointSolids", name := "row", desc := "(II)V" } : Jvm.MethodName) ∈ tB := List.mem_filter.mpr ⟨List.mem_append_right _ (List.mem_append_right _ (List.mem_append_left _ (List.mem_of_getElem? (i := 171) rfl))), rfl⟩
theorem kw_412 : Jvm.Cond.selects "JointSolids" ({ cls := "JointSolids", name := "row", desc := "(II)V" } : Jvm.MethodName) ({ cls := "JointSolids", name := "row", desc := "(II)V" } : Jvm.MethodName) ∈ tB := List.mem_filter.mpr ⟨List.mem_append_right _ (List.mem_append_right _ (List.mem_append_left _ (List.mem_of_getElem? (i := 172) rfl))), rfl⟩
theorem kw_413 : Jvm.Cond.code ({ cls := "JointSolids", name := "row", desc := "(II)V" } : Jvm.MethodName) prog_1_method_12_code (3 : Nat) (Option.none : Option Jvm.ClassFile.FieldType) ∈ tB := List.mem_filter.mpr ⟨List.mem_append_right _ (List.mem_append_right _ (List.mem_append_left _ (List.mem_of_getElem? (i := 173) rfl))), rfl⟩
theorem kw_415 : Jvm.Cond.methodLink "JointSolidsLaw" (116 : Nat) ({ cls := "JointSolidsLaw", name := "strength", desc := "(LJointSolids;I[J)I" } : Jvm.MethodName) ∈ tB := List.mem_filter.mpr ⟨List.mem_append_right _ (List.mem_append_right _ (List.mem_append_left _ (List.mem_of_getElem? (i := 175) rfl))), rfl⟩
theorem kw_416 : Jvm.Cond.static ({ cls := "JointSolidsLaw", name := "strength", desc := "(LJointSolids;I[J)I" } : Jvm.MethodName) ∈ tB := List.mem_filter.mpr ⟨List.mem_append_right _ (List.mem_append_right _ (List.mem_append_left _ (List.mem_of_getElem? (i := 176) rfl))), rfl⟩
theorem kw_417 : Jvm.Cond.codeWith ({ cls := "JointSolidsLaw", name := "strength", desc := "(LJointSolids;I[J)I" } : Jvm.MethodName) method_14_code (4 : Nat) (Option.some Jvm.ClassFile.FieldType.int) [((0 : Nat), (8 : Nat), (11 : Nat), (21 : Nat))] ∈ tB := List.mem_filter.mpr ⟨List.mem_append_right _ (List.mem_append_right _ (List.mem_append_left _ (List.mem_of_getElem? (i := 177) rfl))), rfl⟩
theorem kw_418 : Jvm.Cond.methodLink "JointSolidsLaw" (58 : Nat) ({ cls := "JointSolids", name := "strength", desc := "(I)J" } : Jvm.MethodName) ∈ tB := List.mem_filter.mpr ⟨List.mem_append_right _ (List.mem_append_right _ (List.mem_append_left _ (List.mem_of_getElem? (i := 178) rfl))), rfl⟩
theorem kw_419 : Jvm.Cond.instanceMethod ({ cls := "JointSolids", name := "strength", desc := "(I)J" } : Jvm.MethodName) ∈ tB := List.mem_filter.mpr ⟨List.mem_append_right _ (List.mem_append_right _ (List.mem_append_left _ (List.mem_of_getElem? (i := 179) rfl))), rfl⟩
theorem kw_420 : Jvm.Cond.selects "JointSolids" ({ cls := "JointSolids", name := "strength", desc := "(I)J" } : Jvm.MethodName) ({ cls := "JointSolids", name := "strength", desc := "(I)J" } : Jvm.MethodName) ∈ tB := List.mem_filter.mpr ⟨List.mem_append_right _ (List.mem_append_right _ (List.mem_append_left _ (List.mem_of_getElem? (i := 180) rfl))), rfl⟩
theorem kw_421 : Jvm.Cond.code ({ cls := "JointSolids", name := "strength", desc := "(I)J" } : Jvm.MethodName) prog_1_method_13_code (3 : Nat) (Option.some Jvm.ClassFile.FieldType.long) ∈ tB := List.mem_filter.mpr ⟨List.mem_append_right _ (List.mem_append_right _ (List.mem_append_left _ (List.mem_of_getElem? (i := 181) rfl))), rfl⟩
theorem kw_422 : Jvm.Cond.methodLink "JointSolids" (185 : Nat) ({ cls := "JointSolids", name := "jointOf", desc := "(I)LJointSolids$Joint;" } : Jvm.MethodName) ∈ tB := List.mem_filter.mpr ⟨List.mem_append_right _ (List.mem_append_right _ (List.mem_append_left _ (List.mem_of_getElem? (i := 182) rfl))), rfl⟩
theorem kw_424 : Jvm.Cond.instanceMethod ({ cls := "JointSolids", name := "jointOf", desc := "(I)LJointSolids$Joint;" } : Jvm.MethodName) ∈ tB := List.mem_filter.mpr ⟨List.mem_append_right _ (List.mem_append_right _ (List.mem_append_left _ (List.mem_of_getElem? (i := 184) rfl))), rfl⟩
theorem kw_425 : Jvm.Cond.code ({ cls := "JointSolids", name := "jointOf", desc := "(I)LJointSolids$Joint;" } : Jvm.MethodName) prog_1_method_17_code (2 : Nat) (Option.some (Jvm.ClassFile.FieldType.object "JointSolids$Joint")) ∈ tB := List.mem_filter.mpr ⟨List.mem_append_right _ (List.mem_append_right _ (List.mem_append_left _ (List.mem_of_getElem? (i := 185) rfl))), rfl⟩
theorem kw_427 : Jvm.Cond.constantLong "JointSolids" (198 : Nat) (100 : Int64) ∈ tB := List.mem_filter.mpr ⟨List.mem_append_right _ (List.mem_append_right _ (List.mem_append_left _ (List.mem_of_getElem? (i := 187) rfl))), rfl⟩
theorem kw_428 : Jvm.Cond.methodLink "JointSolidsLaw" (119 : Nat) ({ cls := "JointSolidsLaw", name := "about", desc := "(LJointSolids;II[J)I" } : Jvm.MethodName) ∈ tB := List.mem_filter.mpr ⟨List.mem_append_right _ (List.mem_append_right _ (List.mem_append_left _ (List.mem_of_getElem? (i := 188) rfl))), rfl⟩
theorem kw_429 : Jvm.Cond.static ({ cls := "JointSolidsLaw", name := "about", desc := "(LJointSolids;II[J)I" } : Jvm.MethodName) ∈ tB := List.mem_filter.mpr ⟨List.mem_append_right _ (List.mem_append_right _ (List.mem_append_left _ (List.mem_of_getElem? (i := 189) rfl))), rfl⟩
theorem kw_430 : Jvm.Cond.codeWith ({ cls := "JointSolidsLaw", name := "about", desc := "(LJointSolids;II[J)I" } : Jvm.MethodName) method_15_code (5 : Nat) (Option.some Jvm.ClassFile.FieldType.int) [((0 : Nat), (9 : Nat), (12 : Nat), (21 : Nat))] ∈ tB := List.mem_filter.mpr ⟨List.mem_append_right _ (List.mem_append_right _ (List.mem_append_left _ (List.mem_of_getElem? (i := 190) rfl))), rfl⟩
theorem kw_431 : Jvm.Cond.methodLink "JointSolidsLaw" (61 : Nat) ({ cls := "JointSolids", name := "about", desc := "(II)J" } : Jvm.MethodName) ∈ tB := List.mem_filter.mpr ⟨List.mem_append_right _ (List.mem_append_right _ (List.mem_append_left _ (List.mem_of_getElem? (i := 191) rfl))), rfl⟩
theorem kw_432 : Jvm.Cond.instanceMethod ({ cls := "JointSolids", name := "about", desc := "(II)J" } : Jvm.MethodName) ∈ tB := List.mem_filter.mpr ⟨List.mem_append_right _ (List.mem_append_right _ (List.mem_append_left _ (List.mem_of_getElem? (i := 192) rfl))), rfl⟩
theorem kw_433 : Jvm.Cond.selects "JointSolids" ({ cls := "JointSolids", name := "about", desc := "(II)J" } : Jvm.MethodName) ({ cls := "JointSolids", name := "about", desc := "(II)J" } : Jvm.MethodName) ∈ tB := List.mem_filter.mpr ⟨List.mem_append_right _ (List.mem_append_right _ (List.mem_append_left _ (List.mem_of_getElem? (i := 193) rfl))), rfl⟩
theorem kw_434 : Jvm.Cond.code ({ cls := "JointSolids", name := "about", desc := "(II)J" } : Jvm.MethodName) prog_1_method_14_code (4 : Nat) (Option.some Jvm.ClassFile.FieldType.long) ∈ tB := List.mem_filter.mpr ⟨List.mem_append_right _ (List.mem_append_right _ (List.mem_append_left _ (List.mem_of_getElem? (i := 194) rfl))), rfl⟩
theorem kw_436 : Jvm.Cond.classLink "JointSolidsLaw" (65 : Nat) "JointSolidsModel" ∈ tB := List.mem_filter.mpr ⟨List.mem_append_right _ (List.mem_append_right _ (List.mem_append_left _ (List.mem_of_getElem? (i := 196) rfl))), rfl⟩
theorem kw_437 : Jvm.Cond.instantiable "JointSolidsModel" (19 : Nat) ∈ tB := List.mem_filter.mpr ⟨List.mem_append_right _ (List.mem_append_right _ (List.mem_append_left _ (List.mem_of_getElem? (i := 197) rfl))), rfl⟩
theorem kw_438 : Jvm.Cond.methodLink "JointSolidsLaw" (67 : Nat) ({ cls := "JointSolidsModel", name := "<init>", desc := "()V" } : Jvm.MethodName) ∈ tB := List.mem_filter.mpr ⟨List.mem_append_right _ (List.mem_append_right _ (List.mem_append_left _ (List.mem_of_getElem? (i := 198) rfl))), rfl⟩
theorem kw_439 : Jvm.Cond.instanceMethod ({ cls := "JointSolidsModel", name := "<init>", desc := "()V" } : Jvm.MethodName) ∈ tB := List.mem_filter.mpr ⟨List.mem_append_right _ (List.mem_append_right _ (List.mem_append_left _ (List.mem_of_getElem? (i := 199) rfl))), rfl⟩
theorem kw_440 : Jvm.Cond.code ({ cls := "JointSolidsModel", name := "<init>", desc := "()V" } : Jvm.MethodName) prog_5_method_1_code (1 : Nat) (Option.none : Option Jvm.ClassFile.FieldType) ∈ tB := List.mem_filter.mpr ⟨List.mem_append_right _ (List.mem_append_right _ (List.mem_append_left _ (List.mem_of_getElem? (i := 200) rfl))), rfl⟩
theorem kw_441 : Jvm.Cond.methodLink "JointSolidsModel" (1 : Nat) ({ cls := "java/lang/Object", name := "<init>", desc := "()V" } : Jvm.MethodName) ∈ tB := List.mem_filter.mpr ⟨List.mem_append_right _ (List.mem_append_right _ (List.mem_append_left _ (List.mem_of_getElem? (i := 201) rfl))), rfl⟩
theorem kw_442 : Jvm.Cond.fieldLink "JointSolidsModel" (56 : Nat) "JointSolidsModel" "thrown" "I" ∈ tB := List.mem_filter.mpr ⟨List.mem_append_right _ (List.mem_append_right _ (List.mem_append_left _ (List.mem_of_getElem? (i := 202) rfl))), rfl⟩
theorem kw_443 : Jvm.Cond.fieldLink "JointSolidsModel" (60 : Nat) "JointSolidsModel" "parts" "I" ∈ tB := List.mem_filter.mpr ⟨List.mem_append_right _ (List.mem_append_right _ (List.mem_append_left _ (List.mem_of_getElem? (i := 203) rfl))), rfl⟩
theorem kw_444 : Jvm.Cond.fieldLink "JointSolidsModel" (7 : Nat) "JointSolidsModel" "stocks" "[I" ∈ tB := List.mem_filter.mpr ⟨List.mem_append_right _ (List.mem_append_right _ (List.mem_append_left _ (List.mem_of_getElem? (i := 204) rfl))), rfl⟩
theorem kw_445 : Jvm.Cond.fieldLink "JointSolidsModel" (13 : Nat) "JointSolidsModel" "pieces" "[I" ∈ tB := List.mem_filter.mpr ⟨List.mem_append_right _ (List.mem_append_right _ (List.mem_append_left _ (List.mem_of_getElem? (i := 205) rfl))), rfl⟩
theorem kw_446 : Jvm.Cond.fieldLink "JointSolidsModel" (16 : Nat) "JointSolidsModel" "many" "[I" ∈ tB := List.mem_filter.mpr ⟨List.mem_append_right _ (List.mem_append_right _ (List.mem_append_left _ (List.mem_of_getElem? (i := 206) rfl))), rfl⟩
theorem kw_447 : Jvm.Cond.fieldLink "JointSolidsModel" (19 : Nat) "JointSolidsModel" "draft" "[I" ∈ tB := List.mem_filter.mpr ⟨List.mem_append_right _ (List.mem_append_right _ (List.mem_append_left _ (List.mem_of_getElem? (i := 207) rfl))), rfl⟩
theorem kw_448 : Jvm.Cond.fieldLink "JointSolidsModel" (22 : Nat) "JointSolidsModel" "draftMany" "[I" ∈ tB := List.mem_filter.mpr ⟨List.mem_append_right _ (List.mem_append_right _ (List.mem_append_left _ (List.mem_of_getElem? (i := 208) rfl))), rfl⟩
theorem kw_449 : Jvm.Cond.fieldLink "JointSolidsModel" (25 : Nat) "JointSolidsModel" "made" "[I" ∈ tB := List.mem_filter.mpr ⟨List.mem_append_right _ (List.mem_append_right _ (List.mem_append_left _ (List.mem_of_getElem? (i := 209) rfl))), rfl⟩
theorem kw_450 : Jvm.Cond.fieldLink "JointSolidsModel" (28 : Nat) "JointSolidsModel" "box" "[I" ∈ tB := List.mem_filter.mpr ⟨List.mem_append_right _ (List.mem_append_right _ (List.mem_append_left _ (List.mem_of_getElem? (i := 210) rfl))), rfl⟩
theorem kw_451 : Jvm.Cond.fieldLink "JointSolidsModel" (31 : Nat) "JointSolidsModel" "common" "[I" ∈ tB := List.mem_filter.mpr ⟨List.mem_append_right _ (List.mem_append_right _ (List.mem_append_left _ (List.mem_of_getElem? (i := 211) rfl))), rfl⟩
theorem kw_452 : Jvm.Cond.fieldLink "JointSolidsModel" (99 : Nat) "JointSolidsModel" "clearance" "I" ∈ tB := List.mem_filter.mpr ⟨List.mem_append_right _ (List.mem_append_right _ (List.mem_append_left _ (List.mem_of_getElem? (i := 212) rfl))), rfl⟩
theorem kw_453 : Jvm.Cond.fieldLink "JointSolidsModel" (106 : Nat) "JointSolidsModel" "joints" "I" ∈ tB := List.mem_filter.mpr ⟨List.mem_append_right _ (List.mem_append_right _ (List.mem_append_left _ (List.mem_of_getElem? (i := 213) rfl))), rfl⟩
theorem kw_454 : Jvm.Cond.fieldLink "JointSolidsModel" (34 : Nat) "JointSolidsModel" "kinds" "[I" ∈ tB := List.mem_filter.mpr ⟨List.mem_append_right _ (List.mem_append_right _ (List.mem_append_left _ (List.mem_of_getElem? (i := 214) rfl))), rfl⟩
theorem kw_455 : Jvm.Cond.fieldLink "JointSolidsModel" (37 : Nat) "JointSolidsModel" "firsts" "[I" ∈ tB := List.mem_filter.mpr ⟨List.mem_append_right _ (List.mem_append_right _ (List.mem_append_left _ (List.mem_of_getElem? (i := 215) rfl))), rfl⟩
theorem kw_456 : Jvm.Cond.fieldLink "JointSolidsModel" (40 : Nat) "JointSolidsModel" "seconds" "[I" ∈ tB := List.mem_filter.mpr ⟨List.mem_append_right _ (List.mem_append_right _ (List.mem_append_left _ (List.mem_of_getElem? (i := 216) rfl))), rfl⟩
theorem kw_457 : Jvm.Cond.fieldLink "JointSolidsModel" (43 : Nat) "JointSolidsModel" "axes" "[I" ∈ tB := List.mem_filter.mpr ⟨List.mem_append_right _ (List.mem_append_right _ (List.mem_append_left _ (List.mem_of_getElem? (i := 217) rfl))), rfl⟩
theorem kw_458 : Jvm.Cond.fieldLink "JointSolidsModel" (46 : Nat) "JointSolidsModel" "lostFirst" "[J" ∈ tB := List.mem_filter.mpr ⟨List.mem_append_right _ (List.mem_append_right _ (List.mem_append_left _ (List.mem_of_getElem? (i := 218) rfl))), rfl⟩
theorem kw_459 : Jvm.Cond.fieldLink "JointSolidsModel" (50 : Nat) "JointSolidsModel" "lostSecond" "[J" ∈ tB := List.mem_filter.mpr ⟨List.mem_append_right _ (List.mem_append_right _ (List.mem_append_left _ (List.mem_of_getElem? (i := 219) rfl))), rfl⟩
theorem kw_460 : Jvm.Cond.fieldLink "JointSolidsModel" (53 : Nat) "JointSolidsModel" "rows" "[I" ∈ tB := List.mem_filter.mpr ⟨List.mem_append_right _ (List.mem_append_right _ (List.mem_append_left _ (List.mem_of_getElem? (i := 220) rfl))), rfl⟩
theorem kw_461 : Jvm.Cond.lays "JointSolidsModel" "JointSolidsModel" "thrown" "I" ∈ tB := List.mem_filter.mpr ⟨List.mem_append_right _ (List.mem_append_right _ (List.mem_append_left _ (List.mem_of_getElem? (i := 221) rfl))), rfl⟩
theorem kw_462 : Jvm.Cond.soleField "JointSolidsModel" "thrown" ∈ tB := List.mem_filter.mpr ⟨List.mem_append_right _ (List.mem_append_right _ (List.mem_append_left _ (List.mem_of_getElem? (i := 222) rfl))), rfl⟩
theorem kw_463 : Jvm.Cond.lays "JointSolidsModel" "JointSolidsModel" "parts" "I" ∈ tB := List.mem_filter.mpr ⟨List.mem_append_right _ (List.mem_append_right _ (List.mem_append_left _ (List.mem_of_getElem? (i := 223) rfl))), rfl⟩
theorem kw_464 : Jvm.Cond.soleField "JointSolidsModel" "parts" ∈ tB := List.mem_filter.mpr ⟨List.mem_append_right _ (List.mem_append_right _ (List.mem_append_left _ (List.mem_of_getElem? (i := 224) rfl))), rfl⟩
theorem kw_465 : Jvm.Cond.laysFinal "JointSolidsModel" "JointSolidsModel" "stocks" "[I" ∈ tB := List.mem_filter.mpr ⟨List.mem_append_right _ (List.mem_append_right _ (List.mem_append_left _ (List.mem_of_getElem? (i := 225) rfl))), rfl⟩
theorem kw_466 : Jvm.Cond.soleField "JointSolidsModel" "stocks" ∈ tB := List.mem_filter.mpr ⟨List.mem_append_right _ (List.mem_append_right _ (List.mem_append_left _ (List.mem_of_getElem? (i := 226) rfl))), rfl⟩
theorem kw_467 : Jvm.Cond.laysFinal "JointSolidsModel" "JointSolidsModel" "pieces" "[I" ∈ tB := List.mem_filter.mpr ⟨List.mem_append_right _ (List.mem_append_right _ (List.mem_append_left _ (List.mem_of_getElem? (i := 227) rfl))), rfl⟩
theorem kw_468 : Jvm.Cond.soleField "JointSolidsModel" "pieces" ∈ tB := List.mem_filter.mpr ⟨List.mem_append_right _ (List.mem_append_right _ (List.mem_append_left _ (List.mem_of_getElem? (i := 228) rfl))), rfl⟩
theorem kw_469 : Jvm.Cond.laysFinal "JointSolidsModel" "JointSolidsModel" "many" "[I" ∈ tB := List.mem_filter.mpr ⟨List.mem_append_right _ (List.mem_append_right _ (List.mem_append_left _ (List.mem_of_getElem? (i := 229) rfl))), rfl⟩
theorem kw_470 : Jvm.Cond.soleField "JointSolidsModel" "many" ∈ tB := List.mem_filter.mpr ⟨List.mem_append_right _ (List.mem_append_right _ (List.mem_append_left _ (List.mem_of_getElem? (i := 230) rfl))), rfl⟩
theorem kw_471 : Jvm.Cond.laysFinal "JointSolidsModel" "JointSolidsModel" "draft" "[I" ∈ tB := List.mem_filter.mpr ⟨List.mem_append_right _ (List.mem_append_right _ (List.mem_append_left _ (List.mem_of_getElem? (i := 231) rfl))), rfl⟩
theorem kw_472 : Jvm.Cond.soleField "JointSolidsModel" "draft" ∈ tB := List.mem_filter.mpr ⟨List.mem_append_right _ (List.mem_append_right _ (List.mem_append_left _ (List.mem_of_getElem? (i := 232) rfl))), rfl⟩
theorem kw_473 : Jvm.Cond.laysFinal "JointSolidsModel" "JointSolidsModel" "draftMany" "[I" ∈ tB := List.mem_filter.mpr ⟨List.mem_append_right _ (List.mem_append_right _ (List.mem_append_left _ (List.mem_of_getElem? (i := 233) rfl))), rfl⟩
theorem kw_474 : Jvm.Cond.soleField "JointSolidsModel" "draftMany" ∈ tB := List.mem_filter.mpr ⟨List.mem_append_right _ (List.mem_append_right _ (List.mem_append_left _ (List.mem_of_getElem? (i := 234) rfl))), rfl⟩
theorem kw_475 : Jvm.Cond.laysFinal "JointSolidsModel" "JointSolidsModel" "made" "[I" ∈ tB := List.mem_filter.mpr ⟨List.mem_append_right _ (List.mem_append_right _ (List.mem_append_left _ (List.mem_of_getElem? (i := 235) rfl))), rfl⟩
theorem kw_476 : Jvm.Cond.soleField "JointSolidsModel" "made" ∈ tB := List.mem_filter.mpr ⟨List.mem_append_right _ (List.mem_append_right _ (List.mem_append_left _ (List.mem_of_getElem? (i := 236) rfl))), rfl⟩
theorem kw_477 : Jvm.Cond.laysFinal "JointSolidsModel" "JointSolidsModel" "box" "[I" ∈ tB := List.mem_filter.mpr ⟨List.mem_append_right _ (List.mem_append_right _ (List.mem_append_left _ (List.mem_of_getElem? (i := 237) rfl))), rfl⟩
theorem kw_478 : Jvm.Cond.soleField "JointSolidsModel" "box" ∈ tB := List.mem_filter.mpr ⟨List.mem_append_right _ (List.mem_append_right _ (List.mem_append_left _ (List.mem_of_getElem? (i := 238) rfl))), rfl⟩
theorem kw_479 : Jvm.Cond.laysFinal "JointSolidsModel" "JointSolidsModel" "common" "[I" ∈ tB := List.mem_filter.mpr ⟨List.mem_append_right _ (List.mem_append_right _ (List.mem_append_left _ (List.mem_of_getElem? (i := 239) rfl))), rfl⟩
theorem kw_480 : Jvm.Cond.soleField "JointSolidsModel" "common" ∈ tB := List.mem_filter.mpr ⟨List.mem_append_right _ (List.mem_append_right _ (List.mem_append_right _ (List.mem_of_getElem? (i := 0) rfl))), rfl⟩
theorem kw_481 : Jvm.Cond.lays "JointSolidsModel" "JointSolidsModel" "clearance" "I" ∈ tB := List.mem_filter.mpr ⟨List.mem_append_right _ (List.mem_append_right _ (List.mem_append_right _ (List.mem_of_getElem? (i := 1) rfl))), rfl⟩
theorem kw_482 : Jvm.Cond.soleField "JointSolidsModel" "clearance" ∈ tB := List.mem_filter.mpr ⟨List.mem_append_right _ (List.mem_append_right _ (List.mem_append_right _ (List.mem_of_getElem? (i := 2) rfl))), rfl⟩
theorem kw_483 : Jvm.Cond.lays "JointSolidsModel" "JointSolidsModel" "joints" "I" ∈ tB := List.mem_filter.mpr ⟨List.mem_append_right _ (List.mem_append_right _ (List.mem_append_right _ (List.mem_of_getElem? (i := 3) rfl))), rfl⟩
theorem kw_484 : Jvm.Cond.soleField "JointSolidsModel" "joints" ∈ tB := List.mem_filter.mpr ⟨List.mem_append_right _ (List.mem_append_right _ (List.mem_append_right _ (List.mem_of_getElem? (i := 4) rfl))), rfl⟩
theorem kw_485 : Jvm.Cond.laysFinal "JointSolidsModel" "JointSolidsModel" "kinds" "[I" ∈ tB := List.mem_filter.mpr ⟨List.mem_append_right _ (List.mem_append_right _ (List.mem_append_right _ (List.mem_of_getElem? (i := 5) rfl))), rfl⟩
theorem kw_486 : Jvm.Cond.soleField "JointSolidsModel" "kinds" ∈ tB := List.mem_filter.mpr ⟨List.mem_append_right _ (List.mem_append_right _ (List.mem_append_right _ (List.mem_of_getElem? (i := 6) rfl))), rfl⟩
theorem kw_487 : Jvm.Cond.laysFinal "JointSolidsModel" "JointSolidsModel" "firsts" "[I" ∈ tB := List.mem_filter.mpr ⟨List.mem_append_right _ (List.mem_append_right _ (List.mem_append_right _ (List.mem_of_getElem? (i := 7) rfl))), rfl⟩
theorem kw_488 : Jvm.Cond.soleField "JointSolidsModel" "firsts" ∈ tB := List.mem_filter.mpr ⟨List.mem_append_right _ (List.mem_append_right _ (List.mem_append_right _ (List.mem_of_getElem? (i := 8) rfl))), rfl⟩
theorem kw_489 : Jvm.Cond.laysFinal "JointSolidsModel" "JointSolidsModel" "seconds" "[I" ∈ tB := List.mem_filter.mpr ⟨List.mem_append_right _ (List.mem_append_right _ (List.mem_append_right _ (List.mem_of_getElem? (i := 9) rfl))), rfl⟩
theorem kw_490 : Jvm.Cond.soleField "JointSolidsModel" "seconds" ∈ tB := List.mem_filter.mpr ⟨List.mem_append_right _ (List.mem_append_right _ (List.mem_append_right _ (List.mem_of_getElem? (i := 10) rfl))), rfl⟩
theorem kw_491 : Jvm.Cond.laysFinal "JointSolidsModel" "JointSolidsModel" "axes" "[I" ∈ tB := List.mem_filter.mpr ⟨List.mem_append_right _ (List.mem_append_right _ (List.mem_append_right _ (List.mem_of_getElem? (i := 11) rfl))), rfl⟩
theorem kw_492 : Jvm.Cond.soleField "JointSolidsModel" "axes" ∈ tB := List.mem_filter.mpr ⟨List.mem_append_right _ (List.mem_append_right _ (List.mem_append_right _ (List.mem_of_getElem? (i := 12) rfl))), rfl⟩
theorem kw_493 : Jvm.Cond.laysFinal "JointSolidsModel" "JointSolidsModel" "lostFirst" "[J" ∈ tB := List.mem_filter.mpr ⟨List.mem_append_right _ (List.mem_append_right _ (List.mem_append_right _ (List.mem_of_getElem? (i := 13) rfl))), rfl⟩
theorem kw_494 : Jvm.Cond.soleField "JointSolidsModel" "lostFirst" ∈ tB := List.mem_filter.mpr ⟨List.mem_append_right _ (List.mem_append_right _ (List.mem_append_right _ (List.mem_of_getElem? (i := 14) rfl))), rfl⟩
theorem kw_495 : Jvm.Cond.laysFinal "JointSolidsModel" "JointSolidsModel" "lostSecond" "[J" ∈ tB := List.mem_filter.mpr ⟨List.mem_append_right _ (List.mem_append_right _ (List.mem_append_right _ (List.mem_of_getElem? (i := 15) rfl))), rfl⟩
theorem kw_496 : Jvm.Cond.soleField "JointSolidsModel" "lostSecond" ∈ tB := List.mem_filter.mpr ⟨List.mem_append_right _ (List.mem_append_right _ (List.mem_append_right _ (List.mem_of_getElem? (i := 16) rfl))), rfl⟩
theorem kw_497 : Jvm.Cond.laysFinal "JointSolidsModel" "JointSolidsModel" "rows" "[I" ∈ tB := List.mem_filter.mpr ⟨List.mem_append_right _ (List.mem_append_right _ (List.mem_append_right _ (List.mem_of_getElem? (i := 17) rfl))), rfl⟩
theorem kw_498 : Jvm.Cond.soleField "JointSolidsModel" "rows" ∈ tB := List.mem_filter.mpr ⟨List.mem_append_right _ (List.mem_append_right _ (List.mem_append_right _ (List.mem_of_getElem? (i := 18) rfl))), rfl⟩
theorem kw_499 : Jvm.Cond.superclass "JointSolidsModel" "java/lang/Object" ∈ tB := List.mem_filter.mpr ⟨List.mem_append_right _ (List.mem_append_right _ (List.mem_append_right _ (List.mem_of_getElem? (i := 19) rfl))), rfl⟩
theorem kw_500 : Jvm.Cond.arrayClass Jvm.ClassFile.FieldType.long ∈ tB := List.mem_filter.mpr ⟨List.mem_append_right _ (List.mem_append_right _ (List.mem_append_right _ (List.mem_of_getElem? (i := 20) rfl))), rfl⟩
theorem kw_501 : Jvm.Cond.methodLink "JointSolidsLaw" (74 : Nat) ({ cls := "JointSolidsModel", name := "thrown", desc := "()I" } : Jvm.MethodName) ∈ tB := List.mem_filter.mpr ⟨List.mem_append_right _ (List.mem_append_right _ (List.mem_append_right _ (List.mem_of_getElem? (i := 21) rfl))), rfl⟩
theorem kw_502 : Jvm.Cond.instanceMethod ({ cls := "JointSolidsModel", name := "thrown", desc := "()I" } : Jvm.MethodName) ∈ tB := List.mem_filter.mpr ⟨List.mem_append_right _ (List.mem_append_right _ (List.mem_append_right _ (List.mem_of_getElem? (i := 22) rfl))), rfl⟩
theorem kw_503 : Jvm.Cond.selects "JointSolidsModel" ({ cls := "JointSolidsModel", name := "thrown", desc := "()I" } : Jvm.MethodName) ({ cls := "JointSolidsModel", name := "thrown", desc := "()I" } : Jvm.MethodName) ∈ tB := List.mem_filter.mpr ⟨List.mem_append_right _ (List.mem_append_right _ (List.mem_append_right _ (List.mem_of_getElem? (i := 23) rfl))), rfl⟩
theorem kw_504 : Jvm.Cond.code ({ cls := "JointSolidsModel", name := "thrown", desc := "()I" } : Jvm.MethodName) prog_5_method_2_code (1 : Nat) (Option.some Jvm.ClassFile.FieldType.int) ∈ tB := List.mem_filter.mpr ⟨List.mem_append_right _ (List.mem_append_right _ (List.mem_append_right _ (List.mem_of_getElem? (i := 24) rfl))), rfl⟩
theorem kw_505 : Jvm.Cond.methodLink "JointSolidsLaw" (73 : Nat) ({ cls := "JointSolidsModel", name := "part", desc := "(IIIIII)I" } : Jvm.MethodName) ∈ tB := List.mem_filter.mpr ⟨List.mem_append_right _ (List.mem_append_right _ (List.mem_append_right _ (List.mem_of_getElem? (i := 25) rfl))), rfl⟩
theorem kw_506 : Jvm.Cond.instanceMethod ({ cls := "JointSolidsModel", name := "part", desc := "(IIIIII)I" } : Jvm.MethodName) ∈ tB := List.mem_filter.mpr ⟨List.mem_append_right _ (List.mem_append_right _ (List.mem_append_right _ (List.mem_of_getElem? (i := 26) rfl))), rfl⟩
theorem kw_507 : Jvm.Cond.selects "JointSolidsModel" ({ cls := "JointSolidsModel", name := "part", desc := "(IIIIII)I" } : Jvm.MethodName) ({ cls := "JointSolidsModel", name := "part", desc := "(IIIIII)I" } : Jvm.MethodName) ∈ tB := List.mem_filter.mpr ⟨List.mem_append_right _ (List.mem_append_right _ (List.mem_append_right _ (List.mem_of_getElem? (i := 27) rfl))), rfl⟩
theorem kw_508 : Jvm.Cond.code ({ cls := "JointSolidsModel", name := "part", desc := "(IIIIII)I" } : Jvm.MethodName) prog_5_method_7_code (9 : Nat) (Option.some Jvm.ClassFile.FieldType.int) ∈ tB := List.mem_filter.mpr ⟨List.mem_append_right _ (List.mem_append_right _ (List.mem_append_right _ (List.mem_of_getElem? (i := 28) rfl))), rfl⟩
theorem kw_509 : Jvm.Cond.methodLink "JointSolidsModel" (63 : Nat) ({ cls := "JointSolidsModel", name := "isIn", desc := "(III)Z" } : Jvm.MethodName) ∈ tB := List.mem_filter.mpr ⟨List.mem_append_right _ (List.mem_append_right _ (List.mem_append_right _ (List.mem_of_getElem? (i := 29) rfl))), rfl⟩
theorem kw_510 : Jvm.Cond.static ({ cls := "JointSolidsModel", name := "isIn", desc := "(III)Z" } : Jvm.MethodName) ∈ tB := List.mem_filter.mpr ⟨List.mem_append_right _ (List.mem_append_right _ (List.mem_append_right _ (List.mem_of_getElem? (i := 30) rfl))), rfl⟩
theorem kw_511 : Jvm.Cond.code ({ cls := "JointSolidsModel", name := "isIn", desc := "(III)Z" } : Jvm.MethodName) prog_5_method_3_code (3 : Nat) (Option.some Jvm.ClassFile.FieldType.boolean) ∈ tB := List.mem_filter.mpr ⟨List.mem_append_right _ (List.mem_append_right _ (List.mem_append_right _ (List.mem_of_getElem? (i := 31) rfl))), rfl⟩
theorem kw_512 : Jvm.Cond.methodLink "JointSolidsModel" (67 : Nat) ({ cls := "JointSolidsModel", name := "tell", desc := "(IIIIII)V" } : Jvm.MethodName) ∈ tB := List.mem_filter.mpr ⟨List.mem_append_right _ (List.mem_append_right _ (List.mem_append_right _ (List.mem_of_getElem? (i := 32) rfl))), rfl⟩
theorem kw_514 : Jvm.Cond.instanceMethod ({ cls := "JointSolidsModel", name := "tell", desc := "(IIIIII)V" } : Jvm.MethodName) ∈ tB := List.mem_filter.mpr ⟨List.mem_append_right _ (List.mem_append_right _ (List.mem_append_right _ (List.mem_of_getElem? (i := 34) rfl))), rfl⟩
theorem kw_515 : Jvm.Cond.code ({ cls := "JointSolidsModel", name := "tell", desc := "(IIIIII)V" } : Jvm.MethodName) prog_5_method_8_code (7 : Nat) (Option.none : Option Jvm.ClassFile.FieldType) ∈ tB := List.mem_filter.mpr ⟨List.mem_append_right _ (List.mem_append_right _ (List.mem_append_right _ (List.mem_of_getElem? (i := 35) rfl))), rfl⟩
theorem kw_516 : Jvm.Cond.methodLink "JointSolidsLaw" (81 : Nat) ({ cls := "JointSolidsModel", name := "cut", desc := "(IIIIIII)Z" } : Jvm.MethodName) ∈ tB := List.mem_filter.mpr ⟨List.mem_append_right _ (List.mem_append_right _ (List.mem_append_right _ (List.mem_of_getElem? (i := 36) rfl))), rfl⟩
theorem kw_517 : Jvm.Cond.instanceMethod ({ cls := "JointSolidsModel", name := "cut", desc := "(IIIIIII)Z" } : Jvm.MethodName) ∈ tB := List.mem_filter.mpr ⟨List.mem_append_right _ (List.mem_append_right _ (List.mem_append_right _ (List.mem_of_getElem? (i := 37) rfl))), rfl⟩
theorem kw_518 : Jvm.Cond.selects "JointSolidsModel" ({ cls := "JointSolidsModel", name := "cut", desc := "(IIIIIII)Z" } : Jvm.MethodName) ({ cls := "JointSolidsModel", name := "cut", desc := "(IIIIIII)Z" } : Jvm.MethodName) ∈ tB := List.mem_filter.mpr ⟨List.mem_append_right _ (List.mem_append_right _ (List.mem_append_right _ (List.mem_of_getElem? (i := 38) rfl))), rfl⟩
theorem kw_519 : Jvm.Cond.code ({ cls := "JointSolidsModel", name := "cut", desc := "(IIIIIII)Z" } : Jvm.MethodName) prog_5_method_14_code (10 : Nat) (Option.some Jvm.ClassFile.FieldType.boolean) ∈ tB := List.mem_filter.mpr ⟨List.mem_append_right _ (List.mem_append_right _ (List.mem_append_right _ (List.mem_of_getElem? (i := 39) rfl))), rfl⟩
theorem kw_520 : Jvm.Cond.methodLink "JointSolidsModel" (85 : Nat) ({ cls := "JointSolidsModel", name := "noPart", desc := "(I)Z" } : Jvm.MethodName) ∈ tB := List.mem_filter.mpr ⟨List.mem_append_right _ (List.mem_append_right _ (List.mem_append_right _ (List.mem_of_getElem? (i := 40) rfl))), rfl⟩
theorem kw_522 : Jvm.Cond.instanceMethod ({ cls := "JointSolidsModel", name := "noPart", desc := "(I)Z" } : Jvm.MethodName) ∈ tB := List.mem_filter.mpr ⟨List.mem_append_right _ (List.mem_append_right _ (List.mem_append_right _ (List.mem_of_getElem? (i := 42) rfl))), rfl⟩
theorem kw_523 : Jvm.Cond.code ({ cls := "JointSolidsModel", name := "noPart", desc := "(I)Z" } : Jvm.MethodName) prog_5_method_4_code (2 : Nat) (Option.some Jvm.ClassFile.FieldType.boolean) ∈ tB := List.mem_filter.mpr ⟨List.mem_append_right _ (List.mem_append_right _ (List.mem_append_right _ (List.mem_of_getElem? (i := 43) rfl))), rfl⟩
theorem kw_524 : Jvm.Cond.methodLink "JointSolidsModel" (88 : Nat) ({ cls := "JointSolidsModel", name := "load", desc := "(II)V" } : Jvm.MethodName) ∈ tB := List.mem_filter.mpr ⟨List.mem_append_right _ (List.mem_append_right _ (List.mem_append_right _ (List.mem_of_getElem? (i := 44) rfl))), rfl⟩
theorem kw_526 : Jvm.Cond.instanceMethod ({ cls := "JointSolidsModel", name := "load", desc := "(II)V" } : Jvm.MethodName) ∈ tB := List.mem_filter.mpr ⟨List.mem_append_right _ (List.mem_append_right _ (List.mem_append_right _ (List.mem_of_getElem? (i := 46) rfl))), rfl⟩
theorem kw_527 : Jvm.Cond.code ({ cls := "JointSolidsModel", name := "load", desc := "(II)V" } : Jvm.MethodName) prog_5_method_9_code (4 : Nat) (Option.none : Option Jvm.ClassFile.FieldType) ∈ tB := List.mem_filter.mpr ⟨List.mem_append_right _ (List.mem_append_right _ (List.mem_append_right _ (List.mem_of_getElem? (i := 47) rfl))), rfl⟩
theorem kw_528 : Jvm.Cond.methodLink "JointSolidsModel" (92 : Nat) ({ cls := "JointSolidsModel", name := "pareAll", desc := "(I)I" } : Jvm.MethodName) ∈ tB := List.mem_filter.mpr ⟨List.mem_append_right _ (List.mem_append_right _ (List.mem_append_right _ (List.mem_of_getElem? (i := 48) rfl))), rfl⟩
theorem kw_530 : Jvm.Cond.instanceMethod ({ cls := "JointSolidsModel", name := "pareAll", desc := "(I)I" } : Jvm.MethodName) ∈ tB := List.mem_filter.mpr ⟨List.mem_append_right _ (List.mem_append_right _ (List.mem_append_right _ (List.mem_of_getElem? (i := 50) rfl))), rfl⟩
theorem kw_531 : Jvm.Cond.code ({ cls := "JointSolidsModel", name := "pareAll", desc := "(I)I" } : Jvm.MethodName) prog_5_method_12_code (7 : Nat) (Option.some Jvm.ClassFile.FieldType.int) ∈ tB := List.mem_filter.mpr ⟨List.mem_append_right _ (List.mem_append_right _ (List.mem_append_right _ (List.mem_of_getElem? (i := 51) rfl))), rfl⟩
theorem kw_532 : Jvm.Cond.methodLink "JointSolidsModel" (71 : Nat) ({ cls := "JointSolidsModel", name := "meets", desc := "(I)Z" } : Jvm.MethodName) ∈ tB := List.mem_filter.mpr ⟨List.mem_append_right _ (List.mem_append_right _ (List.mem_append_right _ (List.mem_of_getElem? (i := 52) rfl))), rfl⟩
theorem kw_534 : Jvm.Cond.instanceMethod ({ cls := "JointSolidsModel", name := "meets", desc := "(I)Z" } : Jvm.MethodName) ∈ tB := List.mem_filter.mpr ⟨List.mem_append_right _ (List.mem_append_right _ (List.mem_append_right _ (List.mem_of_getElem? (i := 54) rfl))), rfl⟩
theorem kw_535 : Jvm.Cond.code ({ cls := "JointSolidsModel", name := "meets", desc := "(I)Z" } : Jvm.MethodName) prog_5_method_11_code (4 : Nat) (Option.some Jvm.ClassFile.FieldType.boolean) ∈ tB := List.mem_filter.mpr ⟨List.mem_append_right _ (List.mem_append_right _ (List.mem_append_right _ (List.mem_of_getElem? (i := 55) rfl))), rfl⟩
theorem kw_536 : Jvm.Cond.methodLink "JointSolidsModel" (75 : Nat) ({ cls := "JointSolidsModel", name := "pare", desc := "(II)I" } : Jvm.MethodName) ∈ tB := List.mem_filter.mpr ⟨List.mem_append_right _ (List.mem_append_right _ (List.mem_append_right _ (List.mem_of_getElem? (i := 56) rfl))), rfl⟩
theorem kw_538 : Jvm.Cond.instanceMethod ({ cls := "JointSolidsModel", name := "pare", desc := "(II)I" } : Jvm.MethodName) ∈ tB := List.mem_filter.mpr ⟨List.mem_append_right _ (List.mem_append_right _ (List.mem_append_right _ (List.mem_of_getElem? (i := 58) rfl))), rfl⟩
theorem kw_539 : Jvm.Cond.code ({ cls := "JointSolidsModel", name := "pare", desc := "(II)I" } : Jvm.MethodName) prog_5_method_13_code (10 : Nat) (Option.some Jvm.ClassFile.FieldType.int) ∈ tB := List.mem_filter.mpr ⟨List.mem_append_right _ (List.mem_append_right _ (List.mem_append_right _ (List.mem_of_getElem? (i := 59) rfl))), rfl⟩
theorem kw_540 : Jvm.Cond.methodLink "JointSolidsModel" (79 : Nat) ({ cls := "JointSolidsModel", name := "more", desc := "(II)I" } : Jvm.MethodName) ∈ tB := List.mem_filter.mpr ⟨List.mem_append_right _ (List.mem_append_right _ (List.mem_append_right _ (List.mem_of_getElem? (i := 60) rfl))), rfl⟩
theorem kw_541 : Jvm.Cond.static ({ cls := "JointSolidsModel", name := "more", desc := "(II)I" } : Jvm.MethodName) ∈ tB := List.mem_filter.mpr ⟨List.mem_append_right _ (List.mem_append_right _ (List.mem_append_right _ (List.mem_of_getElem? (i := 61) rfl))), rfl⟩
theorem kw_542 : Jvm.Cond.code ({ cls := "JointSolidsModel", name := "more", desc := "(II)I" } : Jvm.MethodName) prog_5_method_5_code (2 : Nat) (Option.some Jvm.ClassFile.FieldType.int) ∈ tB := List.mem_filter.mpr ⟨List.mem_append_right _ (List.mem_append_right _ (List.mem_append_right _ (List.mem_of_getElem? (i := 62) rfl))), rfl⟩
theorem kw_543 : Jvm.Cond.methodLink "JointSolidsModel" (82 : Nat) ({ cls := "JointSolidsModel", name := "less", desc := "(II)I" } : Jvm.MethodName) ∈ tB := List.mem_filter.mpr ⟨List.mem_append_right _ (List.mem_append_right _ (List.mem_append_right _ (List.mem_of_getElem? (i := 63) rfl))), rfl⟩
theorem kw_544 : Jvm.Cond.static ({ cls := "JointSolidsModel", name := "less", desc := "(II)I" } : Jvm.MethodName) ∈ tB := List.mem_filter.mpr ⟨List.mem_append_right _ (List.mem_append_right _ (List.mem_append_right _ (List.mem_of_getElem? (i := 64) rfl))), rfl⟩
theorem kw_545 : Jvm.Cond.code ({ cls := "JointSolidsModel", name := "less", desc := "(II)I" } : Jvm.MethodName) prog_5_method_6_code (2 : Nat) (Option.some Jvm.ClassFile.FieldType.int) ∈ tB := List.mem_filter.mpr ⟨List.mem_append_right _ (List.mem_append_right _ (List.mem_append_right _ (List.mem_of_getElem? (i := 65) rfl))), rfl⟩
theorem kw_546 : Jvm.Cond.methodLink "JointSolidsModel" (96 : Nat) ({ cls := "JointSolidsModel", name := "store", desc := "(II)V" } : Jvm.MethodName) ∈ tB := List.mem_filter.mpr ⟨List.mem_append_right _ (List.mem_append_right _ (List.mem_append_right _ (List.mem_of_getElem? (i := 66) rfl))), rfl⟩
theorem kw_548 : Jvm.Cond.instanceMethod ({ cls := "JointSolidsModel", name := "store", desc := "(II)V" } : Jvm.MethodName) ∈ tB := List.mem_filter.mpr ⟨List.mem_append_right _ (List.mem_append_right _ (List.mem_append_right _ (List.mem_of_getElem? (i := 68) rfl))), rfl⟩
theorem kw_549 : Jvm.Cond.code ({ cls := "JointSolidsModel", name := "store", desc := "(II)V" } : Jvm.MethodName) prog_5_method_10_code (4 : Nat) (Option.none : Option Jvm.ClassFile.FieldType) ∈ tB := List.mem_filter.mpr ⟨List.mem_append_right _ (List.mem_append_right _ (List.mem_append_right _ (List.mem_of_getElem? (i := 69) rfl))), rfl⟩
theorem kw_550 : Jvm.Cond.methodLink "JointSolidsLaw" (85 : Nat) ({ cls := "JointSolidsModel", name := "clear", desc := "(I)V" } : Jvm.MethodName) ∈ tB := List.mem_filter.mpr ⟨List.mem_append_right _ (List.mem_append_right _ (List.mem_append_right _ (List.mem_of_getElem? (i := 70) rfl))), rfl⟩
theorem kw_551 : Jvm.Cond.instanceMethod ({ cls := "JointSolidsModel", name := "clear", desc := "(I)V" } : Jvm.MethodName) ∈ tB := List.mem_filter.mpr ⟨List.mem_append_right _ (List.mem_append_right _ (List.mem_append_right _ (List.mem_of_getElem? (i := 71) rfl))), rfl⟩
theorem kw_552 : Jvm.Cond.selects "JointSolidsModel" ({ cls := "JointSolidsModel", name := "clear", desc := "(I)V" } : Jvm.MethodName) ({ cls := "JointSolidsModel", name := "clear", desc := "(I)V" } : Jvm.MethodName) ∈ tB := List.mem_filter.mpr ⟨List.mem_append_right _ (List.mem_append_right _ (List.mem_append_right _ (List.mem_of_getElem? (i := 72) rfl))), rfl⟩
theorem kw_553 : Jvm.Cond.code ({ cls := "JointSolidsModel", name := "clear", desc := "(I)V" } : Jvm.MethodName) prog_5_method_15_code (2 : Nat) (Option.none : Option Jvm.ClassFile.FieldType) ∈ tB := List.mem_filter.mpr ⟨List.mem_append_right _ (List.mem_append_right _ (List.mem_append_right _ (List.mem_of_getElem? (i := 73) rfl))), rfl⟩
theorem kw_554 : Jvm.Cond.methodLink "JointSolidsLaw" (89 : Nat) ({ cls := "JointSolidsModel", name := "joint", desc := "(IIIII)I" } : Jvm.MethodName) ∈ tB := List.mem_filter.mpr ⟨List.mem_append_right _ (List.mem_append_right _ (List.mem_append_right _ (List.mem_of_getElem? (i := 74) rfl))), rfl⟩
theorem kw_555 : Jvm.Cond.instanceMethod ({ cls := "JointSolidsModel", name := "joint", desc := "(IIIII)I" } : Jvm.MethodName) ∈ tB := List.mem_filter.mpr ⟨List.mem_append_right _ (List.mem_append_right _ (List.mem_append_right _ (List.mem_of_getElem? (i := 75) rfl))), rfl⟩
theorem kw_556 : Jvm.Cond.selects "JointSolidsModel" ({ cls := "JointSolidsModel", name := "joint", desc := "(IIIII)I" } : Jvm.MethodName) ({ cls := "JointSolidsModel", name := "joint", desc := "(IIIII)I" } : Jvm.MethodName) ∈ tB := List.mem_filter.mpr ⟨List.mem_append_right _ (List.mem_append_right _ (List.mem_append_right _ (List.mem_of_getElem? (i := 76) rfl))), rfl⟩
theorem kw_557 : Jvm.Cond.code ({ cls := "JointSolidsModel", name := "joint", desc := "(IIIII)I" } : Jvm.MethodName) prog_5_method_20_code (13 : Nat) (Option.some Jvm.ClassFile.FieldType.int) ∈ tB := List.mem_filter.mpr ⟨List.mem_append_right _ (List.mem_append_right _ (List.mem_append_right _ (List.mem_of_getElem? (i := 77) rfl))), rfl⟩
theorem kw_558 : Jvm.Cond.methodLink "JointSolidsModel" (109 : Nat) ({ cls := "JointSolidsModel", name := "hasCommon", desc := "(II)Z" } : Jvm.MethodName) ∈ tB := List.mem_filter.mpr ⟨List.mem_append_right _ (List.mem_append_right _ (List.mem_append_right _ (List.mem_of_getElem? (i := 78) rfl))), rfl⟩
theorem kw_560 : Jvm.Cond.instanceMethod ({ cls := "JointSolidsModel", name := "hasCommon", desc := "(II)Z" } : Jvm.MethodName) ∈ tB := List.mem_filter.mpr ⟨List.mem_append_right _ (List.mem_append_right _ (List.mem_append_right _ (List.mem_of_getElem? (i := 80) rfl))), rfl⟩
theorem kw_561 : Jvm.Cond.code ({ cls := "JointSolidsModel", name := "hasCommon", desc := "(II)Z" } : Jvm.MethodName) prog_5_method_16_code (5 : Nat) (Option.some Jvm.ClassFile.FieldType.boolean) ∈ tB := List.mem_filter.mpr ⟨List.mem_append_right _ (List.mem_append_right _ (List.mem_append_right _ (List.mem_of_getElem? (i := 81) rfl))), rfl⟩
theorem kw_562 : Jvm.Cond.methodLink "JointSolidsModel" (113 : Nat) ({ cls := "JointSolidsModel", name := "needs", desc := "(II)I" } : Jvm.MethodName) ∈ tB := List.mem_filter.mpr ⟨List.mem_append_right _ (List.mem_append_right _ (List.mem_append_right _ (List.mem_of_getElem? (i := 82) rfl))), rfl⟩
theorem kw_563 : Jvm.Cond.static ({ cls := "JointSolidsModel", name := "needs", desc := "(II)I" } : Jvm.MethodName) ∈ tB := List.mem_filter.mpr ⟨List.mem_append_right _ (List.mem_append_right _ (List.mem_append_right _ (List.mem_of_getElem? (i := 83) rfl))), rfl⟩
theorem kw_564 : Jvm.Cond.code ({ cls := "JointSolidsModel", name := "needs", desc := "(II)I" } : Jvm.MethodName) prog_5_method_18_code (2 : Nat) (Option.some Jvm.ClassFile.FieldType.int) ∈ tB := List.mem_filter.mpr ⟨List.mem_append_right _ (List.mem_append_right _ (List.mem_append_right _ (List.mem_of_getElem? (i := 84) rfl))), rfl⟩
theorem kw_565 : Jvm.Cond.methodLink "JointSolidsModel" (116 : Nat) ({ cls := "JointSolidsModel", name := "shape", desc := "(III)Z" } : Jvm.MethodName) ∈ tB := List.mem_filter.mpr ⟨List.mem_append_right _ (List.mem_append_right _ (List.mem_append_right _ (List.mem_of_getElem? (i := 85) rfl))), rfl⟩
theorem kw_567 : Jvm.Cond.instanceMethod ({ cls := "JointSolidsModel", name := "shape", desc := "(III)Z" } : Jvm.MethodName) ∈ tB := List.mem_filter.mpr ⟨List.mem_append_right _ (List.mem_append_right _ (List.mem_append_right _ (List.mem_of_getElem? (i := 87) rfl))), rfl⟩
theorem kw_568 : Jvm.Cond.code ({ cls := "JointSolidsModel", name := "shape", desc := "(III)Z" } : Jvm.MethodName) prog_5_method_19_code (9 : Nat) (Option.some Jvm.ClassFile.FieldType.boolean) ∈ tB := List.mem_filter.mpr ⟨List.mem_append_right _ (List.mem_append_right _ (List.mem_append_right _ (List.mem_of_getElem? (i := 88) rfl))), rfl⟩
theorem kw_569 : Jvm.Cond.methodLink "JointSolidsModel" (102 : Nat) ({ cls := "JointSolidsModel", name := "loses", desc := "(IIII)Z" } : Jvm.MethodName) ∈ tB := List.mem_filter.mpr ⟨List.mem_append_right _ (List.mem_append_right _ (List.mem_append_right _ (List.mem_of_getElem? (i := 89) rfl))), rfl⟩
theorem kw_571 : Jvm.Cond.instanceMethod ({ cls := "JointSolidsModel", name := "loses", desc := "(IIII)Z" } : Jvm.MethodName) ∈ tB := List.mem_filter.mpr ⟨List.mem_append_right _ (List.mem_append_right _ (List.mem_append_right _ (List.mem_of_getElem? (i := 91) rfl))), rfl⟩
theorem kw_572 : Jvm.Cond.code ({ cls := "JointSolidsModel", name := "loses", desc := "(IIII)Z" } : Jvm.MethodName) prog_5_method_17_code (7 : Nat) (Option.some Jvm.ClassFile.FieldType.boolean) ∈ tB := List.mem_filter.mpr ⟨List.mem_append_right _ (List.mem_append_right _ (List.mem_append_right _ (List.mem_of_getElem? (i := 92) rfl))), rfl⟩
theorem kw_573 : Jvm.Cond.methodLink "JointSolidsModel" (119 : Nat) ({ cls := "JointSolidsModel", name := "volumeOf", desc := "(I)J" } : Jvm.MethodName) ∈ tB := List.mem_filter.mpr ⟨List.mem_append_right _ (List.mem_append_right _ (List.mem_append_right _ (List.mem_of_getElem? (i := 93) rfl))), rfl⟩
theorem kw_575 : Jvm.Cond.instanceMethod ({ cls := "JointSolidsModel", name := "volumeOf", desc := "(I)J" } : Jvm.MethodName) ∈ tB := List.mem_filter.mpr ⟨List.mem_append_right _ (List.mem_append_right _ (List.mem_append_right _ (List.mem_of_getElem? (i := 95) rfl))), rfl⟩
theorem kw_576 : Jvm.Cond.code ({ cls := "JointSolidsModel", name := "volumeOf", desc := "(I)J" } : Jvm.MethodName) prog_5_method_23_code (6 : Nat) (Option.some Jvm.ClassFile.FieldType.long) ∈ tB := List.mem_filter.mpr ⟨List.mem_append_right _ (List.mem_append_right _ (List.mem_append_right _ (List.mem_of_getElem? (i := 96) rfl))), rfl⟩
theorem kw_577 : Jvm.Cond.methodLink "JointSolidsLaw" (93 : Nat) ({ cls := "JointSolidsModel", name := "pieces", desc := "(I)I" } : Jvm.MethodName) ∈ tB := List.mem_filter.mpr ⟨List.mem_append_right _ (List.mem_append_right _ (List.mem_append_right _ (List.mem_of_getElem? (i := 97) rfl))), rfl⟩
theorem kw_578 : Jvm.Cond.instanceMethod ({ cls := "JointSolidsModel", name := "pieces", desc := "(I)I" } : Jvm.MethodName) ∈ tB := List.mem_filter.mpr ⟨List.mem_append_right _ (List.mem_append_right _ (List.mem_append_right _ (List.mem_of_getElem? (i := 98) rfl))), rfl⟩
theorem kw_579 : Jvm.Cond.selects "JointSolidsModel" ({ cls := "JointSolidsModel", name := "pieces", desc := "(I)I" } : Jvm.MethodName) ({ cls := "JointSolidsModel", name := "pieces", desc := "(I)I" } : Jvm.MethodName) ∈ tB := List.mem_filter.mpr ⟨List.mem_append_right _ (List.mem_append_right _ (List.mem_append_right _ (List.mem_of_getElem? (i := 99) rfl))), rfl⟩
theorem kw_580 : Jvm.Cond.code ({ cls := "JointSolidsModel", name := "pieces", desc := "(I)I" } : Jvm.MethodName) prog_5_method_21_code (2 : Nat) (Option.some Jvm.ClassFile.FieldType.int) ∈ tB := List.mem_filter.mpr ⟨List.mem_append_right _ (List.mem_append_right _ (List.mem_append_right _ (List.mem_of_getElem? (i := 100) rfl))), rfl⟩
theorem kw_581 : Jvm.Cond.methodLink "JointSolidsLaw" (97 : Nat) ({ cls := "JointSolidsModel", name := "corner", desc := "(III)I" } : Jvm.MethodName) ∈ tB := List.mem_filter.mpr ⟨List.mem_append_right _ (List.mem_append_right _ (List.mem_append_right _ (List.mem_of_getElem? (i := 101) rfl))), rfl⟩
theorem kw_582 : Jvm.Cond.instanceMethod ({ cls := "JointSolidsModel", name := "corner", desc := "(III)I" } : Jvm.MethodName) ∈ tB := List.mem_filter.mpr ⟨List.mem_append_right _ (List.mem_append_right _ (List.mem_append_right _ (List.mem_of_getElem? (i := 102) rfl))), rfl⟩
theorem kw_583 : Jvm.Cond.selects "JointSolidsModel" ({ cls := "JointSolidsModel", name := "corner", desc := "(III)I" } : Jvm.MethodName) ({ cls := "JointSolidsModel", name := "corner", desc := "(III)I" } : Jvm.MethodName) ∈ tB := List.mem_filter.mpr ⟨List.mem_append_right _ (List.mem_append_right _ (List.mem_append_right _ (List.mem_of_getElem? (i := 103) rfl))), rfl⟩
theorem kw_584 : Jvm.Cond.code ({ cls := "JointSolidsModel", name := "corner", desc := "(III)I" } : Jvm.MethodName) prog_5_method_22_code (4 : Nat) (Option.some Jvm.ClassFile.FieldType.int) ∈ tB := List.mem_filter.mpr ⟨List.mem_append_right _ (List.mem_append_right _ (List.mem_append_right _ (List.mem_of_getElem? (i := 104) rfl))), rfl⟩
theorem kw_585 : Jvm.Cond.methodLink "JointSolidsLaw" (100 : Nat) ({ cls := "JointSolidsModel", name := "volume", desc := "(I)J" } : Jvm.MethodName) ∈ tB := List.mem_filter.mpr ⟨List.mem_append_right _ (List.mem_append_right _ (List.mem_append_right _ (List.mem_of_getElem? (i := 105) rfl))), rfl⟩
theorem kw_586 : Jvm.Cond.instanceMethod ({ cls := "JointSolidsModel", name := "volume", desc := "(I)J" } : Jvm.MethodName) ∈ tB := List.mem_filter.mpr ⟨List.mem_append_right _ (List.mem_append_right _ (List.mem_append_right _ (List.mem_of_getElem? (i := 106) rfl))), rfl⟩
theorem kw_587 : Jvm.Cond.selects "JointSolidsModel" ({ cls := "JointSolidsModel", name := "volume", desc := "(I)J" } : Jvm.MethodName) ({ cls := "JointSolidsModel", name := "volume", desc := "(I)J" } : Jvm.MethodName) ∈ tB := List.mem_filter.mpr ⟨List.mem_append_right _ (List.mem_append_right _ (List.mem_append_right _ (List.mem_of_getElem? (i := 107) rfl))), rfl⟩
theorem kw_588 : Jvm.Cond.code ({ cls := "JointSolidsModel", name := "volume", desc := "(I)J" } : Jvm.MethodName) prog_5_method_24_code (2 : Nat) (Option.some Jvm.ClassFile.FieldType.long) ∈ tB := List.mem_filter.mpr ⟨List.mem_append_right _ (List.mem_append_right _ (List.mem_append_right _ (List.mem_of_getElem? (i := 108) rfl))), rfl⟩
theorem kw_589 : Jvm.Cond.methodLink "JointSolidsLaw" (104 : Nat) ({ cls := "JointSolidsModel", name := "overlap", desc := "(II)J" } : Jvm.MethodName) ∈ tB := List.mem_filter.mpr ⟨List.mem_append_right _ (List.mem_append_right _ (List.mem_append_right _ (List.mem_of_getElem? (i := 109) rfl))), rfl⟩
theorem kw_590 : Jvm.Cond.instanceMethod ({ cls := "JointSolidsModel", name := "overlap", desc := "(II)J" } : Jvm.MethodName) ∈ tB := List.mem_filter.mpr ⟨List.mem_append_right _ (List.mem_append_right _ (List.mem_append_right _ (List.mem_of_getElem? (i := 110) rfl))), rfl⟩
theorem kw_591 : Jvm.Cond.selects "JointSolidsModel" ({ cls := "JointSolidsModel", name := "overlap", desc := "(II)J" } : Jvm.MethodName) ({ cls := "JointSolidsModel", name := "overlap", desc := "(II)J" } : Jvm.MethodName) ∈ tB := List.mem_filter.mpr ⟨List.mem_append_right _ (List.mem_append_right _ (List.mem_append_right _ (List.mem_of_getElem? (i := 111) rfl))), rfl⟩
theorem kw_592 : Jvm.Cond.code ({ cls := "JointSolidsModel", name := "overlap", desc := "(II)J" } : Jvm.MethodName) prog_5_method_29_code (3 : Nat) (Option.some Jvm.ClassFile.FieldType.long) ∈ tB := List.mem_filter.mpr ⟨List.mem_append_right _ (List.mem_append_right _ (List.mem_append_right _ (List.mem_of_getElem? (i := 112) rfl))), rfl⟩
theorem kw_593 : Jvm.Cond.methodLink "JointSolidsModel" (127 : Nat) ({ cls := "JointSolidsModel", name := "pair", desc := "(II)I" } : Jvm.MethodName) ∈ tB := List.mem_filter.mpr ⟨List.mem_append_right _ (List.mem_append_right _ (List.mem_append_right _ (List.mem_of_getElem? (i := 113) rfl))), rfl⟩
theorem kw_595 : Jvm.Cond.instanceMethod ({ cls := "JointSolidsModel", name := "pair", desc := "(II)I" } : Jvm.MethodName) ∈ tB := List.mem_filter.mpr ⟨List.mem_append_right _ (List.mem_append_right _ (List.mem_append_right _ (List.mem_of_getElem? (i := 115) rfl))), rfl⟩
theorem kw_596 : Jvm.Cond.code ({ cls := "JointSolidsModel", name := "pair", desc := "(II)I" } : Jvm.MethodName) prog_5_method_28_code (3 : Nat) (Option.some Jvm.ClassFile.FieldType.int) ∈ tB := List.mem_filter.mpr ⟨List.mem_append_right _ (List.mem_append_right _ (List.mem_append_right _ (List.mem_of_getElem? (i := 116) rfl))), rfl⟩
theorem kw_597 : Jvm.Cond.methodLink "JointSolidsModel" (130 : Nat) ({ cls := "JointSolidsModel", name := "overlapOf", desc := "(II)J" } : Jvm.MethodName) ∈ tB := List.mem_filter.mpr ⟨List.mem_append_right _ (List.mem_append_right _ (List.mem_append_right _ (List.mem_of_getElem? (i := 117) rfl))), rfl⟩
theorem kw_599 : Jvm.Cond.instanceMethod ({ cls := "JointSolidsModel", name := "overlapOf", desc := "(II)J" } : Jvm.MethodName) ∈ tB := List.mem_filter.mpr ⟨List.mem_append_right _ (List.mem_append_right _ (List.mem_append_right _ (List.mem_of_getElem? (i := 119) rfl))), rfl⟩
theorem kw_600 : Jvm.Cond.code ({ cls := "JointSolidsModel", name := "overlapOf", desc := "(II)J" } : Jvm.MethodName) prog_5_method_26_code (9 : Nat) (Option.some Jvm.ClassFile.FieldType.long) ∈ tB := List.mem_filter.mpr ⟨List.mem_append_right _ (List.mem_append_right _ (List.mem_append_right _ (List.mem_of_getElem? (i := 120) rfl))), rfl⟩
theorem kw_601 : Jvm.Cond.methodLink "JointSolidsModel" (123 : Nat) ({ cls := "JointSolidsModel", name := "span", desc := "(III)J" } : Jvm.MethodName) ∈ tB := List.mem_filter.mpr ⟨List.mem_append_right _ (List.mem_append_right _ (List.mem_append_right _ (List.mem_of_getElem? (i := 121) rfl))), rfl⟩
theorem kw_603 : Jvm.Cond.instanceMethod ({ cls := "JointSolidsModel", name := "span", desc := "(III)J" } : Jvm.MethodName) ∈ tB := List.mem_filter.mpr ⟨List.mem_append_right _ (List.mem_append_right _ (List.mem_append_right _ (List.mem_of_getElem? (i := 123) rfl))), rfl⟩
theorem kw_604 : Jvm.Cond.code ({ cls := "JointSolidsModel", name := "span", desc := "(III)J" } : Jvm.MethodName) prog_5_method_25_code (5 : Nat) (Option.some Jvm.ClassFile.FieldType.long) ∈ tB := List.mem_filter.mpr ⟨List.mem_append_right _ (List.mem_append_right _ (List.mem_append_right _ (List.mem_of_getElem? (i := 124) rfl))), rfl⟩
theorem kw_605 : Jvm.Cond.methodLink "JointSolidsLaw" (107 : Nat) ({ cls := "JointSolidsModel", name := "touch", desc := "(II)J" } : Jvm.MethodName) ∈ tB := List.mem_filter.mpr ⟨List.mem_append_right _ (List.mem_append_right _ (List.mem_append_right _ (List.mem_of_getElem? (i := 125) rfl))), rfl⟩
theorem kw_606 : Jvm.Cond.instanceMethod ({ cls := "JointSolidsModel", name := "touch", desc := "(II)J" } : Jvm.MethodName) ∈ tB := List.mem_filter.mpr ⟨List.mem_append_right _ (List.mem_append_right _ (List.mem_append_right _ (List.mem_of_getElem? (i := 126) rfl))), rfl⟩
theorem kw_607 : Jvm.Cond.selects "JointSolidsModel" ({ cls := "JointSolidsModel", name := "touch", desc := "(II)J" } : Jvm.MethodName) ({ cls := "JointSolidsModel", name := "touch", desc := "(II)J" } : Jvm.MethodName) ∈ tB := List.mem_filter.mpr ⟨List.mem_append_right _ (List.mem_append_right _ (List.mem_append_right _ (List.mem_of_getElem? (i := 127) rfl))), rfl⟩
theorem kw_608 : Jvm.Cond.code ({ cls := "JointSolidsModel", name := "touch", desc := "(II)J" } : Jvm.MethodName) prog_5_method_30_code (3 : Nat) (Option.some Jvm.ClassFile.FieldType.long) ∈ tB := List.mem_filter.mpr ⟨List.mem_append_right _ (List.mem_append_right _ (List.mem_append_right _ (List.mem_of_getElem? (i := 128) rfl))), rfl⟩
theorem kw_609 : Jvm.Cond.methodLink "JointSolidsModel" (134 : Nat) ({ cls := "JointSolidsModel", name := "touchOf", desc := "(II)J" } : Jvm.MethodName) ∈ tB := List.mem_filter.mpr ⟨List.mem_append_right _ (List.mem_append_right _ (List.mem_append_right _ (List.mem_of_getElem? (i := 129) rfl))), rfl⟩
theorem kw_611 : Jvm.Cond.instanceMethod ({ cls := "JointSolidsModel", name := "touchOf", desc := "(II)J" } : Jvm.MethodName) ∈ tB := List.mem_filter.mpr ⟨List.mem_append_right _ (List.mem_append_right _ (List.mem_append_right _ (List.mem_of_getElem? (i := 131) rfl))), rfl⟩
theorem kw_612 : Jvm.Cond.code ({ cls := "JointSolidsModel", name := "touchOf", desc := "(II)J" } : Jvm.MethodName) prog_5_method_27_code (12 : Nat) (Option.some Jvm.ClassFile.FieldType.long) ∈ tB := List.mem_filter.mpr ⟨List.mem_append_right _ (List.mem_append_right _ (List.mem_append_right _ (List.mem_of_getElem? (i := 132) rfl))), rfl⟩
theorem kw_613 : Jvm.Cond.methodLink "JointSolidsLaw" (111 : Nat) ({ cls := "JointSolidsModel", name := "has", desc := "(IIII)Z" } : Jvm.MethodName) ∈ tB := List.mem_filter.mpr ⟨List.mem_append_right _ (List.mem_append_right _ (List.mem_append_right _ (List.mem_of_getElem? (i := 133) rfl))), rfl⟩
theorem kw_614 : Jvm.Cond.instanceMethod ({ cls := "JointSolidsModel", name := "has", desc := "(IIII)Z" } : Jvm.MethodName) ∈ tB := List.mem_filter.mpr ⟨List.mem_append_right _ (List.mem_append_right _ (List.mem_append_right _ (List.mem_of_getElem? (i := 134) rfl))), rfl⟩
theorem kw_615 : Jvm.Cond.selects "JointSolidsModel" ({ cls := "JointSolidsModel", name := "has", desc := "(IIII)Z" } : Jvm.MethodName) ({ cls := "JointSolidsModel", name := "has", desc := "(IIII)Z" } : Jvm.MethodName) ∈ tB := List.mem_filter.mpr ⟨List.mem_append_right _ (List.mem_append_right _ (List.mem_append_right _ (List.mem_of_getElem? (i := 135) rfl))), rfl⟩
theorem kw_616 : Jvm.Cond.code ({ cls := "JointSolidsModel", name := "has", desc := "(IIII)Z" } : Jvm.MethodName) prog_5_method_31_code (8 : Nat) (Option.some Jvm.ClassFile.FieldType.boolean) ∈ tB := List.mem_filter.mpr ⟨List.mem_append_right _ (List.mem_append_right _ (List.mem_append_right _ (List.mem_of_getElem? (i := 136) rfl))), rfl⟩
theorem kw_617 : Jvm.Cond.methodLink "JointSolidsLaw" (115 : Nat) ({ cls := "JointSolidsModel", name := "row", desc := "(II)V" } : Jvm.MethodName) ∈ tB := List.mem_filter.mpr ⟨List.mem_append_right _ (List.mem_append_right _ (List.mem_append_right _ (List.mem_of_getElem? (i := 137) rfl))), rfl⟩
theorem kw_618 : Jvm.Cond.instanceMethod ({ cls := "JointSolidsModel", name := "row", desc := "(II)V" } : Jvm.MethodName) ∈ tB := List.mem_filter.mpr ⟨List.mem_append_right _ (List.mem_append_right _ (List.mem_append_right _ (List.mem_of_getElem? (i := 138) rfl))), rfl⟩
theorem kw_619 : Jvm.Cond.selects "JointSolidsModel" ({ cls := "JointSolidsModel", name := "row", desc := "(II)V" } : Jvm.MethodName) ({ cls := "JointSolidsModel", name := "row", desc := "(II)V" } : Jvm.MethodName) ∈ tB := List.mem_filter.mpr ⟨List.mem_append_right _ (List.mem_append_right _ (List.mem_append_right _ (List.mem_of_getElem? (i := 139) rfl))), rfl⟩
theorem kw_620 : Jvm.Cond.code ({ cls := "JointSolidsModel", name := "row", desc := "(II)V" } : Jvm.MethodName) prog_5_method_32_code (3 : Nat) (Option.none : Option Jvm.ClassFile.FieldType) ∈ tB := List.mem_filter.mpr ⟨List.mem_append_right _ (List.mem_append_right _ (List.mem_append_right _ (List.mem_of_getElem? (i := 140) rfl))), rfl⟩
theorem kw_621 : Jvm.Cond.methodLink "JointSolidsLaw" (118 : Nat) ({ cls := "JointSolidsModel", name := "strength", desc := "(I)J" } : Jvm.MethodName) ∈ tB := List.mem_filter.mpr ⟨List.mem_append_right _ (List.mem_append_right _ (List.mem_append_right _ (List.mem_of_getElem? (i := 141) rfl))), rfl⟩
theorem kw_622 : Jvm.Cond.instanceMethod ({ cls := "JointSolidsModel", name := "strength", desc := "(I)J" } : Jvm.MethodName) ∈ tB := List.mem_filter.mpr ⟨List.mem_append_right _ (List.mem_append_right _ (List.mem_append_right _ (List.mem_of_getElem? (i := 142) rfl))), rfl⟩
theorem kw_623 : Jvm.Cond.selects "JointSolidsModel" ({ cls := "JointSolidsModel", name := "strength", desc := "(I)J" } : Jvm.MethodName) ({ cls := "JointSolidsModel", name := "strength", desc := "(I)J" } : Jvm.MethodName) ∈ tB := List.mem_filter.mpr ⟨List.mem_append_right _ (List.mem_append_right _ (List.mem_append_right _ (List.mem_of_getElem? (i := 143) rfl))), rfl⟩
theorem kw_624 : Jvm.Cond.code ({ cls := "JointSolidsModel", name := "strength", desc := "(I)J" } : Jvm.MethodName) prog_5_method_34_code (2 : Nat) (Option.some Jvm.ClassFile.FieldType.long) ∈ tB := List.mem_filter.mpr ⟨List.mem_append_right _ (List.mem_append_right _ (List.mem_append_right _ (List.mem_of_getElem? (i := 144) rfl))), rfl⟩
theorem kw_625 : Jvm.Cond.methodLink "JointSolidsModel" (137 : Nat) ({ cls := "JointSolidsModel", name := "noJoint", desc := "(I)Z" } : Jvm.MethodName) ∈ tB := List.mem_filter.mpr ⟨List.mem_append_right _ (List.mem_append_right _ (List.mem_append_right _ (List.mem_of_getElem? (i := 145) rfl))), rfl⟩
theorem kw_627 : Jvm.Cond.instanceMethod ({ cls := "JointSolidsModel", name := "noJoint", desc := "(I)Z" } : Jvm.MethodName) ∈ tB := List.mem_filter.mpr ⟨List.mem_append_right _ (List.mem_append_right _ (List.mem_append_right _ (List.mem_of_getElem? (i := 147) rfl))), rfl⟩
theorem kw_628 : Jvm.Cond.code ({ cls := "JointSolidsModel", name := "noJoint", desc := "(I)Z" } : Jvm.MethodName) prog_5_method_33_code (2 : Nat) (Option.some Jvm.ClassFile.FieldType.boolean) ∈ tB := List.mem_filter.mpr ⟨List.mem_append_right _ (List.mem_append_right _ (List.mem_append_right _ (List.mem_of_getElem? (i := 148) rfl))), rfl⟩
theorem kw_629 : Jvm.Cond.constantLong "JointSolidsModel" (140 : Nat) (100 : Int64) ∈ tB := List.mem_filter.mpr ⟨List.mem_append_right _ (List.mem_append_right _ (List.mem_append_right _ (List.mem_of_getElem? (i := 149) rfl))), rfl⟩
theorem kw_630 : Jvm.Cond.methodLink "JointSolidsLaw" (121 : Nat) ({ cls := "JointSolidsModel", name := "about", desc := "(II)J" } : Jvm.MethodName) ∈ tB := List.mem_filter.mpr ⟨List.mem_append_right _ (List.mem_append_right _ (List.mem_append_right _ (List.mem_of_getElem? (i := 150) rfl))), rfl⟩
theorem kw_631 : Jvm.Cond.instanceMethod ({ cls := "JointSolidsModel", name := "about", desc := "(II)J" } : Jvm.MethodName) ∈ tB := List.mem_filter.mpr ⟨List.mem_append_right _ (List.mem_append_right _ (List.mem_append_right _ (List.mem_of_getElem? (i := 151) rfl))), rfl⟩
theorem kw_632 : Jvm.Cond.selects "JointSolidsModel" ({ cls := "JointSolidsModel", name := "about", desc := "(II)J" } : Jvm.MethodName) ({ cls := "JointSolidsModel", name := "about", desc := "(II)J" } : Jvm.MethodName) ∈ tB := List.mem_filter.mpr ⟨List.mem_append_right _ (List.mem_append_right _ (List.mem_append_right _ (List.mem_of_getElem? (i := 152) rfl))), rfl⟩
theorem kw_633 : Jvm.Cond.code ({ cls := "JointSolidsModel", name := "about", desc := "(II)J" } : Jvm.MethodName) prog_5_method_35_code (3 : Nat) (Option.some Jvm.ClassFile.FieldType.long) ∈ tB := List.mem_filter.mpr ⟨List.mem_append_right _ (List.mem_append_right _ (List.mem_append_right _ (List.mem_of_getElem? (i := 153) rfl))), rfl⟩
theorem kw_634 : Jvm.Cond.methodLink "JointSolidsLaw" (125 : Nat) ({ cls := "JointSolidsModel", name := "first", desc := "()I" } : Jvm.MethodName) ∈ tB := List.mem_filter.mpr ⟨List.mem_append_right _ (List.mem_append_right _ (List.mem_append_right _ (List.mem_of_getElem? (i := 154) rfl))), rfl⟩
theorem kw_635 : Jvm.Cond.instanceMethod ({ cls := "JointSolidsModel", name := "first", desc := "()I" } : Jvm.MethodName) ∈ tB := List.mem_filter.mpr ⟨List.mem_append_right _ (List.mem_append_right _ (List.mem_append_right _ (List.mem_of_getElem? (i := 155) rfl))), rfl⟩
theorem kw_636 : Jvm.Cond.selects "JointSolidsModel" ({ cls := "JointSolidsModel", name := "first", desc := "()I" } : Jvm.MethodName) ({ cls := "JointSolidsModel", name := "first", desc := "()I" } : Jvm.MethodName) ∈ tB := List.mem_filter.mpr ⟨List.mem_append_right _ (List.mem_append_right _ (List.mem_append_right _ (List.mem_of_getElem? (i := 156) rfl))), rfl⟩
theorem kw_637 : Jvm.Cond.code ({ cls := "JointSolidsModel", name := "first", desc := "()I" } : Jvm.MethodName) prog_5_method_36_code (3 : Nat) (Option.some Jvm.ClassFile.FieldType.int) ∈ tB := List.mem_filter.mpr ⟨List.mem_append_right _ (List.mem_append_right _ (List.mem_append_right _ (List.mem_of_getElem? (i := 157) rfl))), rfl⟩
theorem kw_638 : Jvm.Cond.sameMethod "java/lang/Throwable" "java/lang/Throwable" "fillInStackTrace" "(I)Ljava/lang/Throwable;" ∈ tB := List.mem_filter.mpr ⟨List.mem_append_right _ (List.mem_append_right _ (List.mem_append_right _ (List.mem_of_getElem? (i := 158) rfl))), rfl⟩
theorem kb_22 : Jvm.Cond.arrayOver (Jvm.ClassFile.FieldType.object "JointSolids$Solid") ∈ lw_tbl := List.mem_append_right _ (List.mem_append_left _ (List.mem_of_getElem? (i := 22) rfl))
theorem kb_24 : Jvm.Cond.arrayOver (Jvm.ClassFile.FieldType.object "JointSolids$Joint") ∈ lw_tbl := List.mem_append_right _ (List.mem_append_left _ (List.mem_of_getElem? (i := 24) rfl))
theorem kb_26 : Jvm.Cond.methodLinkNest "JointSolids" (28 : Nat) ({ cls := "JointSolids$Solid", name := "<init>", desc := "()V" } : Jvm.MethodName) "JointSolids" ∈ lw_tbl := List.mem_append_right _ (List.mem_append_left _ (List.mem_of_getElem? (i := 26) rfl))
theorem kb_31 : Jvm.Cond.fieldLinkNest "JointSolids" (170 : Nat) "JointSolids$Solid" "boxes" "[I" "JointSolids" ∈ lw_tbl := List.mem_append_right _ (List.mem_append_left _ (List.mem_of_getElem? (i := 31) rfl))
theorem kb_33 : Jvm.Cond.fieldLinkNest "JointSolids" (160 : Nat) "JointSolids$Solid" "count" "I" "JointSolids" ∈ lw_tbl := List.mem_append_right _ (List.mem_append_left _ (List.mem_of_getElem? (i := 33) rfl))
theorem kb_88 : Jvm.Cond.privateMethod ({ cls := "JointSolids", name := "solidOf", desc := "(I)LJointSolids$Solid;" } : Jvm.MethodName) ∈ lw_tbl := List.mem_append_right _ (List.mem_append_left _ (List.mem_of_getElem? (i := 88) rfl))
theorem kb_93 : Jvm.Cond.castable "java/lang/IndexOutOfBoundsException" "java/lang/IndexOutOfBoundsException" ∈ lw_tbl := List.mem_append_right _ (List.mem_append_left _ (List.mem_of_getElem? (i := 93) rfl))
theorem kb_94 : Jvm.Cond.declares ({ cls := "java/lang/RuntimeException", name := "<init>", desc := "()V" } : Jvm.MethodName) ∈ lw_tbl := List.mem_append_right _ (List.mem_append_left _ (List.mem_of_getElem? (i := 94) rfl))
theorem kb_95 : Jvm.Cond.declares ({ cls := "java/lang/RuntimeException", name := "<init>", desc := "(Ljava/lang/String;)V" } : Jvm.MethodName) ∈ lw_tbl := List.mem_append_right _ (List.mem_append_left _ (List.mem_of_getElem? (i := 95) rfl))
theorem kb_96 : Jvm.Cond.declares ({ cls := "java/lang/Exception", name := "<init>", desc := "()V" } : Jvm.MethodName) ∈ lw_tbl := List.mem_append_right _ (List.mem_append_left _ (List.mem_of_getElem? (i := 96) rfl))
theorem kb_97 : Jvm.Cond.declares ({ cls := "java/lang/Exception", name := "<init>", desc := "(Ljava/lang/String;)V" } : Jvm.MethodName) ∈ lw_tbl := List.mem_append_right _ (List.mem_append_left _ (List.mem_of_getElem? (i := 97) rfl))
theorem kb_98 : Jvm.Cond.declares ({ cls := "java/lang/Throwable", name := "<init>", desc := "()V" } : Jvm.MethodName) ∈ lw_tbl := List.mem_append_right _ (List.mem_append_left _ (List.mem_of_getElem? (i := 98) rfl))
theorem kb_99 : Jvm.Cond.declares ({ cls := "java/lang/Throwable", name := "<init>", desc := "(Ljava/lang/String;)V" } : Jvm.MethodName) ∈ lw_tbl := List.mem_append_right _ (List.mem_append_left _ (List.mem_of_getElem? (i := 99) rfl))
theorem kb_118 : Jvm.Cond.laysStatic "java/lang/Throwable" "UNASSIGNED_STACK" "[Ljava/lang/StackTraceElement;" ∈ lw_tbl := List.mem_append_right _ (List.mem_append_left _ (List.mem_of_getElem? (i := 118) rfl))
theorem kb_120 : Jvm.Cond.laysStatic "java/lang/Throwable" "SUPPRESSED_SENTINEL" "Ljava/util/List;" ∈ lw_tbl := List.mem_append_right _ (List.mem_append_left _ (List.mem_of_getElem? (i := 120) rfl))
theorem kb_128 : Jvm.Cond.privateMethod ({ cls := "java/lang/Throwable", name := "fillInStackTrace", desc := "(I)Ljava/lang/Throwable;" } : Jvm.MethodName) ∈ lw_tbl := List.mem_append_right _ (List.mem_append_left _ (List.mem_of_getElem? (i := 128) rfl))
theorem kb_132 : Jvm.Cond.stringRef "JointSolids" (205 : Nat) "there is no such part" ∈ lw_tbl := List.mem_append_right _ (List.mem_append_left _ (List.mem_of_getElem? (i := 132) rfl))
theorem kb_188 : Jvm.Cond.castable "java/lang/IllegalArgumentException" "java/lang/IllegalArgumentException" ∈ lw_tbl := List.mem_append_right _ (List.mem_append_left _ (List.mem_of_getElem? (i := 188) rfl))
theorem kb_195 : Jvm.Cond.stringRef "JointSolids" (225 : Nat) "a place is too far away" ∈ lw_tbl := List.mem_append_right _ (List.mem_append_left _ (List.mem_of_getElem? (i := 195) rfl))
theorem kb_205 : Jvm.Cond.stringRef "JointSolids" (227 : Nat) "a size is too small or too large" ∈ lw_tbl := List.mem_append_right _ (List.mem_append_left _ (List.mem_of_getElem? (i := 205) rfl))
theorem kb_208 : Jvm.Cond.castable "java/lang/IllegalStateException" "java/lang/IllegalStateException" ∈ lw_tbl := List.mem_append_right _ (List.mem_append_left _ (List.mem_of_getElem? (i := 208) rfl))
theorem kb_215 : Jvm.Cond.stringRef "JointSolids" (64 : Nat) "there is no room for a part more" ∈ lw_tbl := List.mem_append_right _ (List.mem_append_left _ (List.mem_of_getElem? (i := 215) rfl))
theorem kb_223 : Jvm.Cond.privateMethod ({ cls := "JointSolids", name := "setTool", desc := "(IIIIII)V" } : Jvm.MethodName) ∈ lw_tbl := List.mem_append_right _ (List.mem_append_left _ (List.mem_of_getElem? (i := 223) rfl))
theorem kb_229 : Jvm.Cond.methodLinkNest "JointSolids" (79 : Nat) ({ cls := "JointSolids$Solid", name := "add", desc := "([II)V" } : Jvm.MethodName) "JointSolids" ∈ lw_tbl := List.mem_append_right _ (List.mem_append_left _ (List.mem_of_getElem? (i := 229) rfl))
theorem kb_230 : Jvm.Cond.privateMethod ({ cls := "JointSolids$Solid", name := "add", desc := "([II)V" } : Jvm.MethodName) ∈ lw_tbl := List.mem_append_right _ (List.mem_append_left _ (List.mem_of_getElem? (i := 230) rfl))
theorem kb_242 : Jvm.Cond.methodLinkNest "JointSolids" (87 : Nat) ({ cls := "JointSolids$Solid", name := "total", desc := "()J" } : Jvm.MethodName) "JointSolids" ∈ lw_tbl := List.mem_append_right _ (List.mem_append_right _ (List.mem_append_left _ (List.mem_of_getElem? (i := 2) rfl)))
theorem kb_243 : Jvm.Cond.privateMethod ({ cls := "JointSolids$Solid", name := "total", desc := "()J" } : Jvm.MethodName) ∈ lw_tbl := List.mem_append_right _ (List.mem_append_right _ (List.mem_append_left _ (List.mem_of_getElem? (i := 3) rfl)))
theorem kb_246 : Jvm.Cond.methodLinkNest "JointSolids$Solid" (31 : Nat) ({ cls := "JointSolids", name := "volumeShared", desc := "([II[II)J" } : Jvm.MethodName) "JointSolids" ∈ lw_tbl := List.mem_append_right _ (List.mem_append_right _ (List.mem_append_left _ (List.mem_of_getElem? (i := 6) rfl)))
theorem kb_248 : Jvm.Cond.privateMethod ({ cls := "JointSolids", name := "carve", desc := "(LJointSolids$Solid;)Z" } : Jvm.MethodName) ∈ lw_tbl := List.mem_append_right _ (List.mem_append_right _ (List.mem_append_left _ (List.mem_of_getElem? (i := 8) rfl)))
theorem kb_251 : Jvm.Cond.methodLinkNest "JointSolids" (229 : Nat) ({ cls := "JointSolids$Solid", name := "empty", desc := "()V" } : Jvm.MethodName) "JointSolids" ∈ lw_tbl := List.mem_append_right _ (List.mem_append_right _ (List.mem_append_left _ (List.mem_of_getElem? (i := 11) rfl)))
theorem kb_252 : Jvm.Cond.privateMethod ({ cls := "JointSolids$Solid", name := "empty", desc := "()V" } : Jvm.MethodName) ∈ lw_tbl := List.mem_append_right _ (List.mem_append_right _ (List.mem_append_left _ (List.mem_of_getElem? (i := 12) rfl)))
theorem kb_256 : Jvm.Cond.privateMethod ({ cls := "JointSolids", name := "addRest", desc := "(LJointSolids$Solid;I)V" } : Jvm.MethodName) ∈ lw_tbl := List.mem_append_right _ (List.mem_append_right _ (List.mem_append_left _ (List.mem_of_getElem? (i := 16) rfl)))
theorem kb_260 : Jvm.Cond.privateMethod ({ cls := "JointSolids", name := "addSlab", desc := "(III)V" } : Jvm.MethodName) ∈ lw_tbl := List.mem_append_right _ (List.mem_append_right _ (List.mem_append_left _ (List.mem_of_getElem? (i := 20) rfl)))
theorem kb_263 : Jvm.Cond.methodLinkNest "JointSolids" (139 : Nat) ({ cls := "JointSolids$Solid", name := "copy", desc := "(LJointSolids$Solid;)V" } : Jvm.MethodName) "JointSolids" ∈ lw_tbl := List.mem_append_right _ (List.mem_append_right _ (List.mem_append_left _ (List.mem_of_getElem? (i := 23) rfl)))
theorem kb_264 : Jvm.Cond.privateMethod ({ cls := "JointSolids$Solid", name := "copy", desc := "(LJointSolids$Solid;)V" } : Jvm.MethodName) ∈ lw_tbl := List.mem_append_right _ (List.mem_append_right _ (List.mem_append_left _ (List.mem_of_getElem? (i := 24) rfl)))
theorem kb_268 : Jvm.Cond.stringRef "JointSolids" (95 : Nat) "there is no room for so many pieces" ∈ lw_tbl := List.mem_append_right _ (List.mem_append_right _ (List.mem_append_left _ (List.mem_of_getElem? (i := 28) rfl)))
theorem kb_276 : Jvm.Cond.stringRef "JointSolids" (99 : Nat) "a clearance is 0 .. 100" ∈ lw_tbl := List.mem_append_right _ (List.mem_append_right _ (List.mem_append_left _ (List.mem_of_getElem? (i := 36) rfl)))
theorem kb_287 : Jvm.Cond.stringRef "JointSolids" (209 : Nat) "there is no such kind" ∈ lw_tbl := List.mem_append_right _ (List.mem_append_right _ (List.mem_append_left _ (List.mem_of_getElem? (i := 47) rfl)))
theorem kb_291 : Jvm.Cond.stringRef "JointSolids" (211 : Nat) "there is no such axis" ∈ lw_tbl := List.mem_append_right _ (List.mem_append_right _ (List.mem_append_left _ (List.mem_of_getElem? (i := 51) rfl)))
theorem kb_295 : Jvm.Cond.stringRef "JointSolids" (215 : Nat) "both parts are one" ∈ lw_tbl := List.mem_append_right _ (List.mem_append_right _ (List.mem_append_left _ (List.mem_of_getElem? (i := 55) rfl)))
theorem kb_299 : Jvm.Cond.stringRef "JointSolids" (213 : Nat) "a width is 1 .. 1000" ∈ lw_tbl := List.mem_append_right _ (List.mem_append_right _ (List.mem_append_left _ (List.mem_of_getElem? (i := 59) rfl)))
theorem kb_300 : Jvm.Cond.stringRef "JointSolids" (122 : Nat) "there is no room for a joint more" ∈ lw_tbl := List.mem_append_right _ (List.mem_append_right _ (List.mem_append_left _ (List.mem_of_getElem? (i := 60) rfl)))
theorem kb_302 : Jvm.Cond.privateMethod ({ cls := "JointSolids", name := "findCommon", desc := "(II)Z" } : Jvm.MethodName) ∈ lw_tbl := List.mem_append_right _ (List.mem_append_right _ (List.mem_append_left _ (List.mem_of_getElem? (i := 62) rfl)))
theorem kb_305 : Jvm.Cond.stringRef "JointSolids" (128 : Nat) "the parts have no box in common" ∈ lw_tbl := List.mem_append_right _ (List.mem_append_right _ (List.mem_append_left _ (List.mem_of_getElem? (i := 65) rfl)))
theorem kb_309 : Jvm.Cond.stringRef "JointSolids" (134 : Nat) "there is no room for so many slices" ∈ lw_tbl := List.mem_append_right _ (List.mem_append_right _ (List.mem_append_left _ (List.mem_of_getElem? (i := 69) rfl)))
theorem kb_314 : Jvm.Cond.privateMethod ({ cls := "JointSolids", name := "markSpans", desc := "(III)I" } : Jvm.MethodName) ∈ lw_tbl := List.mem_append_right _ (List.mem_append_right _ (List.mem_append_left _ (List.mem_of_getElem? (i := 74) rfl)))
theorem kb_318 : Jvm.Cond.privateMethod ({ cls := "JointSolids", name := "carveSpans", desc := "(III)Z" } : Jvm.MethodName) ∈ lw_tbl := List.mem_append_right _ (List.mem_append_right _ (List.mem_append_left _ (List.mem_of_getElem? (i := 78) rfl)))
theorem kb_322 : Jvm.Cond.privateMethod ({ cls := "JointSolids", name := "setSpan", desc := "(IIII)V" } : Jvm.MethodName) ∈ lw_tbl := List.mem_append_right _ (List.mem_append_right _ (List.mem_append_left _ (List.mem_of_getElem? (i := 82) rfl)))
theorem kb_326 : Jvm.Cond.methodLinkNest "JointSolids" (151 : Nat) ({ cls := "JointSolids$Joint", name := "<init>", desc := "(IIII)V" } : Jvm.MethodName) "JointSolids" ∈ lw_tbl := List.mem_append_right _ (List.mem_append_right _ (List.mem_append_left _ (List.mem_of_getElem? (i := 86) rfl)))
theorem kb_331 : Jvm.Cond.fieldLinkNest "JointSolids" (195 : Nat) "JointSolids$Joint" "kind" "I" "JointSolids" ∈ lw_tbl := List.mem_append_right _ (List.mem_append_right _ (List.mem_append_left _ (List.mem_of_getElem? (i := 91) rfl)))
theorem kb_333 : Jvm.Cond.fieldLinkNest "JointSolids" (189 : Nat) "JointSolids$Joint" "a" "I" "JointSolids" ∈ lw_tbl := List.mem_append_right _ (List.mem_append_right _ (List.mem_append_left _ (List.mem_of_getElem? (i := 93) rfl)))
theorem kb_335 : Jvm.Cond.fieldLinkNest "JointSolids" (192 : Nat) "JointSolids$Joint" "b" "I" "JointSolids" ∈ lw_tbl := List.mem_append_right _ (List.mem_append_right _ (List.mem_append_left _ (List.mem_of_getElem? (i := 95) rfl)))
theorem kb_337 : Jvm.Cond.fieldLinkNest "JointSolids" (200 : Nat) "JointSolids$Joint" "axis" "I" "JointSolids" ∈ lw_tbl := List.mem_append_right _ (List.mem_append_right _ (List.mem_append_left _ (List.mem_of_getElem? (i := 97) rfl)))
theorem kb_338 : Jvm.Cond.fieldLinkNest "JointSolids" (153 : Nat) "JointSolids$Joint" "lostA" "J" "JointSolids" ∈ lw_tbl := List.mem_append_right _ (List.mem_append_right _ (List.mem_append_left _ (List.mem_of_getElem? (i := 98) rfl)))
theorem kb_339 : Jvm.Cond.fieldLinkNest "JointSolids" (157 : Nat) "JointSolids$Joint" "lostB" "J" "JointSolids" ∈ lw_tbl := List.mem_append_right _ (List.mem_append_right _ (List.mem_append_left _ (List.mem_of_getElem? (i := 99) rfl)))
theorem kb_367 : Jvm.Cond.stringRef "JointSolids" (165 : Nat) "there is no such piece" ∈ lw_tbl := List.mem_append_right _ (List.mem_append_right _ (List.mem_append_left _ (List.mem_of_getElem? (i := 127) rfl)))
theorem kb_368 : Jvm.Cond.stringRef "JointSolids" (168 : Nat) "there is no such number of a piece" ∈ lw_tbl := List.mem_append_right _ (List.mem_append_right _ (List.mem_append_left _ (List.mem_of_getElem? (i := 128) rfl)))
theorem kb_403 : Jvm.Cond.methodLinkNest "JointSolids" (180 : Nat) ({ cls := "JointSolids$Solid", name := "holds", desc := "(III)Z" } : Jvm.MethodName) "JointSolids" ∈ lw_tbl := List.mem_append_right _ (List.mem_append_right _ (List.mem_append_left _ (List.mem_of_getElem? (i := 163) rfl)))
theorem kb_404 : Jvm.Cond.privateMethod ({ cls := "JointSolids$Solid", name := "holds", desc := "(III)Z" } : Jvm.MethodName) ∈ lw_tbl := List.mem_append_right _ (List.mem_append_right _ (List.mem_append_left _ (List.mem_of_getElem? (i := 164) rfl)))
theorem kb_414 : Jvm.Cond.stringRef "JointSolids" (183 : Nat) "a row is 0 .. 10000" ∈ lw_tbl := List.mem_append_right _ (List.mem_append_right _ (List.mem_append_left _ (List.mem_of_getElem? (i := 174) rfl)))
theorem kb_423 : Jvm.Cond.privateMethod ({ cls := "JointSolids", name := "jointOf", desc := "(I)LJointSolids$Joint;" } : Jvm.MethodName) ∈ lw_tbl := List.mem_append_right _ (List.mem_append_right _ (List.mem_append_left _ (List.mem_of_getElem? (i := 183) rfl)))
theorem kb_426 : Jvm.Cond.stringRef "JointSolids" (207 : Nat) "there is no such joint" ∈ lw_tbl := List.mem_append_right _ (List.mem_append_right _ (List.mem_append_left _ (List.mem_of_getElem? (i := 186) rfl)))
theorem kb_435 : Jvm.Cond.stringRef "JointSolids" (203 : Nat) "a joint has nothing such to tell" ∈ lw_tbl := List.mem_append_right _ (List.mem_append_right _ (List.mem_append_left _ (List.mem_of_getElem? (i := 195) rfl)))
theorem kb_513 : Jvm.Cond.privateMethod ({ cls := "JointSolidsModel", name := "tell", desc := "(IIIIII)V" } : Jvm.MethodName) ∈ lw_tbl := List.mem_append_right _ (List.mem_append_right _ (List.mem_append_right _ (List.mem_of_getElem? (i := 33) rfl)))
theorem kb_521 : Jvm.Cond.privateMethod ({ cls := "JointSolidsModel", name := "noPart", desc := "(I)Z" } : Jvm.MethodName) ∈ lw_tbl := List.mem_append_right _ (List.mem_append_right _ (List.mem_append_right _ (List.mem_of_getElem? (i := 41) rfl)))
theorem kb_525 : Jvm.Cond.privateMethod ({ cls := "JointSolidsModel", name := "load", desc := "(II)V" } : Jvm.MethodName) ∈ lw_tbl := List.mem_append_right _ (List.mem_append_right _ (List.mem_append_right _ (List.mem_of_getElem? (i := 45) rfl)))
theorem kb_529 : Jvm.Cond.privateMethod ({ cls := "JointSolidsModel", name := "pareAll", desc := "(I)I" } : Jvm.MethodName) ∈ lw_tbl := List.mem_append_right _ (List.mem_append_right _ (List.mem_append_right _ (List.mem_of_getElem? (i := 49) rfl)))
theorem kb_533 : Jvm.Cond.privateMethod ({ cls := "JointSolidsModel", name := "meets", desc := "(I)Z" } : Jvm.MethodName) ∈ lw_tbl := List.mem_append_right _ (List.mem_append_right _ (List.mem_append_right _ (List.mem_of_getElem? (i := 53) rfl)))
theorem kb_537 : Jvm.Cond.privateMethod ({ cls := "JointSolidsModel", name := "pare", desc := "(II)I" } : Jvm.MethodName) ∈ lw_tbl := List.mem_append_right _ (List.mem_append_right _ (List.mem_append_right _ (List.mem_of_getElem? (i := 57) rfl)))
theorem kb_547 : Jvm.Cond.privateMethod ({ cls := "JointSolidsModel", name := "store", desc := "(II)V" } : Jvm.MethodName) ∈ lw_tbl := List.mem_append_right _ (List.mem_append_right _ (List.mem_append_right _ (List.mem_of_getElem? (i := 67) rfl)))
theorem kb_559 : Jvm.Cond.privateMethod ({ cls := "JointSolidsModel", name := "hasCommon", desc := "(II)Z" } : Jvm.MethodName) ∈ lw_tbl := List.mem_append_right _ (List.mem_append_right _ (List.mem_append_right _ (List.mem_of_getElem? (i := 79) rfl)))
theorem kb_566 : Jvm.Cond.privateMethod ({ cls := "JointSolidsModel", name := "shape", desc := "(III)Z" } : Jvm.MethodName) ∈ lw_tbl := List.mem_append_right _ (List.mem_append_right _ (List.mem_append_right _ (List.mem_of_getElem? (i := 86) rfl)))
theorem kb_570 : Jvm.Cond.privateMethod ({ cls := "JointSolidsModel", name := "loses", desc := "(IIII)Z" } : Jvm.MethodName) ∈ lw_tbl := List.mem_append_right _ (List.mem_append_right _ (List.mem_append_right _ (List.mem_of_getElem? (i := 90) rfl)))
theorem kb_574 : Jvm.Cond.privateMethod ({ cls := "JointSolidsModel", name := "volumeOf", desc := "(I)J" } : Jvm.MethodName) ∈ lw_tbl := List.mem_append_right _ (List.mem_append_right _ (List.mem_append_right _ (List.mem_of_getElem? (i := 94) rfl)))
theorem kb_594 : Jvm.Cond.privateMethod ({ cls := "JointSolidsModel", name := "pair", desc := "(II)I" } : Jvm.MethodName) ∈ lw_tbl := List.mem_append_right _ (List.mem_append_right _ (List.mem_append_right _ (List.mem_of_getElem? (i := 114) rfl)))
theorem kb_598 : Jvm.Cond.privateMethod ({ cls := "JointSolidsModel", name := "overlapOf", desc := "(II)J" } : Jvm.MethodName) ∈ lw_tbl := List.mem_append_right _ (List.mem_append_right _ (List.mem_append_right _ (List.mem_of_getElem? (i := 118) rfl)))
theorem kb_602 : Jvm.Cond.privateMethod ({ cls := "JointSolidsModel", name := "span", desc := "(III)J" } : Jvm.MethodName) ∈ lw_tbl := List.mem_append_right _ (List.mem_append_right _ (List.mem_append_right _ (List.mem_of_getElem? (i := 122) rfl)))
theorem kb_610 : Jvm.Cond.privateMethod ({ cls := "JointSolidsModel", name := "touchOf", desc := "(II)J" } : Jvm.MethodName) ∈ lw_tbl := List.mem_append_right _ (List.mem_append_right _ (List.mem_append_right _ (List.mem_of_getElem? (i := 130) rfl)))
theorem kb_626 : Jvm.Cond.privateMethod ({ cls := "JointSolidsModel", name := "noJoint", desc := "(I)Z" } : Jvm.MethodName) ∈ lw_tbl := List.mem_append_right _ (List.mem_append_right _ (List.mem_append_right _ (List.mem_of_getElem? (i := 146) rfl)))
abbrev c_J_init : ByteArray := prog_1_method_1_code
abbrev y_J_init : MethodName := ⟨"JointSolids", "<init>", "()V"⟩
def w_J_init : List Cond := .code y_J_init c_J_init 1 none :: tB
theorem g_J_init : GoodIn tB w_J_init := gB kw_17
abbrev c_J_part : ByteArray := prog_1_method_2_code
abbrev y_J_part : MethodName := ⟨"JointSolids", "part", "(IIIIII)I"⟩
def w_J_part : List Cond := .code y_J_part c_J_part 8 (some .int) :: tB
theorem g_J_part : GoodIn tB w_J_part := gB kw_182
abbrev c_J_cut : ByteArray := prog_1_method_3_code
abbrev y_J_cut : MethodName := ⟨"JointSolids", "cut", "(IIIIIII)Z"⟩
def w_J_cut : List Cond := .code y_J_cut c_J_cut 11 (some .boolean) :: tB
theorem g_J_cut : GoodIn tB w_J_cut := gB kw_241
abbrev c_J_clear : ByteArray := prog_1_method_4_code
abbrev y_J_clear : MethodName := ⟨"JointSolids", "clear", "(I)V"⟩
def w_J_clear : List Cond := .code y_J_clear c_J_clear 2 none :: tB
theorem g_J_clear : GoodIn tB w_J_clear := gB kw_275
abbrev c_J_joint : ByteArray := prog_1_method_5_code
abbrev y_J_joint : MethodName := ⟨"JointSolids", "joint", "(IIIII)I"⟩
def w_J_joint : List Cond := .code y_J_joint c_J_joint 11 (some .int) :: tB
theorem g_J_joint : GoodIn tB w_J_joint := gB kw_283
abbrev c_J_pieces : ByteArray := prog_1_method_6_code
abbrev y_J_pieces : MethodName := ⟨"JointSolids", "pieces", "(I)I"⟩
def w_J_pieces : List Cond := .code y_J_pieces c_J_pieces 2 (some .int) :: tB
theorem g_J_pieces : GoodIn tB w_J_pieces := gB kw_359
abbrev c_J_corner : ByteArray := prog_1_method_7_code
abbrev y_J_corner : MethodName := ⟨"JointSolids", "corner", "(III)I"⟩
def w_J_corner : List Cond := .code y_J_corner c_J_corner 5 (some .int) :: tB
theorem g_J_corner : GoodIn tB w_J_corner := gB kw_366
abbrev c_J_volume : ByteArray := prog_1_method_8_code
abbrev y_J_volume : MethodName := ⟨"JointSolids", "volume", "(I)J"⟩
def w_J_volume : List Cond := .code y_J_volume c_J_volume 2 (some .long) :: tB
theorem g_J_volume : GoodIn tB w_J_volume := gB kw_375
abbrev c_J_overlap : ByteArray := prog_1_method_9_code
abbrev y_J_overlap : MethodName := ⟨"JointSolids", "overlap", "(II)J"⟩
def w_J_overlap : List Cond := .code y_J_overlap c_J_overlap 5 (some .long) :: tB
theorem g_J_overlap : GoodIn tB w_J_overlap := gB kw_382
abbrev c_J_touch : ByteArray := prog_1_method_10_code
abbrev y_J_touch : MethodName := ⟨"JointSolids", "touch", "(II)J"⟩
def w_J_touch : List Cond := .code y_J_touch c_J_touch 5 (some .long) :: tB
theorem g_J_touch : GoodIn tB w_J_touch := gB kw_389
abbrev c_J_has : ByteArray := prog_1_method_11_code
abbrev y_J_has : MethodName := ⟨"JointSolids", "has", "(IIII)Z"⟩
def w_J_has : List Cond := .code y_J_has c_J_has 5 (some .boolean) :: tB
theorem g_J_has : GoodIn tB w_J_has := gB kw_402
abbrev c_J_row : ByteArray := prog_1_method_12_code
abbrev y_J_row : MethodName := ⟨"JointSolids", "row", "(II)V"⟩
def w_J_row : List Cond := .code y_J_row c_J_row 3 none :: tB
theorem g_J_row : GoodIn tB w_J_row := gB kw_413
abbrev c_J_strength : ByteArray := prog_1_method_13_code
abbrev y_J_strength : MethodName := ⟨"JointSolids", "strength", "(I)J"⟩
def w_J_strength : List Cond := .code y_J_strength c_J_strength 3 (some .long) :: tB
theorem g_J_strength : GoodIn tB w_J_strength := gB kw_421
abbrev c_J_about : ByteArray := prog_1_method_14_code
abbrev y_J_about : MethodName := ⟨"JointSolids", "about", "(II)J"⟩
def w_J_about : List Cond := .code y_J_about c_J_about 4 (some .long) :: tB
theorem g_J_about : GoodIn tB w_J_about := gB kw_434
abbrev c_J_first : ByteArray := prog_1_method_15_code
abbrev y_J_first : MethodName := ⟨"JointSolids", "first", "()I"⟩
def w_J_first : List Cond := .code y_J_first c_J_first 3 (some .int) :: tB
theorem g_J_first : GoodIn tB w_J_first := gB kw_86
abbrev c_J_solidOf : ByteArray := prog_1_method_16_code
abbrev y_J_solidOf : MethodName := ⟨"JointSolids", "solidOf", "(I)LJointSolids$Solid;"⟩
def w_J_solidOf : List Cond := .code y_J_solidOf c_J_solidOf 2 (some (.object "JointSolids$Solid")) :: tB
theorem g_J_solidOf : GoodIn tB w_J_solidOf := gB kw_90
abbrev c_J_jointOf : ByteArray := prog_1_method_17_code
abbrev y_J_jointOf : MethodName := ⟨"JointSolids", "jointOf", "(I)LJointSolids$Joint;"⟩
def w_J_jointOf : List Cond := .code y_J_jointOf c_J_jointOf 2 (some (.object "JointSolids$Joint")) :: tB
theorem g_J_jointOf : GoodIn tB w_J_jointOf := gB kw_425
abbrev c_J_needKind : ByteArray := prog_1_method_18_code
abbrev y_J_needKind : MethodName := ⟨"JointSolids", "needKind", "(I)V"⟩
def w_J_needKind : List Cond := .code y_J_needKind c_J_needKind 1 none :: tB
theorem g_J_needKind : GoodIn tB w_J_needKind := gB kw_286
abbrev c_J_needAxis : ByteArray := prog_1_method_19_code
abbrev y_J_needAxis : MethodName := ⟨"JointSolids", "needAxis", "(I)V"⟩
def w_J_needAxis : List Cond := .code y_J_needAxis c_J_needAxis 1 none :: tB
theorem g_J_needAxis : GoodIn tB w_J_needAxis := gB kw_290
abbrev c_J_needWidth : ByteArray := prog_1_method_20_code
abbrev y_J_needWidth : MethodName := ⟨"JointSolids", "needWidth", "(I)V"⟩
def w_J_needWidth : List Cond := .code y_J_needWidth c_J_needWidth 1 none :: tB
theorem g_J_needWidth : GoodIn tB w_J_needWidth := gB kw_298
abbrev c_J_needTwo : ByteArray := prog_1_method_21_code
abbrev y_J_needTwo : MethodName := ⟨"JointSolids", "needTwo", "(II)V"⟩
def w_J_needTwo : List Cond := .code y_J_needTwo c_J_needTwo 2 none :: tB
theorem g_J_needTwo : GoodIn tB w_J_needTwo := gB kw_294
abbrev c_J_needPlaces : ByteArray := prog_1_method_22_code
abbrev y_J_needPlaces : MethodName := ⟨"JointSolids", "needPlaces", "(IIII)V"⟩
def w_J_needPlaces : List Cond := .code y_J_needPlaces c_J_needPlaces 4 none :: tB
theorem g_J_needPlaces : GoodIn tB w_J_needPlaces := gB kw_185
abbrev c_J_needSizes : ByteArray := prog_1_method_23_code
abbrev y_J_needSizes : MethodName := ⟨"JointSolids", "needSizes", "(IIII)V"⟩
def w_J_needSizes : List Cond := .code y_J_needSizes c_J_needSizes 4 none :: tB
theorem g_J_needSizes : GoodIn tB w_J_needSizes := gB kw_204
abbrev c_J_setTool : ByteArray := prog_1_method_24_code
abbrev y_J_setTool : MethodName := ⟨"JointSolids", "setTool", "(IIIIII)V"⟩
def w_J_setTool : List Cond := .code y_J_setTool c_J_setTool 7 none :: tB
theorem g_J_setTool : GoodIn tB w_J_setTool := gB kw_225
abbrev c_J_carve : ByteArray := prog_1_method_25_code
abbrev y_J_carve : MethodName := ⟨"JointSolids", "carve", "(LJointSolids$Solid;)Z"⟩
def w_J_carve : List Cond := .code y_J_carve c_J_carve 3 (some .boolean) :: tB
theorem g_J_carve : GoodIn tB w_J_carve := gB kw_250
abbrev c_J_addRest : ByteArray := prog_1_method_26_code
abbrev y_J_addRest : MethodName := ⟨"JointSolids", "addRest", "(LJointSolids$Solid;I)V"⟩
def w_J_addRest : List Cond := .code y_J_addRest c_J_addRest 8 none :: tB
theorem g_J_addRest : GoodIn tB w_J_addRest := gB kw_258
abbrev c_J_addSlab : ByteArray := prog_1_method_27_code
abbrev y_J_addSlab : MethodName := ⟨"JointSolids", "addSlab", "(III)V"⟩
def w_J_addSlab : List Cond := .code y_J_addSlab c_J_addSlab 4 none :: tB
theorem g_J_addSlab : GoodIn tB w_J_addSlab := gB kw_262
abbrev c_J_findCommon : ByteArray := prog_1_method_28_code
abbrev y_J_findCommon : MethodName := ⟨"JointSolids", "findCommon", "(II)Z"⟩
def w_J_findCommon : List Cond := .code y_J_findCommon c_J_findCommon 7 (some .boolean) :: tB
theorem g_J_findCommon : GoodIn tB w_J_findCommon := gB kw_304
abbrev c_J_slicesOf : ByteArray := prog_1_method_29_code
abbrev y_J_slicesOf : MethodName := ⟨"JointSolids", "slicesOf", "(II)I"⟩
def w_J_slicesOf : List Cond := .code y_J_slicesOf c_J_slicesOf 2 (some .int) :: tB
theorem g_J_slicesOf : GoodIn tB w_J_slicesOf := gB kw_308
abbrev c_J_leastSize : ByteArray := prog_1_method_30_code
abbrev y_J_leastSize : MethodName := ⟨"JointSolids", "leastSize", "(II)I"⟩
def w_J_leastSize : List Cond := .code y_J_leastSize c_J_leastSize 2 (some .int) :: tB
theorem g_J_leastSize : GoodIn tB w_J_leastSize := gB kw_312
abbrev c_J_markSpans : ByteArray := prog_1_method_31_code
abbrev y_J_markSpans : MethodName := ⟨"JointSolids", "markSpans", "(III)I"⟩
def w_J_markSpans : List Cond := .code y_J_markSpans c_J_markSpans 6 (some .int) :: tB
theorem g_J_markSpans : GoodIn tB w_J_markSpans := gB kw_316
abbrev c_J_carveSpans : ByteArray := prog_1_method_32_code
abbrev y_J_carveSpans : MethodName := ⟨"JointSolids", "carveSpans", "(III)Z"⟩
def w_J_carveSpans : List Cond := .code y_J_carveSpans c_J_carveSpans 6 (some .boolean) :: tB
theorem g_J_carveSpans : GoodIn tB w_J_carveSpans := gB kw_320
abbrev c_J_setSpan : ByteArray := prog_1_method_33_code
abbrev y_J_setSpan : MethodName := ⟨"JointSolids", "setSpan", "(IIII)V"⟩
def w_J_setSpan : List Cond := .code y_J_setSpan c_J_setSpan 7 none :: tB
theorem g_J_setSpan : GoodIn tB w_J_setSpan := gB kw_324
abbrev c_J_volumeOfBoth : ByteArray := prog_1_method_34_code
abbrev y_J_volumeOfBoth : MethodName := ⟨"JointSolids", "volumeOfBoth", "(LJointSolids$Solid;LJointSolids$Solid;)J"⟩
def w_J_volumeOfBoth : List Cond := .code y_J_volumeOfBoth c_J_volumeOfBoth 6 (some .long) :: tB
theorem g_J_volumeOfBoth : GoodIn tB w_J_volumeOfBoth := gB kw_161
abbrev c_J_areaOfBoth : ByteArray := prog_1_method_35_code
abbrev y_J_areaOfBoth : MethodName := ⟨"JointSolids", "areaOfBoth", "(LJointSolids$Solid;LJointSolids$Solid;)J"⟩
def w_J_areaOfBoth : List Cond := .code y_J_areaOfBoth c_J_areaOfBoth 6 (some .long) :: tB
theorem g_J_areaOfBoth : GoodIn tB w_J_areaOfBoth := gB kw_392
abbrev c_J_lengthShared : ByteArray := prog_1_method_36_code
abbrev y_J_lengthShared : MethodName := ⟨"JointSolids", "lengthShared", "([II[III)I"⟩
def w_J_lengthShared : List Cond := .code y_J_lengthShared c_J_lengthShared 7 (some .int) :: tB
theorem g_J_lengthShared : GoodIn tB w_J_lengthShared := gB kw_167
abbrev c_J_volumeShared : ByteArray := prog_1_method_37_code
abbrev y_J_volumeShared : MethodName := ⟨"JointSolids", "volumeShared", "([II[II)J"⟩
def w_J_volumeShared : List Cond := .code y_J_volumeShared c_J_volumeShared 7 (some .long) :: tB
theorem g_J_volumeShared : GoodIn tB w_J_volumeShared := gB kw_164
abbrev c_J_areaShared : ByteArray := prog_1_method_38_code
abbrev y_J_areaShared : MethodName := ⟨"JointSolids", "areaShared", "([II[II)J"⟩
def w_J_areaShared : List Cond := .code y_J_areaShared c_J_areaShared 9 (some .long) :: tB
theorem g_J_areaShared : GoodIn tB w_J_areaShared := gB kw_395
abbrev c_M_init : ByteArray := prog_5_method_1_code
abbrev y_M_init : MethodName := ⟨"JointSolidsModel", "<init>", "()V"⟩
def w_M_init : List Cond := .code y_M_init c_M_init 1 none :: tB
theorem g_M_init : GoodIn tB w_M_init := gB kw_440
abbrev c_M_thrown : ByteArray := prog_5_method_2_code
abbrev y_M_thrown : MethodName := ⟨"JointSolidsModel", "thrown", "()I"⟩
def w_M_thrown : List Cond := .code y_M_thrown c_M_thrown 1 (some .int) :: tB
theorem g_M_thrown : GoodIn tB w_M_thrown := gB kw_504
abbrev c_M_isIn : ByteArray := prog_5_method_3_code
abbrev y_M_isIn : MethodName := ⟨"JointSolidsModel", "isIn", "(III)Z"⟩
def w_M_isIn : List Cond := .code y_M_isIn c_M_isIn 3 (some .boolean) :: tB
theorem g_M_isIn : GoodIn tB w_M_isIn := gB kw_511
abbrev c_M_noPart : ByteArray := prog_5_method_4_code
abbrev y_M_noPart : MethodName := ⟨"JointSolidsModel", "noPart", "(I)Z"⟩
def w_M_noPart : List Cond := .code y_M_noPart c_M_noPart 2 (some .boolean) :: tB
theorem g_M_noPart : GoodIn tB w_M_noPart := gB kw_523
abbrev c_M_more : ByteArray := prog_5_method_5_code
abbrev y_M_more : MethodName := ⟨"JointSolidsModel", "more", "(II)I"⟩
def w_M_more : List Cond := .code y_M_more c_M_more 2 (some .int) :: tB
theorem g_M_more : GoodIn tB w_M_more := gB kw_542
abbrev c_M_less : ByteArray := prog_5_method_6_code
abbrev y_M_less : MethodName := ⟨"JointSolidsModel", "less", "(II)I"⟩
def w_M_less : List Cond := .code y_M_less c_M_less 2 (some .int) :: tB
theorem g_M_less : GoodIn tB w_M_less := gB kw_545
abbrev c_M_part : ByteArray := prog_5_method_7_code
abbrev y_M_part : MethodName := ⟨"JointSolidsModel", "part", "(IIIIII)I"⟩
def w_M_part : List Cond := .code y_M_part c_M_part 9 (some .int) :: tB
theorem g_M_part : GoodIn tB w_M_part := gB kw_508
abbrev c_M_tell : ByteArray := prog_5_method_8_code
abbrev y_M_tell : MethodName := ⟨"JointSolidsModel", "tell", "(IIIIII)V"⟩
def w_M_tell : List Cond := .code y_M_tell c_M_tell 7 none :: tB
theorem g_M_tell : GoodIn tB w_M_tell := gB kw_515
abbrev c_M_load : ByteArray := prog_5_method_9_code
abbrev y_M_load : MethodName := ⟨"JointSolidsModel", "load", "(II)V"⟩
def w_M_load : List Cond := .code y_M_load c_M_load 4 none :: tB
theorem g_M_load : GoodIn tB w_M_load := gB kw_527
abbrev c_M_store : ByteArray := prog_5_method_10_code
abbrev y_M_store : MethodName := ⟨"JointSolidsModel", "store", "(II)V"⟩
def w_M_store : List Cond := .code y_M_store c_M_store 4 none :: tB
theorem g_M_store : GoodIn tB w_M_store := gB kw_549
abbrev c_M_meets : ByteArray := prog_5_method_11_code
abbrev y_M_meets : MethodName := ⟨"JointSolidsModel", "meets", "(I)Z"⟩
def w_M_meets : List Cond := .code y_M_meets c_M_meets 4 (some .boolean) :: tB
theorem g_M_meets : GoodIn tB w_M_meets := gB kw_535
abbrev c_M_pareAll : ByteArray := prog_5_method_12_code
abbrev y_M_pareAll : MethodName := ⟨"JointSolidsModel", "pareAll", "(I)I"⟩
def w_M_pareAll : List Cond := .code y_M_pareAll c_M_pareAll 7 (some .int) :: tB
theorem g_M_pareAll : GoodIn tB w_M_pareAll := gB kw_531
abbrev c_M_pare : ByteArray := prog_5_method_13_code
abbrev y_M_pare : MethodName := ⟨"JointSolidsModel", "pare", "(II)I"⟩
def w_M_pare : List Cond := .code y_M_pare c_M_pare 10 (some .int) :: tB
theorem g_M_pare : GoodIn tB w_M_pare := gB kw_539
abbrev c_M_cut : ByteArray := prog_5_method_14_code
abbrev y_M_cut : MethodName := ⟨"JointSolidsModel", "cut", "(IIIIIII)Z"⟩
def w_M_cut : List Cond := .code y_M_cut c_M_cut 10 (some .boolean) :: tB
theorem g_M_cut : GoodIn tB w_M_cut := gB kw_519
abbrev c_M_clear : ByteArray := prog_5_method_15_code
abbrev y_M_clear : MethodName := ⟨"JointSolidsModel", "clear", "(I)V"⟩
def w_M_clear : List Cond := .code y_M_clear c_M_clear 2 none :: tB
theorem g_M_clear : GoodIn tB w_M_clear := gB kw_553
abbrev c_M_hasCommon : ByteArray := prog_5_method_16_code
abbrev y_M_hasCommon : MethodName := ⟨"JointSolidsModel", "hasCommon", "(II)Z"⟩
def w_M_hasCommon : List Cond := .code y_M_hasCommon c_M_hasCommon 5 (some .boolean) :: tB
theorem g_M_hasCommon : GoodIn tB w_M_hasCommon := gB kw_561
abbrev c_M_loses : ByteArray := prog_5_method_17_code
abbrev y_M_loses : MethodName := ⟨"JointSolidsModel", "loses", "(IIII)Z"⟩
def w_M_loses : List Cond := .code y_M_loses c_M_loses 7 (some .boolean) :: tB
theorem g_M_loses : GoodIn tB w_M_loses := gB kw_572
abbrev c_M_needs : ByteArray := prog_5_method_18_code
abbrev y_M_needs : MethodName := ⟨"JointSolidsModel", "needs", "(II)I"⟩
def w_M_needs : List Cond := .code y_M_needs c_M_needs 2 (some .int) :: tB
theorem g_M_needs : GoodIn tB w_M_needs := gB kw_564
abbrev c_M_shape : ByteArray := prog_5_method_19_code
abbrev y_M_shape : MethodName := ⟨"JointSolidsModel", "shape", "(III)Z"⟩
def w_M_shape : List Cond := .code y_M_shape c_M_shape 9 (some .boolean) :: tB
theorem g_M_shape : GoodIn tB w_M_shape := gB kw_568
abbrev c_M_joint : ByteArray := prog_5_method_20_code
abbrev y_M_joint : MethodName := ⟨"JointSolidsModel", "joint", "(IIIII)I"⟩
def w_M_joint : List Cond := .code y_M_joint c_M_joint 13 (some .int) :: tB
theorem g_M_joint : GoodIn tB w_M_joint := gB kw_557
abbrev c_M_pieces : ByteArray := prog_5_method_21_code
abbrev y_M_pieces : MethodName := ⟨"JointSolidsModel", "pieces", "(I)I"⟩
def w_M_pieces : List Cond := .code y_M_pieces c_M_pieces 2 (some .int) :: tB
theorem g_M_pieces : GoodIn tB w_M_pieces := gB kw_580
abbrev c_M_corner : ByteArray := prog_5_method_22_code
abbrev y_M_corner : MethodName := ⟨"JointSolidsModel", "corner", "(III)I"⟩
def w_M_corner : List Cond := .code y_M_corner c_M_corner 4 (some .int) :: tB
theorem g_M_corner : GoodIn tB w_M_corner := gB kw_584
abbrev c_M_volumeOf : ByteArray := prog_5_method_23_code
abbrev y_M_volumeOf : MethodName := ⟨"JointSolidsModel", "volumeOf", "(I)J"⟩
def w_M_volumeOf : List Cond := .code y_M_volumeOf c_M_volumeOf 6 (some .long) :: tB
theorem g_M_volumeOf : GoodIn tB w_M_volumeOf := gB kw_576
abbrev c_M_volume : ByteArray := prog_5_method_24_code
abbrev y_M_volume : MethodName := ⟨"JointSolidsModel", "volume", "(I)J"⟩
def w_M_volume : List Cond := .code y_M_volume c_M_volume 2 (some .long) :: tB
theorem g_M_volume : GoodIn tB w_M_volume := gB kw_588
abbrev c_M_span : ByteArray := prog_5_method_25_code
abbrev y_M_span : MethodName := ⟨"JointSolidsModel", "span", "(III)J"⟩
def w_M_span : List Cond := .code y_M_span c_M_span 5 (some .long) :: tB
theorem g_M_span : GoodIn tB w_M_span := gB kw_604
abbrev c_M_overlapOf : ByteArray := prog_5_method_26_code
abbrev y_M_overlapOf : MethodName := ⟨"JointSolidsModel", "overlapOf", "(II)J"⟩
def w_M_overlapOf : List Cond := .code y_M_overlapOf c_M_overlapOf 9 (some .long) :: tB
theorem g_M_overlapOf : GoodIn tB w_M_overlapOf := gB kw_600
abbrev c_M_touchOf : ByteArray := prog_5_method_27_code
abbrev y_M_touchOf : MethodName := ⟨"JointSolidsModel", "touchOf", "(II)J"⟩
def w_M_touchOf : List Cond := .code y_M_touchOf c_M_touchOf 12 (some .long) :: tB
theorem g_M_touchOf : GoodIn tB w_M_touchOf := gB kw_612
abbrev c_M_pair : ByteArray := prog_5_method_28_code
abbrev y_M_pair : MethodName := ⟨"JointSolidsModel", "pair", "(II)I"⟩
def w_M_pair : List Cond := .code y_M_pair c_M_pair 3 (some .int) :: tB
theorem g_M_pair : GoodIn tB w_M_pair := gB kw_596
abbrev c_M_overlap : ByteArray := prog_5_method_29_code
abbrev y_M_overlap : MethodName := ⟨"JointSolidsModel", "overlap", "(II)J"⟩
def w_M_overlap : List Cond := .code y_M_overlap c_M_overlap 3 (some .long) :: tB
theorem g_M_overlap : GoodIn tB w_M_overlap := gB kw_592
abbrev c_M_touch : ByteArray := prog_5_method_30_code
abbrev y_M_touch : MethodName := ⟨"JointSolidsModel", "touch", "(II)J"⟩
def w_M_touch : List Cond := .code y_M_touch c_M_touch 3 (some .long) :: tB
theorem g_M_touch : GoodIn tB w_M_touch := gB kw_608
abbrev c_M_has : ByteArray := prog_5_method_31_code
abbrev y_M_has : MethodName := ⟨"JointSolidsModel", "has", "(IIII)Z"⟩
def w_M_has : List Cond := .code y_M_has c_M_has 8 (some .boolean) :: tB
theorem g_M_has : GoodIn tB w_M_has := gB kw_616
abbrev c_M_row : ByteArray := prog_5_method_32_code
abbrev y_M_row : MethodName := ⟨"JointSolidsModel", "row", "(II)V"⟩
def w_M_row : List Cond := .code y_M_row c_M_row 3 none :: tB
theorem g_M_row : GoodIn tB w_M_row := gB kw_620
abbrev c_M_noJoint : ByteArray := prog_5_method_33_code
abbrev y_M_noJoint : MethodName := ⟨"JointSolidsModel", "noJoint", "(I)Z"⟩
def w_M_noJoint : List Cond := .code y_M_noJoint c_M_noJoint 2 (some .boolean) :: tB
theorem g_M_noJoint : GoodIn tB w_M_noJoint := gB kw_628
abbrev c_M_strength : ByteArray := prog_5_method_34_code
abbrev y_M_strength : MethodName := ⟨"JointSolidsModel", "strength", "(I)J"⟩
def w_M_strength : List Cond := .code y_M_strength c_M_strength 2 (some .long) :: tB
theorem g_M_strength : GoodIn tB w_M_strength := gB kw_624
abbrev c_M_about : ByteArray := prog_5_method_35_code
abbrev y_M_about : MethodName := ⟨"JointSolidsModel", "about", "(II)J"⟩
def w_M_about : List Cond := .code y_M_about c_M_about 3 (some .long) :: tB
theorem g_M_about : GoodIn tB w_M_about := gB kw_633
abbrev c_M_first : ByteArray := prog_5_method_36_code
abbrev y_M_first : MethodName := ⟨"JointSolidsModel", "first", "()I"⟩
def w_M_first : List Cond := .code y_M_first c_M_first 3 (some .int) :: tB
theorem g_M_first : GoodIn tB w_M_first := gB kw_637
abbrev c_K_init : ByteArray := prog_2_method_1_code
abbrev y_K_init : MethodName := ⟨"JointSolids$Joint", "<init>", "(IIII)V"⟩
def w_K_init : List Cond := .code y_K_init c_K_init 5 none :: tB
theorem g_K_init : GoodIn tB w_K_init := gB kw_328
abbrev c_S_init : ByteArray := prog_3_method_1_code
abbrev y_S_init : MethodName := ⟨"JointSolids$Solid", "<init>", "()V"⟩
def w_S_init : List Cond := .code y_S_init c_S_init 1 none :: tB
theorem g_S_init : GoodIn tB w_S_init := gB kw_28
abbrev c_S_empty : ByteArray := prog_3_method_2_code
abbrev y_S_empty : MethodName := ⟨"JointSolids$Solid", "empty", "()V"⟩
def w_S_empty : List Cond := .code y_S_empty c_S_empty 1 none :: tB
theorem g_S_empty : GoodIn tB w_S_empty := gB kw_254
abbrev c_S_add : ByteArray := prog_3_method_3_code
abbrev y_S_add : MethodName := ⟨"JointSolids$Solid", "add", "([II)V"⟩
def w_S_add : List Cond := .code y_S_add c_S_add 3 none :: tB
theorem g_S_add : GoodIn tB w_S_add := gB kw_232
abbrev c_S_copy : ByteArray := prog_3_method_4_code
abbrev y_S_copy : MethodName := ⟨"JointSolids$Solid", "copy", "(LJointSolids$Solid;)V"⟩
def w_S_copy : List Cond := .code y_S_copy c_S_copy 2 none :: tB
theorem g_S_copy : GoodIn tB w_S_copy := gB kw_266
abbrev c_S_total : ByteArray := prog_3_method_5_code
abbrev y_S_total : MethodName := ⟨"JointSolids$Solid", "total", "()J"⟩
def w_S_total : List Cond := .code y_S_total c_S_total 5 (some .long) :: tB
theorem g_S_total : GoodIn tB w_S_total := gB kw_245
abbrev c_S_holds : ByteArray := prog_3_method_6_code
abbrev y_S_holds : MethodName := ⟨"JointSolids$Solid", "holds", "(III)Z"⟩
def w_S_holds : List Cond := .code y_S_holds c_S_holds 6 (some .boolean) :: tB
theorem g_S_holds : GoodIn tB w_S_holds := gB kw_406
abbrev c_L_part : ByteArray := method_3_code
abbrev y_L_part : MethodName := ⟨"JointSolidsLaw", "part", "(LJointSolids;IIIIII[J)I"⟩
def w_L_part : List Cond := .codeWith y_L_part c_L_part 9 (some .int) [(0, 18, 21, 13), (0, 18, 25, 15)] :: tB
theorem g_L_part : GoodIn tB w_L_part := gB kw_176
abbrev c_L_cut : ByteArray := method_4_code
abbrev y_L_cut : MethodName := ⟨"JointSolidsLaw", "cut", "(LJointSolids;IIIIIII[J)I"⟩
def w_L_cut : List Cond := .codeWith y_L_cut c_L_cut 10 (some .int) [(0, 27, 30, 21), (0, 27, 34, 13), (0, 27, 38, 15)] :: tB
theorem g_L_cut : GoodIn tB w_L_cut := gB kw_236
abbrev c_L_clear : ByteArray := method_5_code
abbrev y_L_clear : MethodName := ⟨"JointSolidsLaw", "clear", "(LJointSolids;I)I"⟩
def w_L_clear : List Cond := .codeWith y_L_clear c_L_clear 3 (some .int) [(0, 5, 8, 13)] :: tB
theorem g_L_clear : GoodIn tB w_L_clear := gB kw_271
abbrev c_L_joint : ByteArray := method_6_code
abbrev y_L_joint : MethodName := ⟨"JointSolidsLaw", "joint", "(LJointSolids;IIIII[J)I"⟩
def w_L_joint : List Cond := .codeWith y_L_joint c_L_joint 8 (some .int) [(0, 16, 19, 21), (0, 16, 23, 13), (0, 16, 27, 15)] :: tB
theorem g_L_joint : GoodIn tB w_L_joint := gB kw_279
abbrev c_L_pieces : ByteArray := method_7_code
abbrev y_L_pieces : MethodName := ⟨"JointSolidsLaw", "pieces", "(LJointSolids;I[J)I"⟩
def w_L_pieces : List Cond := .codeWith y_L_pieces c_L_pieces 4 (some .int) [(0, 9, 12, 21)] :: tB
theorem g_L_pieces : GoodIn tB w_L_pieces := gB kw_355
abbrev c_L_corner : ByteArray := method_8_code
abbrev y_L_corner : MethodName := ⟨"JointSolidsLaw", "corner", "(LJointSolids;III[J)I"⟩
def w_L_corner : List Cond := .codeWith y_L_corner c_L_corner 6 (some .int) [(0, 12, 15, 21)] :: tB
theorem g_L_corner : GoodIn tB w_L_corner := gB kw_362
abbrev c_L_volume : ByteArray := method_9_code
abbrev y_L_volume : MethodName := ⟨"JointSolidsLaw", "volume", "(LJointSolids;I[J)I"⟩
def w_L_volume : List Cond := .codeWith y_L_volume c_L_volume 4 (some .int) [(0, 8, 11, 21)] :: tB
theorem g_L_volume : GoodIn tB w_L_volume := gB kw_371
abbrev c_L_overlap : ByteArray := method_10_code
abbrev y_L_overlap : MethodName := ⟨"JointSolidsLaw", "overlap", "(LJointSolids;II[J)I"⟩
def w_L_overlap : List Cond := .codeWith y_L_overlap c_L_overlap 5 (some .int) [(0, 9, 12, 21), (0, 9, 16, 13)] :: tB
theorem g_L_overlap : GoodIn tB w_L_overlap := gB kw_378
abbrev c_L_touch : ByteArray := method_11_code
abbrev y_L_touch : MethodName := ⟨"JointSolidsLaw", "touch", "(LJointSolids;II[J)I"⟩
def w_L_touch : List Cond := .codeWith y_L_touch c_L_touch 5 (some .int) [(0, 9, 12, 21), (0, 9, 16, 13)] :: tB
theorem g_L_touch : GoodIn tB w_L_touch := gB kw_385
abbrev c_L_has : ByteArray := method_12_code
abbrev y_L_has : MethodName := ⟨"JointSolidsLaw", "has", "(LJointSolids;IIII[J)I"⟩
def w_L_has : List Cond := .codeWith y_L_has c_L_has 7 (some .int) [(0, 21, 24, 21)] :: tB
theorem g_L_has : GoodIn tB w_L_has := gB kw_398
abbrev c_L_row : ByteArray := method_13_code
abbrev y_L_row : MethodName := ⟨"JointSolidsLaw", "row", "(LJointSolids;II)I"⟩
def w_L_row : List Cond := .codeWith y_L_row c_L_row 4 (some .int) [(0, 6, 9, 21), (0, 6, 12, 13)] :: tB
theorem g_L_row : GoodIn tB w_L_row := gB kw_409
abbrev c_L_strength : ByteArray := method_14_code
abbrev y_L_strength : MethodName := ⟨"JointSolidsLaw", "strength", "(LJointSolids;I[J)I"⟩
def w_L_strength : List Cond := .codeWith y_L_strength c_L_strength 4 (some .int) [(0, 8, 11, 21)] :: tB
theorem g_L_strength : GoodIn tB w_L_strength := gB kw_417
abbrev c_L_about : ByteArray := method_15_code
abbrev y_L_about : MethodName := ⟨"JointSolidsLaw", "about", "(LJointSolids;II[J)I"⟩
def w_L_about : List Cond := .codeWith y_L_about c_L_about 5 (some .int) [(0, 9, 12, 21)] :: tB
theorem g_L_about : GoodIn tB w_L_about := gB kw_430
abbrev c_L_law : ByteArray := code
theorem n_J : ∀ a, a < 14 → ∀ b, b < 14 → a ≠ b → (F_J a).2.1 ≠ (F_J b).2.1 := by decide +kernel
theorem t_J_ok : ∀ k, k < 14 → parseFieldDescriptor (F_J k).2.2.1 = some (t_J k) := by decide +kernel
theorem in_J : ∀ w ∈ u_ws R_J F_J 14, w ∈ tB := List.forall_mem_cons.mpr ⟨kw_54, List.forall_mem_cons.mpr ⟨kw_56, List.forall_mem_cons.mpr ⟨kw_58, List.forall_mem_cons.mpr ⟨kw_60, List.forall_mem_cons.mpr ⟨kw_62, List.forall_mem_cons.mpr ⟨kw_64, List.forall_mem_cons.mpr ⟨kw_66, List.forall_mem_cons.mpr ⟨kw_68, List.forall_mem_cons.mpr ⟨kw_70, List.forall_mem_cons.mpr ⟨kw_72, List.forall_mem_cons.mpr ⟨kw_74, List.forall_mem_cons.mpr ⟨kw_76, List.forall_mem_cons.mpr ⟨kw_78, List.forall_mem_cons.mpr ⟨kw_80, List.forall_mem_nil _⟩⟩⟩⟩⟩⟩⟩⟩⟩⟩⟩⟩⟩⟩
theorem n_S : ∀ a, a < 2 → ∀ b, b < 2 → a ≠ b → (F_S a).2.1 ≠ (F_S b).2.1 := by decide +kernel
theorem t_S_ok : ∀ k, k < 2 → parseFieldDescriptor (F_S k).2.2.1 = some (t_S k) := by decide +kernel
theorem in_S : ∀ w ∈ u_ws R_S F_S 2, w ∈ tB := List.forall_mem_cons.mpr ⟨kw_34, List.forall_mem_cons.mpr ⟨kw_36, List.forall_mem_nil _⟩⟩
theorem n_K : ∀ a, a < 6 → ∀ b, b < 6 → a ≠ b → (F_K a).2.1 ≠ (F_K b).2.1 := by decide +kernel
theorem t_K_ok : ∀ k, k < 6 → parseFieldDescriptor (F_K k).2.2.1 = some (t_K k) := by decide +kernel
theorem in_K : ∀ w ∈ u_ws R_K F_K 6, w ∈ tB := List.forall_mem_cons.mpr ⟨kw_340, List.forall_mem_cons.mpr ⟨kw_342, List.forall_mem_cons.mpr ⟨kw_344, List.forall_mem_cons.mpr ⟨kw_346, List.forall_mem_cons.mpr ⟨kw_348, List.forall_mem_cons.mpr ⟨kw_350, List.forall_mem_nil _⟩⟩⟩⟩⟩⟩
theorem n_M : ∀ a, a < 19 → ∀ b, b < 19 → a ≠ b → (F_M a).2.1 ≠ (F_M b).2.1 := by decide +kernel
theorem t_M_ok : ∀ k, k < 19 → parseFieldDescriptor (F_M k).2.2.1 = some (t_M k) := by decide +kernel
theorem in_M : ∀ w ∈ u_ws R_M F_M 19, w ∈ tB := List.forall_mem_cons.mpr ⟨kw_461, List.forall_mem_cons.mpr ⟨kw_463, List.forall_mem_cons.mpr ⟨kw_465, List.forall_mem_cons.mpr ⟨kw_467, List.forall_mem_cons.mpr ⟨kw_469, List.forall_mem_cons.mpr ⟨kw_471, List.forall_mem_cons.mpr ⟨kw_473, List.forall_mem_cons.mpr ⟨kw_475, List.forall_mem_cons.mpr ⟨kw_477, List.forall_mem_cons.mpr ⟨kw_479, List.forall_mem_cons.mpr ⟨kw_481, List.forall_mem_cons.mpr ⟨kw_483, List.forall_mem_cons.mpr ⟨kw_485, List.forall_mem_cons.mpr ⟨kw_487, List.forall_mem_cons.mpr ⟨kw_489, List.forall_mem_cons.mpr ⟨kw_491, List.forall_mem_cons.mpr ⟨kw_493, List.forall_mem_cons.mpr ⟨kw_495, List.forall_mem_cons.mpr ⟨kw_497, List.forall_mem_nil _⟩⟩⟩⟩⟩⟩⟩⟩⟩⟩⟩⟩⟩⟩⟩⟩⟩⟩⟩
