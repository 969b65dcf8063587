/-! Names: classes, their fields, methods, words, decode rows: by names.py out of the Statement. -/
abbrev RR : String := "UndoMemory$Replay"
def TR : u_T := fun k => match k with
  | 0 => ("UndoMemory$Replay", "cells", "[I", true)
  | 1 => ("UndoMemory$Replay", "counters", "[J", true)
  | 2 => ("UndoMemory$Replay", "rows", "[[I", true)
  | 3 => ("UndoMemory$Replay", "lengths", "[I", true)
  | 4 => ("UndoMemory$Replay", "elements", "[I", true)
  | 5 => ("UndoMemory$Replay", "elementCount", "I", false)
  | 6 => ("UndoMemory$Replay", "nodes", "[I", true)
  | 7 => ("UndoMemory$Replay", "parents", "[I", true)
  | _ => ("UndoMemory$Replay", "nodeCount", "I", false)
def tyR : Nat → FieldType := fun k => match k with
  | 0 => .array .int
  | 1 => .array .long
  | 2 => .array (.array .int)
  | 3 => .array .int
  | 4 => .array .int
  | 5 => .int
  | 6 => .array .int
  | 7 => .array .int
  | _ => .int
theorem nmR : ∀ a, a < 9 → ∀ b, b < 9 → a ≠ b → (TR a).2.1 ≠ (TR b).2.1 := by decide +kernel
theorem okR : ∀ k, k < 9 → parseFieldDescriptor (TR k).2.2.1 = some (tyR k) := by decide +kernel
abbrev RS : String := "UndoMemory$Step"
def TS : u_T := fun k => match k with
  | 0 => ("UndoMemory$Step", "number", "I", true)
  | 1 => ("UndoMemory$Step", "kind", "I", true)
  | 2 => ("UndoMemory$Step", "target", "I", true)
  | 3 => ("UndoMemory$Step", "named", "I", true)
  | 4 => ("UndoMemory$Step", "amount", "J", true)
  | 5 => ("UndoMemory$Step", "place", "[I", true)
  | _ => ("UndoMemory$Step", "active", "Z", false)
def tyS : Nat → FieldType := fun k => match k with
  | 0 => .int
  | 1 => .int
  | 2 => .int
  | 3 => .int
  | 4 => .long
  | 5 => .array .int
  | _ => .boolean
theorem nmS : ∀ a, a < 7 → ∀ b, b < 7 → a ≠ b → (TS a).2.1 ≠ (TS b).2.1 := by decide +kernel
theorem okS : ∀ k, k < 7 → parseFieldDescriptor (TS k).2.2.1 = some (tyS k) := by decide +kernel
abbrev RU : String := "UndoMemory"
def TU : u_T := fun k => match k with
  | 0 => ("UndoMemory", "steps", "[LUndoMemory$Step;", true)
  | 1 => ("UndoMemory", "size", "I", false)
  | 2 => ("UndoMemory", "latestNumber", "I", false)
  | 3 => ("UndoMemory", "memory", "LUndoMemory$Replay;", false)
  | 4 => ("UndoMemory", "trial", "LUndoMemory$Replay;", false)
  | 5 => ("UndoMemory", "impossible", "[I", true)
  | 6 => ("UndoMemory", "impossibleCount", "I", false)
  | 7 => ("UndoMemory", "takenAlong", "[I", true)
  | _ => ("UndoMemory", "takenCount", "I", false)
def tyU : Nat → FieldType := fun k => match k with
  | 0 => .array (.object "UndoMemory$Step")
  | 1 => .int
  | 2 => .int
  | 3 => .object "UndoMemory$Replay"
  | 4 => .object "UndoMemory$Replay"
  | 5 => .array .int
  | 6 => .int
  | 7 => .array .int
  | _ => .int
theorem nmU : ∀ a, a < 9 → ∀ b, b < 9 → a ≠ b → (TU a).2.1 ≠ (TU b).2.1 := by decide +kernel
theorem okU : ∀ k, k < 9 → parseFieldDescriptor (TU k).2.2.1 = some (tyU k) := by decide +kernel
abbrev RM : String := "UndoMemoryModel"
def TM : u_T := fun k => match k with
  | 0 => ("UndoMemoryModel", "size", "I", false)
  | 1 => ("UndoMemoryModel", "latest", "I", false)
  | 2 => ("UndoMemoryModel", "numbers", "[I", true)
  | 3 => ("UndoMemoryModel", "kinds", "[I", true)
  | 4 => ("UndoMemoryModel", "things", "[I", true)
  | 5 => ("UndoMemoryModel", "others", "[I", true)
  | 6 => ("UndoMemoryModel", "values", "[J", true)
  | 7 => ("UndoMemoryModel", "active", "[Z", true)
  | 8 => ("UndoMemoryModel", "places", "[I", true)
  | 9 => ("UndoMemoryModel", "placeSizes", "[I", true)
  | 10 => ("UndoMemoryModel", "takenSize", "I", false)
  | 11 => ("UndoMemoryModel", "takenSteps", "[I", true)
  | 12 => ("UndoMemoryModel", "fresh", "Z", false)
  | 13 => ("UndoMemoryModel", "blocked", "I", false)
  | 14 => ("UndoMemoryModel", "cells", "[I", true)
  | 15 => ("UndoMemoryModel", "counters", "[J", true)
  | 16 => ("UndoMemoryModel", "rows", "[I", true)
  | 17 => ("UndoMemoryModel", "lengths", "[I", true)
  | 18 => ("UndoMemoryModel", "done", "[Z", true)
  | _ => ("UndoMemoryModel", "under", "[I", true)
def tyM : Nat → FieldType := fun k => match k with
  | 0 => .int
  | 1 => .int
  | 2 => .array .int
  | 3 => .array .int
  | 4 => .array .int
  | 5 => .array .int
  | 6 => .array .long
  | 7 => .array .boolean
  | 8 => .array .int
  | 9 => .array .int
  | 10 => .int
  | 11 => .array .int
  | 12 => .boolean
  | 13 => .int
  | 14 => .array .int
  | 15 => .array .long
  | 16 => .array .int
  | 17 => .array .int
  | 18 => .array .boolean
  | _ => .array .int
theorem nmM : ∀ a, a < 20 → ∀ b, b < 20 → a ≠ b → (TM a).2.1 ≠ (TM b).2.1 := by decide +kernel
theorem okM : ∀ k, k < 20 → parseFieldDescriptor (TM k).2.2.1 = some (tyM k) := by decide +kernel
abbrev cls_ : List vw_C := [(RR, TR, 9), (RS, TS, 7), (RU, TU, 9), (RM, TM, 20)]
def G_ : List Cond := lw_tbl.filter goodWord
theorem g_in {w : Cond} (h : w ∈ lw_tbl) (hg : goodWord w = true) : w ∈ G_ := List.mem_filter.mpr ⟨h, hg⟩
theorem g_t1 {w : Cond} (i : Nat) (h : tables_1_1[i]? = some w) : w ∈ lw_tbl := List.mem_append_right _ (List.mem_append_left _ (List.mem_of_getElem? h))
theorem g_t2 {w : Cond} (i : Nat) (h : tables_1_2[i]? = some w) : w ∈ lw_tbl := List.mem_append_right _ (List.mem_append_right _ (List.mem_append_left _ (List.mem_of_getElem? h)))
theorem g_t3 {w : Cond} (i : Nat) (h : tables_1_3[i]? = some w) : w ∈ lw_tbl := List.mem_append_right _ (List.mem_append_right _ (List.mem_append_right _ (List.mem_of_getElem? h)))
theorem g_sel {w : Cond} (i : Nat) (h : (k2_sels lw_privs)[i]? = some w) : w ∈ lw_tbl := List.mem_append_left _ (List.mem_of_getElem? h)
theorem gd_ {y : MethodName} {b : ByteArray} {n : Nat} {r : Option FieldType} (h : .code y b n r ∈ G_) : GoodIn G_ (.code y b n r :: G_) := fun w hw => (List.mem_cons.mp hw).elim (fun e => e ▸ ⟨h, good_of_word (List.mem_filter.mp h).2⟩) (fun hw => ⟨hw, good_of_word (List.mem_filter.mp hw).2⟩)
theorem gd_1 {w : Cond} (h : w ∈ G_) : w ∈ G_ ∧ ((w.onTables && w.keeps) = true ∨ ∃ ty, w = .arrayClass ty) := ⟨h, good_of_word (List.mem_filter.mp h).2⟩
theorem gd_V {own C : String} {idx n : Nat} {y : MethodName} {b : ByteArray} {r : Option FieldType} (h1 : .methodLink own idx y ∈ G_) (h2 : .instanceMethod y ∈ G_) (h3 : .selects C y y ∈ G_) (h4 : .initialized C ∈ G_) (h5 : .code y b n r ∈ G_) : GoodIn G_ (wsV own idx C y (.code y b n r :: G_)) := fun w hw => by
  rcases List.mem_append.mp hw with hw | hw
  · rcases List.mem_cons.mp hw with rfl | hw
    · exact gd_1 h1
    · rcases List.mem_cons.mp hw with rfl | hw
      · exact gd_1 h2
      · rcases List.mem_cons.mp hw with rfl | hw
        · exact gd_1 h3
        · rw [List.mem_singleton.mp hw]; exact gd_1 h4
  · exact gd_ h5 w hw
theorem gd_S {own : String} {idx n : Nat} {y : MethodName} {b : ByteArray} {r : Option FieldType} (h1 : .methodLink own idx y ∈ G_) (h2 : .static y ∈ G_) (h4 : .initialized own ∈ G_) (h5 : .code y b n r ∈ G_) : GoodIn G_ (wsS own idx y (.code y b n r :: G_)) := fun w hw => by
  rcases List.mem_append.mp hw with hw | hw
  · rcases List.mem_cons.mp hw with rfl | hw
    · exact gd_1 h1
    · rcases List.mem_cons.mp hw with rfl | hw
      · exact gd_1 h2
      · rw [List.mem_singleton.mp hw]; exact gd_1 h4
  · exact gd_ h5 w hw
theorem gd_W {own : String} {idx n : Nat} {y : MethodName} {b : ByteArray} {r : Option FieldType} (h1 : .methodLink own idx y ∈ G_) (h2 : .static y ∈ G_) (h4 : .initialized y.cls ∈ G_) (h5 : .code y b n r ∈ G_) : GoodIn G_ (va_wsS own idx y (.code y b n r :: G_)) := fun w hw => by
  rcases List.mem_append.mp hw with hw | hw
  · rcases List.mem_cons.mp hw with rfl | hw
    · exact gd_1 h1
    · rcases List.mem_cons.mp hw with rfl | hw
      · exact gd_1 h2
      · rw [List.mem_singleton.mp hw]; exact gd_1 h4
  · exact gd_ h5 w hw
abbrev c_U_init : ByteArray := prog_1_method_1_code
abbrev y_U_init : MethodName := ⟨RU, "<init>", "()V"⟩
abbrev c_R_init : ByteArray := prog_2_method_1_code
abbrev y_R_init : MethodName := ⟨RR, "<init>", "()V"⟩
abbrev c_U_set : ByteArray := prog_1_method_2_code
abbrev y_U_set : MethodName := ⟨RU, "set", "(II)I"⟩
abbrev c_U_isIndex : ByteArray := prog_1_method_26_code
abbrev y_U_isIndex : MethodName := ⟨RU, "isIndex", "(II)Z"⟩
abbrev c_U_isFull : ByteArray := prog_1_method_27_code
abbrev y_U_isFull : MethodName := ⟨RU, "isFull", "()Z"⟩
abbrev c_U_make : ByteArray := prog_1_method_29_code
abbrev y_U_make : MethodName := ⟨RU, "make", "(IIIJ[I)I"⟩
abbrev c_S_init : ByteArray := prog_3_method_1_code
abbrev y_S_init : MethodName := ⟨RS, "<init>", "(IIIIJ[I)V"⟩
abbrev c_R_attempt : ByteArray := prog_2_method_3_code
abbrev y_R_attempt : MethodName := ⟨RR, "attempt", "(LUndoMemory$Step;)Z"⟩
abbrev c_R_isImpossible : ByteArray := prog_2_method_4_code
abbrev y_R_isImpossible : MethodName := ⟨RR, "isImpossible", "(LUndoMemory$Step;)Z"⟩
abbrev c_R_hasElement : ByteArray := prog_2_method_8_code
abbrev y_R_hasElement : MethodName := ⟨RR, "hasElement", "(I)Z"⟩
abbrev c_R_search : ByteArray := prog_2_method_16_code
abbrev y_R_search : MethodName := ⟨RR, "search", "([III)I"⟩
abbrev c_R_hasNode : ByteArray := prog_2_method_9_code
abbrev y_R_hasNode : MethodName := ⟨RR, "hasNode", "(I)Z"⟩
abbrev c_R_isAtOrBelow : ByteArray := prog_2_method_10_code
abbrev y_R_isAtOrBelow : MethodName := ⟨RR, "isAtOrBelow", "(II)Z"⟩
abbrev c_R_perform : ByteArray := prog_2_method_5_code
abbrev y_R_perform : MethodName := ⟨RR, "perform", "(LUndoMemory$Step;)V"⟩
abbrev c_R_indexBehind : ByteArray := prog_2_method_14_code
abbrev y_R_indexBehind : MethodName := ⟨RR, "indexBehind", "(I[I)I"⟩
abbrev c_R_indexIn : ByteArray := prog_2_method_15_code
abbrev y_R_indexIn : MethodName := ⟨RR, "indexIn", "(II)I"⟩
abbrev c_R_putElement : ByteArray := prog_2_method_12_code
abbrev y_R_putElement : MethodName := ⟨RR, "putElement", "(III)V"⟩
abbrev c_R_takeElement : ByteArray := prog_2_method_13_code
abbrev y_R_takeElement : MethodName := ⟨RR, "takeElement", "(II)Z"⟩
abbrev c_R_hang : ByteArray := prog_2_method_11_code
abbrev y_R_hang : MethodName := ⟨RR, "hang", "(II)V"⟩
abbrev c_U_add : ByteArray := prog_1_method_3_code
abbrev y_U_add : MethodName := ⟨RU, "add", "(IJ)I"⟩
abbrev c_U_insert : ByteArray := prog_1_method_4_code
abbrev y_U_insert : MethodName := ⟨RU, "insert", "(III)I"⟩
abbrev c_U_insertsOf : ByteArray := prog_1_method_28_code
abbrev y_U_insertsOf : MethodName := ⟨RU, "insertsOf", "(I)I"⟩
abbrev c_R_placeBefore : ByteArray := prog_2_method_6_code
abbrev y_R_placeBefore : MethodName := ⟨RR, "placeBefore", "(III)[I"⟩
abbrev c_U_remove : ByteArray := prog_1_method_5_code
abbrev y_U_remove : MethodName := ⟨RU, "remove", "(II)I"⟩
abbrev c_U_element : ByteArray := prog_1_method_23_code
abbrev y_U_element : MethodName := ⟨RU, "element", "(II)I"⟩
abbrev c_U_move : ByteArray := prog_1_method_6_code
abbrev y_U_move : MethodName := ⟨RU, "move", "(III)I"⟩
abbrev c_U_node : ByteArray := prog_1_method_7_code
abbrev y_U_node : MethodName := ⟨RU, "node", "(I)I"⟩
abbrev c_U_unlink : ByteArray := prog_1_method_8_code
abbrev y_U_unlink : MethodName := ⟨RU, "unlink", "(I)I"⟩
abbrev c_U_link : ByteArray := prog_1_method_9_code
abbrev y_U_link : MethodName := ⟨RU, "link", "(II)I"⟩
abbrev c_U_undo : ByteArray := prog_1_method_10_code
abbrev y_U_undo : MethodName := ⟨RU, "undo", "(IZ)I"⟩
abbrev c_U_indexOf : ByteArray := prog_1_method_30_code
abbrev y_U_indexOf : MethodName := ⟨RU, "indexOf", "(I)I"⟩
abbrev c_U_replayActive : ByteArray := prog_1_method_33_code
abbrev y_U_replayActive : MethodName := ⟨RU, "replayActive", "()V"⟩
abbrev c_R_begin : ByteArray := prog_2_method_2_code
abbrev y_R_begin : MethodName := ⟨RR, "begin", "()V"⟩
abbrev c_J_fillI : ByteArray := prog_7_method_103_code
abbrev y_J_fillI : MethodName := ⟨"java/util/Arrays", "fill", "([II)V"⟩
abbrev c_J_fillJ : ByteArray := prog_7_method_101_code
abbrev y_J_fillJ : MethodName := ⟨"java/util/Arrays", "fill", "([JJ)V"⟩
abbrev c_U_takeImpossibleAlong : ByteArray := prog_1_method_34_code
abbrev y_U_takeImpossibleAlong : MethodName := ⟨RU, "takeImpossibleAlong", "()V"⟩
abbrev c_U_keepTrial : ByteArray := prog_1_method_35_code
abbrev y_U_keepTrial : MethodName := ⟨RU, "keepTrial", "()V"⟩
abbrev c_U_redo : ByteArray := prog_1_method_11_code
abbrev y_U_redo : MethodName := ⟨RU, "redo", "(I)I"⟩
abbrev c_U_taken : ByteArray := prog_1_method_12_code
abbrev y_U_taken : MethodName := ⟨RU, "taken", "(I)I"⟩
abbrev c_U_dependsOn : ByteArray := prog_1_method_13_code
abbrev y_U_dependsOn : MethodName := ⟨RU, "dependsOn", "(II)Z"⟩
abbrev c_U_undoLast : ByteArray := prog_1_method_14_code
abbrev y_U_undoLast : MethodName := ⟨RU, "undoLast", "()I"⟩
abbrev c_U_latestActive : ByteArray := prog_1_method_31_code
abbrev y_U_latestActive : MethodName := ⟨RU, "latestActive", "()I"⟩
abbrev c_U_redoNext : ByteArray := prog_1_method_15_code
abbrev y_U_redoNext : MethodName := ⟨RU, "redoNext", "()I"⟩
abbrev c_U_squash : ByteArray := prog_1_method_16_code
abbrev y_U_squash : MethodName := ⟨RU, "squash", "()I"⟩
abbrev c_U_active : ByteArray := prog_1_method_17_code
abbrev y_U_active : MethodName := ⟨RU, "active", "(I)I"⟩
abbrev c_U_count : ByteArray := prog_1_method_18_code
abbrev y_U_count : MethodName := ⟨RU, "count", "(I)I"⟩
abbrev c_U_countActive : ByteArray := prog_1_method_32_code
abbrev y_U_countActive : MethodName := ⟨RU, "countActive", "()I"⟩
abbrev c_U_history : ByteArray := prog_1_method_19_code
abbrev y_U_history : MethodName := ⟨RU, "history", "(II)I"⟩
abbrev c_U_cell : ByteArray := prog_1_method_20_code
abbrev y_U_cell : MethodName := ⟨RU, "cell", "(I)I"⟩
abbrev c_U_counter : ByteArray := prog_1_method_21_code
abbrev y_U_counter : MethodName := ⟨RU, "counter", "(I)J"⟩
abbrev c_U_length : ByteArray := prog_1_method_22_code
abbrev y_U_length : MethodName := ⟨RU, "length", "(I)I"⟩
abbrev c_U_value : ByteArray := prog_1_method_24_code
abbrev y_U_value : MethodName := ⟨RU, "value", "(I)I"⟩
abbrev c_U_parent : ByteArray := prog_1_method_25_code
abbrev y_U_parent : MethodName := ⟨RU, "parent", "(I)I"⟩
abbrev c_R_parentOf : ByteArray := prog_2_method_7_code
abbrev y_R_parentOf : MethodName := ⟨RR, "parentOf", "(I)I"⟩
abbrev c_M_init : ByteArray := prog_5_method_1_code
abbrev y_M_init : MethodName := ⟨RM, "<init>", "()V"⟩
abbrev c_M_set : ByteArray := prog_5_method_16_code
abbrev y_M_set : MethodName := ⟨RM, "set", "(II)I"⟩
abbrev c_M_isFull : ByteArray := prog_5_method_3_code
abbrev y_M_isFull : MethodName := ⟨RM, "isFull", "()Z"⟩
abbrev c_M_put : ByteArray := prog_5_method_4_code
abbrev y_M_put : MethodName := ⟨RM, "put", "(IIIJ)I"⟩
abbrev c_M_add : ByteArray := prog_5_method_17_code
abbrev y_M_add : MethodName := ⟨RM, "add", "(IJ)I"⟩
abbrev c_M_insert : ByteArray := prog_5_method_20_code
abbrev y_M_insert : MethodName := ⟨RM, "insert", "(III)I"⟩
abbrev c_M_recall : ByteArray := prog_5_method_15_code
abbrev y_M_recall : MethodName := ⟨RM, "recall", "()V"⟩
abbrev c_M_replay : ByteArray := prog_5_method_14_code
abbrev y_M_replay : MethodName := ⟨RM, "replay", "(II)V"⟩
abbrev c_M_isImpossible : ByteArray := prog_5_method_12_code
abbrev y_M_isImpossible : MethodName := ⟨RM, "isImpossible", "(I)Z"⟩
abbrev c_M_isThere : ByteArray := prog_5_method_10_code
abbrev y_M_isThere : MethodName := ⟨RM, "isThere", "(I)Z"⟩
abbrev c_M_find : ByteArray := prog_5_method_2_code
abbrev y_M_find : MethodName := ⟨RM, "find", "(I)I"⟩
abbrev c_M_isBelow : ByteArray := prog_5_method_11_code
abbrev y_M_isBelow : MethodName := ⟨RM, "isBelow", "(II)Z"⟩
abbrev c_M_perform : ByteArray := prog_5_method_13_code
abbrev y_M_perform : MethodName := ⟨RM, "perform", "(I)V"⟩
abbrev c_M_bringIn : ByteArray := prog_5_method_9_code
abbrev y_M_bringIn : MethodName := ⟨RM, "bringIn", "(III)V"⟩
abbrev c_M_indexOf : ByteArray := prog_5_method_7_code
abbrev y_M_indexOf : MethodName := ⟨RM, "indexOf", "(II)I"⟩
abbrev c_M_takeOut : ByteArray := prog_5_method_8_code
abbrev y_M_takeOut : MethodName := ⟨RM, "takeOut", "(II)V"⟩
abbrev c_M_isRow : ByteArray := prog_5_method_18_code
abbrev y_M_isRow : MethodName := ⟨RM, "isRow", "(I)Z"⟩
abbrev c_M_insertsOf : ByteArray := prog_5_method_19_code
abbrev y_M_insertsOf : MethodName := ⟨RM, "insertsOf", "(I)I"⟩
abbrev c_M_tellPlace : ByteArray := prog_5_method_5_code
abbrev y_M_tellPlace : MethodName := ⟨RM, "tellPlace", "(III)V"⟩
abbrev c_M_indexWithout : ByteArray := prog_5_method_6_code
abbrev y_M_indexWithout : MethodName := ⟨RM, "indexWithout", "(III)I"⟩
abbrev c_M_remove : ByteArray := prog_5_method_21_code
abbrev y_M_remove : MethodName := ⟨RM, "remove", "(II)I"⟩
abbrev c_M_move : ByteArray := prog_5_method_22_code
abbrev y_M_move : MethodName := ⟨RM, "move", "(III)I"⟩
abbrev c_M_node : ByteArray := prog_5_method_24_code
abbrev y_M_node : MethodName := ⟨RM, "node", "(I)I"⟩
abbrev c_M_isNode : ByteArray := prog_5_method_23_code
abbrev y_M_isNode : MethodName := ⟨RM, "isNode", "(I)Z"⟩
abbrev c_M_unlink : ByteArray := prog_5_method_25_code
abbrev y_M_unlink : MethodName := ⟨RM, "unlink", "(I)I"⟩
abbrev c_M_link : ByteArray := prog_5_method_26_code
abbrev y_M_link : MethodName := ⟨RM, "link", "(II)I"⟩
abbrev c_M_undo : ByteArray := prog_5_method_27_code
abbrev y_M_undo : MethodName := ⟨RM, "undo", "(IZ)I"⟩
abbrev c_M_redo : ByteArray := prog_5_method_28_code
abbrev y_M_redo : MethodName := ⟨RM, "redo", "(I)I"⟩
abbrev c_M_taken : ByteArray := prog_5_method_29_code
abbrev y_M_taken : MethodName := ⟨RM, "taken", "(I)I"⟩
abbrev c_M_dependsOn : ByteArray := prog_5_method_30_code
abbrev y_M_dependsOn : MethodName := ⟨RM, "dependsOn", "(II)Z"⟩
abbrev c_M_undoLast : ByteArray := prog_5_method_32_code
abbrev y_M_undoLast : MethodName := ⟨RM, "undoLast", "()I"⟩
abbrev c_M_latestActive : ByteArray := prog_5_method_31_code
abbrev y_M_latestActive : MethodName := ⟨RM, "latestActive", "()I"⟩
abbrev c_M_redoNext : ByteArray := prog_5_method_33_code
abbrev y_M_redoNext : MethodName := ⟨RM, "redoNext", "()I"⟩
abbrev c_M_squash : ByteArray := prog_5_method_34_code
abbrev y_M_squash : MethodName := ⟨RM, "squash", "()I"⟩
abbrev c_M_active : ByteArray := prog_5_method_35_code
abbrev y_M_active : MethodName := ⟨RM, "active", "(I)I"⟩
abbrev c_M_count : ByteArray := prog_5_method_36_code
abbrev y_M_count : MethodName := ⟨RM, "count", "(I)I"⟩
abbrev c_M_history : ByteArray := prog_5_method_37_code
abbrev y_M_history : MethodName := ⟨RM, "history", "(II)I"⟩
abbrev c_M_cell : ByteArray := prog_5_method_38_code
abbrev y_M_cell : MethodName := ⟨RM, "cell", "(I)I"⟩
abbrev c_M_counter : ByteArray := prog_5_method_39_code
abbrev y_M_counter : MethodName := ⟨RM, "counter", "(I)J"⟩
abbrev c_M_length : ByteArray := prog_5_method_40_code
abbrev y_M_length : MethodName := ⟨RM, "length", "(I)I"⟩
abbrev c_M_element : ByteArray := prog_5_method_41_code
abbrev y_M_element : MethodName := ⟨RM, "element", "(II)I"⟩
abbrev c_M_value : ByteArray := prog_5_method_42_code
abbrev y_M_value : MethodName := ⟨RM, "value", "(I)I"⟩
abbrev c_M_parent : ByteArray := prog_5_method_43_code
abbrev y_M_parent : MethodName := ⟨RM, "parent", "(I)I"⟩
