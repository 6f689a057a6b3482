abbrev R_T : String := "BinTrees$Tree"
def F_T : u_T := fun k => match k with
  | 0 => ("BinTrees$Tree", "there", "[Z", true)
  | 1 => ("BinTrees$Tree", "parent", "[I", true)
  | 2 => ("BinTrees$Tree", "wasLast", "[I", true)
  | 3 => ("BinTrees$Tree", "line", "[I", true)
  | _ => ("BinTrees$Tree", "size", "I", false)
def tt_T : Nat → FieldType := fun k => match k with
  | 0 => .array .boolean
  | 1 => .array .int
  | 2 => .array .int
  | 3 => .array .int
  | _ => .int
theorem n_T : ∀ a, a < 5 → ∀ b, b < 5 → a ≠ b → (F_T a).2.1 ≠ (F_T b).2.1 := by decide +kernel
theorem tt_T_ok : ∀ k, k < 5 → parseFieldDescriptor (F_T k).2.2.1 = some (tt_T k) := by decide +kernel
theorem i_T : ∀ w ∈ u_ws R_T F_T 5, w ∈ vz_tbl := by decide +kernel
abbrev R_L : String := "BinTrees$Log"
def F_L : u_T := fun k => match k with
  | 0 => ("BinTrees$Log", "sort", "[I", true)
  | 1 => ("BinTrees$Log", "node", "[I", true)
  | 2 => ("BinTrees$Log", "time", "[I", true)
  | 3 => ("BinTrees$Log", "subject", "[I", true)
  | 4 => ("BinTrees$Log", "parent", "[I", true)
  | 5 => ("BinTrees$Log", "behind", "[I", true)
  | 6 => ("BinTrees$Log", "undoing", "[I", true)
  | 7 => ("BinTrees$Log", "ordered", "[I", true)
  | 8 => ("BinTrees$Log", "count", "I", false)
  | _ => ("BinTrees$Log", "made", "I", false)
def tt_L : Nat → FieldType := fun k => match k with
  | 0 => .array .int
  | 1 => .array .int
  | 2 => .array .int
  | 3 => .array .int
  | 4 => .array .int
  | 5 => .array .int
  | 6 => .array .int
  | 7 => .array .int
  | 8 => .int
  | _ => .int
theorem n_L : ∀ a, a < 10 → ∀ b, b < 10 → a ≠ b → (F_L a).2.1 ≠ (F_L b).2.1 := by decide +kernel
theorem tt_L_ok : ∀ k, k < 10 → parseFieldDescriptor (F_L k).2.2.1 = some (tt_L k) := by decide +kernel
theorem i_L : ∀ w ∈ u_ws R_L F_L 10, w ∈ vz_tbl := by decide +kernel
abbrev R_P : String := "BinTrees$Person"
def F_P : u_T := fun k => match k with
  | 0 => ("BinTrees$Person", "takes", "[I", true)
  | 1 => ("BinTrees$Person", "tree", "LBinTrees$Tree;", true)
  | 2 => ("BinTrees$Person", "known", "I", false)
  | 3 => ("BinTrees$Person", "time", "I", false)
  | _ => ("BinTrees$Person", "lastCost", "I", false)
def tt_P : Nat → FieldType := fun k => match k with
  | 0 => .array .int
  | 1 => .object "BinTrees$Tree"
  | 2 => .int
  | 3 => .int
  | _ => .int
theorem n_P : ∀ a, a < 5 → ∀ b, b < 5 → a ≠ b → (F_P a).2.1 ≠ (F_P b).2.1 := by decide +kernel
theorem tt_P_ok : ∀ k, k < 5 → parseFieldDescriptor (F_P k).2.2.1 = some (tt_P k) := by decide +kernel
theorem i_P : ∀ w ∈ u_ws R_P F_P 5, w ∈ vz_tbl := by decide +kernel
abbrev R_B : String := "BinTrees"
def F_B : u_T := fun k => match k with
  | 0 => ("BinTrees", "log", "LBinTrees$Log;", true)
  | _ => ("BinTrees", "people", "[LBinTrees$Person;", true)
def tt_B : Nat → FieldType := fun k => match k with
  | 0 => .object "BinTrees$Log"
  | _ => .array (.object "BinTrees$Person")
theorem n_B : ∀ a, a < 2 → ∀ b, b < 2 → a ≠ b → (F_B a).2.1 ≠ (F_B b).2.1 := by decide +kernel
theorem tt_B_ok : ∀ k, k < 2 → parseFieldDescriptor (F_B k).2.2.1 = some (tt_B k) := by decide +kernel
theorem i_B : ∀ w ∈ u_ws R_B F_B 2, w ∈ vz_tbl := by decide +kernel
abbrev R_M : String := "BinTreesModel"
def F_M : u_T := fun k => match k with
  | 0 => ("BinTreesModel", "thrown", "I", false)
  | 1 => ("BinTreesModel", "rows", "I", false)
  | 2 => ("BinTreesModel", "sort", "[I", true)
  | 3 => ("BinTreesModel", "who", "[I", true)
  | 4 => ("BinTreesModel", "time", "[I", true)
  | 5 => ("BinTreesModel", "what", "[I", true)
  | 6 => ("BinTreesModel", "to", "[I", true)
  | 7 => ("BinTreesModel", "behind", "[I", true)
  | 8 => ("BinTreesModel", "objects", "I", false)
  | 9 => ("BinTreesModel", "knows", "[Z", true)
  | 10 => ("BinTreesModel", "clock", "[I", true)
  | 11 => ("BinTreesModel", "cost", "[I", true)
  | 12 => ("BinTreesModel", "builtFor", "I", false)
  | 13 => ("BinTreesModel", "there", "[Z", true)
  | 14 => ("BinTreesModel", "parent", "[I", true)
  | 15 => ("BinTreesModel", "last", "[I", true)
  | 16 => ("BinTreesModel", "kids", "[I", true)
  | 17 => ("BinTreesModel", "kid", "[I", true)
  | 18 => ("BinTreesModel", "how", "[I", true)
  | 19 => ("BinTreesModel", "orders", "I", false)
  | 20 => ("BinTreesModel", "order", "[I", true)
  | 21 => ("BinTreesModel", "others", "I", false)
  | 22 => ("BinTreesModel", "other", "[I", true)
  | 23 => ("BinTreesModel", "oldKids", "[I", true)
  | 24 => ("BinTreesModel", "oldKid", "[I", true)
  | _ => ("BinTreesModel", "oldThere", "[Z", true)
def tt_M : Nat → FieldType := fun k => match k with
  | 0 => .int
  | 1 => .int
  | 2 => .array .int
  | 3 => .array .int
  | 4 => .array .int
  | 5 => .array .int
  | 6 => .array .int
  | 7 => .array .int
  | 8 => .int
  | 9 => .array .boolean
  | 10 => .array .int
  | 11 => .array .int
  | 12 => .int
  | 13 => .array .boolean
  | 14 => .array .int
  | 15 => .array .int
  | 16 => .array .int
  | 17 => .array .int
  | 18 => .array .int
  | 19 => .int
  | 20 => .array .int
  | 21 => .int
  | 22 => .array .int
  | 23 => .array .int
  | 24 => .array .int
  | _ => .array .boolean
theorem n_M : ∀ a, a < 26 → ∀ b, b < 26 → a ≠ b → (F_M a).2.1 ≠ (F_M b).2.1 := by decide +kernel
theorem tt_M_ok : ∀ k, k < 26 → parseFieldDescriptor (F_M k).2.2.1 = some (tt_M k) := by decide +kernel
theorem i_M : ∀ w ∈ u_ws R_M F_M 26, w ∈ vz_tbl := by decide +kernel
abbrev classes : List vw_C := [(R_T, F_T, 5), (R_L, F_L, 10), (R_P, F_P, 5), (R_B, F_B, 2), (R_M, F_M, 26)]
abbrev b_B_init : ByteArray := prog_1_method_1_code
def y_B_init : MethodName := ⟨"BinTrees", "<init>", "()V"⟩
theorem hd_B_init : y_B_init.cls ≠ "java/lang/invoke/MethodHandle" ∧ y_B_init.cls ≠ "java/lang/invoke/VarHandle" ∧ (parseMethodDescriptor y_B_init.desc).map (fun d => d.parameters.length) = some 0 := by decide +kernel
abbrev b_L_init : ByteArray := prog_2_method_1_code
def y_L_init : MethodName := ⟨"BinTrees$Log", "<init>", "()V"⟩
theorem hd_L_init : y_L_init.cls ≠ "java/lang/invoke/MethodHandle" ∧ y_L_init.cls ≠ "java/lang/invoke/VarHandle" ∧ (parseMethodDescriptor y_L_init.desc).map (fun d => d.parameters.length) = some 0 := by decide +kernel
abbrev b_P_init : ByteArray := prog_3_method_1_code
def y_P_init : MethodName := ⟨"BinTrees$Person", "<init>", "()V"⟩
theorem hd_P_init : y_P_init.cls ≠ "java/lang/invoke/MethodHandle" ∧ y_P_init.cls ≠ "java/lang/invoke/VarHandle" ∧ (parseMethodDescriptor y_P_init.desc).map (fun d => d.parameters.length) = some 0 := by decide +kernel
abbrev b_T_init : ByteArray := prog_4_method_1_code
def y_T_init : MethodName := ⟨"BinTrees$Tree", "<init>", "()V"⟩
theorem hd_T_init : y_T_init.cls ≠ "java/lang/invoke/MethodHandle" ∧ y_T_init.cls ≠ "java/lang/invoke/VarHandle" ∧ (parseMethodDescriptor y_T_init.desc).map (fun d => d.parameters.length) = some 0 := by decide +kernel
abbrev b_T_startAnew : ByteArray := prog_4_method_2_code
def y_T_startAnew : MethodName := ⟨"BinTrees$Tree", "startAnew", "()V"⟩
theorem hd_T_startAnew : y_T_startAnew.cls ≠ "java/lang/invoke/MethodHandle" ∧ y_T_startAnew.cls ≠ "java/lang/invoke/VarHandle" ∧ (parseMethodDescriptor y_T_startAnew.desc).map (fun d => d.parameters.length) = some 0 := by decide +kernel
abbrev b_B_make : ByteArray := prog_1_method_2_code
def y_B_make : MethodName := ⟨"BinTrees", "make", "(I)I"⟩
theorem hd_B_make : y_B_make.cls ≠ "java/lang/invoke/MethodHandle" ∧ y_B_make.cls ≠ "java/lang/invoke/VarHandle" ∧ (parseMethodDescriptor y_B_make.desc).map (fun d => d.parameters.length) = some 1 := by decide +kernel
abbrev b_B_mayWrite : ByteArray := prog_1_method_19_code
def y_B_mayWrite : MethodName := ⟨"BinTrees", "mayWrite", "(I)Z"⟩
theorem hd_B_mayWrite : y_B_mayWrite.cls ≠ "java/lang/invoke/MethodHandle" ∧ y_B_mayWrite.cls ≠ "java/lang/invoke/VarHandle" ∧ (parseMethodDescriptor y_B_mayWrite.desc).map (fun d => d.parameters.length) = some 1 := by decide +kernel
abbrev b_B_isNode : ByteArray := prog_1_method_15_code
def y_B_isNode : MethodName := ⟨"BinTrees", "isNode", "(I)Z"⟩
theorem hd_B_isNode : y_B_isNode.cls ≠ "java/lang/invoke/MethodHandle" ∧ y_B_isNode.cls ≠ "java/lang/invoke/VarHandle" ∧ (parseMethodDescriptor y_B_isNode.desc).map (fun d => d.parameters.length) = some 1 := by decide +kernel
abbrev b_L_add : ByteArray := prog_2_method_2_code
def y_L_add : MethodName := ⟨"BinTrees$Log", "add", "(IIIIII)I"⟩
theorem hd_L_add : y_L_add.cls ≠ "java/lang/invoke/MethodHandle" ∧ y_L_add.cls ≠ "java/lang/invoke/VarHandle" ∧ (parseMethodDescriptor y_L_add.desc).map (fun d => d.parameters.length) = some 6 := by decide +kernel
abbrev b_L_putInOrder : ByteArray := prog_2_method_3_code
def y_L_putInOrder : MethodName := ⟨"BinTrees$Log", "putInOrder", "(I)V"⟩
theorem hd_L_putInOrder : y_L_putInOrder.cls ≠ "java/lang/invoke/MethodHandle" ∧ y_L_putInOrder.cls ≠ "java/lang/invoke/VarHandle" ∧ (parseMethodDescriptor y_L_putInOrder.desc).map (fun d => d.parameters.length) = some 1 := by decide +kernel
abbrev b_L_isAhead : ByteArray := prog_2_method_4_code
def y_L_isAhead : MethodName := ⟨"BinTrees$Log", "isAhead", "(II)Z"⟩
theorem hd_L_isAhead : y_L_isAhead.cls ≠ "java/lang/invoke/MethodHandle" ∧ y_L_isAhead.cls ≠ "java/lang/invoke/VarHandle" ∧ (parseMethodDescriptor y_L_isAhead.desc).map (fun d => d.parameters.length) = some 2 := by decide +kernel
abbrev b_B_told : ByteArray := prog_1_method_20_code
def y_B_told : MethodName := ⟨"BinTrees", "told", "(II)I"⟩
theorem hd_B_told : y_B_told.cls ≠ "java/lang/invoke/MethodHandle" ∧ y_B_told.cls ≠ "java/lang/invoke/VarHandle" ∧ (parseMethodDescriptor y_B_told.desc).map (fun d => d.parameters.length) = some 2 := by decide +kernel
abbrev b_P_learn : ByteArray := prog_3_method_3_code
def y_P_learn : MethodName := ⟨"BinTrees$Person", "learn", "(LBinTrees$Log;I)V"⟩
theorem hd_P_learn : y_P_learn.cls ≠ "java/lang/invoke/MethodHandle" ∧ y_P_learn.cls ≠ "java/lang/invoke/VarHandle" ∧ (parseMethodDescriptor y_P_learn.desc).map (fun d => d.parameters.length) = some 2 := by decide +kernel
abbrev b_Math_max : ByteArray := prog_7_method_65_code
def y_Math_max : MethodName := ⟨"java/lang/Math", "max", "(II)I"⟩
theorem hd_Math_max : y_Math_max.cls ≠ "java/lang/invoke/MethodHandle" ∧ y_Math_max.cls ≠ "java/lang/invoke/VarHandle" ∧ (parseMethodDescriptor y_Math_max.desc).map (fun d => d.parameters.length) = some 2 := by decide +kernel
abbrev b_P_countFrom : ByteArray := prog_3_method_4_code
def y_P_countFrom : MethodName := ⟨"BinTrees$Person", "countFrom", "(LBinTrees$Log;I)I"⟩
theorem hd_P_countFrom : y_P_countFrom.cls ≠ "java/lang/invoke/MethodHandle" ∧ y_P_countFrom.cls ≠ "java/lang/invoke/VarHandle" ∧ (parseMethodDescriptor y_P_countFrom.desc).map (fun d => d.parameters.length) = some 2 := by decide +kernel
abbrev b_P_knows : ByteArray := prog_3_method_2_code
def y_P_knows : MethodName := ⟨"BinTrees$Person", "knows", "(I)Z"⟩
theorem hd_P_knows : y_P_knows.cls ≠ "java/lang/invoke/MethodHandle" ∧ y_P_knows.cls ≠ "java/lang/invoke/VarHandle" ∧ (parseMethodDescriptor y_P_knows.desc).map (fun d => d.parameters.length) = some 1 := by decide +kernel
abbrev b_P_judge : ByteArray := prog_3_method_6_code
def y_P_judge : MethodName := ⟨"BinTrees$Person", "judge", "(LBinTrees$Log;I)V"⟩
theorem hd_P_judge : y_P_judge.cls ≠ "java/lang/invoke/MethodHandle" ∧ y_P_judge.cls ≠ "java/lang/invoke/VarHandle" ∧ (parseMethodDescriptor y_P_judge.desc).map (fun d => d.parameters.length) = some 2 := by decide +kernel
abbrev b_T_bringIn : ByteArray := prog_4_method_3_code
def y_T_bringIn : MethodName := ⟨"BinTrees$Tree", "bringIn", "(I)V"⟩
theorem hd_T_bringIn : y_T_bringIn.cls ≠ "java/lang/invoke/MethodHandle" ∧ y_T_bringIn.cls ≠ "java/lang/invoke/VarHandle" ∧ (parseMethodDescriptor y_T_bringIn.desc).map (fun d => d.parameters.length) = some 1 := by decide +kernel
abbrev b_T_putAt : ByteArray := prog_4_method_11_code
def y_T_putAt : MethodName := ⟨"BinTrees$Tree", "putAt", "(III)V"⟩
theorem hd_T_putAt : y_T_putAt.cls ≠ "java/lang/invoke/MethodHandle" ∧ y_T_putAt.cls ≠ "java/lang/invoke/VarHandle" ∧ (parseMethodDescriptor y_T_putAt.desc).map (fun d => d.parameters.length) = some 3 := by decide +kernel
abbrev b_T_moveTo : ByteArray := prog_4_method_4_code
def y_T_moveTo : MethodName := ⟨"BinTrees$Tree", "moveTo", "(III)Z"⟩
theorem hd_T_moveTo : y_T_moveTo.cls ≠ "java/lang/invoke/MethodHandle" ∧ y_T_moveTo.cls ≠ "java/lang/invoke/VarHandle" ∧ (parseMethodDescriptor y_T_moveTo.desc).map (fun d => d.parameters.length) = some 3 := by decide +kernel
abbrev b_T_mayLie : ByteArray := prog_4_method_7_code
def y_T_mayLie : MethodName := ⟨"BinTrees$Tree", "mayLie", "(II)Z"⟩
theorem hd_T_mayLie : y_T_mayLie.cls ≠ "java/lang/invoke/MethodHandle" ∧ y_T_mayLie.cls ≠ "java/lang/invoke/VarHandle" ∧ (parseMethodDescriptor y_T_mayLie.desc).map (fun d => d.parameters.length) = some 2 := by decide +kernel
abbrev b_T_stepsUp : ByteArray := prog_4_method_8_code
def y_T_stepsUp : MethodName := ⟨"BinTrees$Tree", "stepsUp", "(II)I"⟩
theorem hd_T_stepsUp : y_T_stepsUp.cls ≠ "java/lang/invoke/MethodHandle" ∧ y_T_stepsUp.cls ≠ "java/lang/invoke/VarHandle" ∧ (parseMethodDescriptor y_T_stepsUp.desc).map (fun d => d.parameters.length) = some 2 := by decide +kernel
abbrev b_T_takeOut : ByteArray := prog_4_method_10_code
def y_T_takeOut : MethodName := ⟨"BinTrees$Tree", "takeOut", "(I)V"⟩
theorem hd_T_takeOut : y_T_takeOut.cls ≠ "java/lang/invoke/MethodHandle" ∧ y_T_takeOut.cls ≠ "java/lang/invoke/VarHandle" ∧ (parseMethodDescriptor y_T_takeOut.desc).map (fun d => d.parameters.length) = some 1 := by decide +kernel
abbrev b_T_spotBehind : ByteArray := prog_4_method_12_code
def y_T_spotBehind : MethodName := ⟨"BinTrees$Tree", "spotBehind", "(II)I"⟩
theorem hd_T_spotBehind : y_T_spotBehind.cls ≠ "java/lang/invoke/MethodHandle" ∧ y_T_spotBehind.cls ≠ "java/lang/invoke/VarHandle" ∧ (parseMethodDescriptor y_T_spotBehind.desc).map (fun d => d.parameters.length) = some 2 := by decide +kernel
abbrev b_T_throwAway : ByteArray := prog_4_method_5_code
def y_T_throwAway : MethodName := ⟨"BinTrees$Tree", "throwAway", "(I)Z"⟩
theorem hd_T_throwAway : y_T_throwAway.cls ≠ "java/lang/invoke/MethodHandle" ∧ y_T_throwAway.cls ≠ "java/lang/invoke/VarHandle" ∧ (parseMethodDescriptor y_T_throwAway.desc).map (fun d => d.parameters.length) = some 1 := by decide +kernel
abbrev b_T_bringBack : ByteArray := prog_4_method_6_code
def y_T_bringBack : MethodName := ⟨"BinTrees$Tree", "bringBack", "(I)Z"⟩
theorem hd_T_bringBack : y_T_bringBack.cls ≠ "java/lang/invoke/MethodHandle" ∧ y_T_bringBack.cls ≠ "java/lang/invoke/VarHandle" ∧ (parseMethodDescriptor y_T_bringBack.desc).map (fun d => d.parameters.length) = some 1 := by decide +kernel
abbrev b_P_judgeAll : ByteArray := prog_3_method_5_code
def y_P_judgeAll : MethodName := ⟨"BinTrees$Person", "judgeAll", "(LBinTrees$Log;)V"⟩
theorem hd_P_judgeAll : y_P_judgeAll.cls ≠ "java/lang/invoke/MethodHandle" ∧ y_P_judgeAll.cls ≠ "java/lang/invoke/VarHandle" ∧ (parseMethodDescriptor y_P_judgeAll.desc).map (fun d => d.parameters.length) = some 1 := by decide +kernel
abbrev b_B_move : ByteArray := prog_1_method_3_code
def y_B_move : MethodName := ⟨"BinTrees", "move", "(IIII)I"⟩
theorem hd_B_move : y_B_move.cls ≠ "java/lang/invoke/MethodHandle" ∧ y_B_move.cls ≠ "java/lang/invoke/VarHandle" ∧ (parseMethodDescriptor y_B_move.desc).map (fun d => d.parameters.length) = some 4 := by decide +kernel
abbrev b_B_isMade : ByteArray := prog_1_method_17_code
def y_B_isMade : MethodName := ⟨"BinTrees", "isMade", "(I)Z"⟩
theorem hd_B_isMade : y_B_isMade.cls ≠ "java/lang/invoke/MethodHandle" ∧ y_B_isMade.cls ≠ "java/lang/invoke/VarHandle" ∧ (parseMethodDescriptor y_B_isMade.desc).map (fun d => d.parameters.length) = some 1 := by decide +kernel
abbrev b_B_isObject : ByteArray := prog_1_method_16_code
def y_B_isObject : MethodName := ⟨"BinTrees", "isObject", "(I)Z"⟩
theorem hd_B_isObject : y_B_isObject.cls ≠ "java/lang/invoke/MethodHandle" ∧ y_B_isObject.cls ≠ "java/lang/invoke/VarHandle" ∧ (parseMethodDescriptor y_B_isObject.desc).map (fun d => d.parameters.length) = some 1 := by decide +kernel
abbrev b_B_remove : ByteArray := prog_1_method_4_code
def y_B_remove : MethodName := ⟨"BinTrees", "remove", "(IIZ)I"⟩
theorem hd_B_remove : y_B_remove.cls ≠ "java/lang/invoke/MethodHandle" ∧ y_B_remove.cls ≠ "java/lang/invoke/VarHandle" ∧ (parseMethodDescriptor y_B_remove.desc).map (fun d => d.parameters.length) = some 3 := by decide +kernel
abbrev b_B_undo : ByteArray := prog_1_method_5_code
def y_B_undo : MethodName := ⟨"BinTrees", "undo", "(II)I"⟩
theorem hd_B_undo : y_B_undo.cls ≠ "java/lang/invoke/MethodHandle" ∧ y_B_undo.cls ≠ "java/lang/invoke/VarHandle" ∧ (parseMethodDescriptor y_B_undo.desc).map (fun d => d.parameters.length) = some 2 := by decide +kernel
abbrev b_B_isRow : ByteArray := prog_1_method_18_code
def y_B_isRow : MethodName := ⟨"BinTrees", "isRow", "(I)Z"⟩
theorem hd_B_isRow : y_B_isRow.cls ≠ "java/lang/invoke/MethodHandle" ∧ y_B_isRow.cls ≠ "java/lang/invoke/VarHandle" ∧ (parseMethodDescriptor y_B_isRow.desc).map (fun d => d.parameters.length) = some 1 := by decide +kernel
abbrev b_L_mayBeUndoneBy : ByteArray := prog_2_method_5_code
def y_L_mayBeUndoneBy : MethodName := ⟨"BinTrees$Log", "mayBeUndoneBy", "(II)Z"⟩
theorem hd_L_mayBeUndoneBy : y_L_mayBeUndoneBy.cls ≠ "java/lang/invoke/MethodHandle" ∧ y_L_mayBeUndoneBy.cls ≠ "java/lang/invoke/VarHandle" ∧ (parseMethodDescriptor y_L_mayBeUndoneBy.desc).map (fun d => d.parameters.length) = some 2 := by decide +kernel
abbrev b_B_see : ByteArray := prog_1_method_6_code
def y_B_see : MethodName := ⟨"BinTrees", "see", "(II)I"⟩
theorem hd_B_see : y_B_see.cls ≠ "java/lang/invoke/MethodHandle" ∧ y_B_see.cls ≠ "java/lang/invoke/VarHandle" ∧ (parseMethodDescriptor y_B_see.desc).map (fun d => d.parameters.length) = some 2 := by decide +kernel
abbrev b_B_meet : ByteArray := prog_1_method_7_code
def y_B_meet : MethodName := ⟨"BinTrees", "meet", "(II)I"⟩
theorem hd_B_meet : y_B_meet.cls ≠ "java/lang/invoke/MethodHandle" ∧ y_B_meet.cls ≠ "java/lang/invoke/VarHandle" ∧ (parseMethodDescriptor y_B_meet.desc).map (fun d => d.parameters.length) = some 2 := by decide +kernel
abbrev b_B_cost : ByteArray := prog_1_method_8_code
def y_B_cost : MethodName := ⟨"BinTrees", "cost", "(I)I"⟩
theorem hd_B_cost : y_B_cost.cls ≠ "java/lang/invoke/MethodHandle" ∧ y_B_cost.cls ≠ "java/lang/invoke/VarHandle" ∧ (parseMethodDescriptor y_B_cost.desc).map (fun d => d.parameters.length) = some 1 := by decide +kernel
abbrev b_B_object : ByteArray := prog_1_method_9_code
def y_B_object : MethodName := ⟨"BinTrees", "object", "(III)I"⟩
theorem hd_B_object : y_B_object.cls ≠ "java/lang/invoke/MethodHandle" ∧ y_B_object.cls ≠ "java/lang/invoke/VarHandle" ∧ (parseMethodDescriptor y_B_object.desc).map (fun d => d.parameters.length) = some 3 := by decide +kernel
abbrev b_T_topOf : ByteArray := prog_4_method_9_code
def y_T_topOf : MethodName := ⟨"BinTrees$Tree", "topOf", "(I)I"⟩
theorem hd_T_topOf : y_T_topOf.cls ≠ "java/lang/invoke/MethodHandle" ∧ y_T_topOf.cls ≠ "java/lang/invoke/VarHandle" ∧ (parseMethodDescriptor y_T_topOf.desc).map (fun d => d.parameters.length) = some 1 := by decide +kernel
abbrev b_T_childCount : ByteArray := prog_4_method_13_code
def y_T_childCount : MethodName := ⟨"BinTrees$Tree", "childCount", "(I)I"⟩
theorem hd_T_childCount : y_T_childCount.cls ≠ "java/lang/invoke/MethodHandle" ∧ y_T_childCount.cls ≠ "java/lang/invoke/VarHandle" ∧ (parseMethodDescriptor y_T_childCount.desc).map (fun d => d.parameters.length) = some 1 := by decide +kernel
abbrev b_T_placeOf : ByteArray := prog_4_method_15_code
def y_T_placeOf : MethodName := ⟨"BinTrees$Tree", "placeOf", "(I)I"⟩
theorem hd_T_placeOf : y_T_placeOf.cls ≠ "java/lang/invoke/MethodHandle" ∧ y_T_placeOf.cls ≠ "java/lang/invoke/VarHandle" ∧ (parseMethodDescriptor y_T_placeOf.desc).map (fun d => d.parameters.length) = some 1 := by decide +kernel
abbrev b_B_child : ByteArray := prog_1_method_10_code
def y_B_child : MethodName := ⟨"BinTrees", "child", "(III)I"⟩
theorem hd_B_child : y_B_child.cls ≠ "java/lang/invoke/MethodHandle" ∧ y_B_child.cls ≠ "java/lang/invoke/VarHandle" ∧ (parseMethodDescriptor y_B_child.desc).map (fun d => d.parameters.length) = some 3 := by decide +kernel
abbrev b_T_childAt : ByteArray := prog_4_method_14_code
def y_T_childAt : MethodName := ⟨"BinTrees$Tree", "childAt", "(II)I"⟩
theorem hd_T_childAt : y_T_childAt.cls ≠ "java/lang/invoke/MethodHandle" ∧ y_T_childAt.cls ≠ "java/lang/invoke/VarHandle" ∧ (parseMethodDescriptor y_T_childAt.desc).map (fun d => d.parameters.length) = some 2 := by decide +kernel
abbrev b_B_row : ByteArray := prog_1_method_11_code
def y_B_row : MethodName := ⟨"BinTrees", "row", "(II)I"⟩
theorem hd_B_row : y_B_row.cls ≠ "java/lang/invoke/MethodHandle" ∧ y_B_row.cls ≠ "java/lang/invoke/VarHandle" ∧ (parseMethodDescriptor y_B_row.desc).map (fun d => d.parameters.length) = some 2 := by decide +kernel
abbrev b_B_judged : ByteArray := prog_1_method_12_code
def y_B_judged : MethodName := ⟨"BinTrees", "judged", "(II)I"⟩
theorem hd_B_judged : y_B_judged.cls ≠ "java/lang/invoke/MethodHandle" ∧ y_B_judged.cls ≠ "java/lang/invoke/VarHandle" ∧ (parseMethodDescriptor y_B_judged.desc).map (fun d => d.parameters.length) = some 2 := by decide +kernel
abbrev b_B_alike : ByteArray := prog_1_method_13_code
def y_B_alike : MethodName := ⟨"BinTrees", "alike", "(II)Z"⟩
theorem hd_B_alike : y_B_alike.cls ≠ "java/lang/invoke/MethodHandle" ∧ y_B_alike.cls ≠ "java/lang/invoke/VarHandle" ∧ (parseMethodDescriptor y_B_alike.desc).map (fun d => d.parameters.length) = some 2 := by decide +kernel
abbrev b_T_sameAs : ByteArray := prog_4_method_16_code
def y_T_sameAs : MethodName := ⟨"BinTrees$Tree", "sameAs", "(LBinTrees$Tree;)Z"⟩
theorem hd_T_sameAs : y_T_sameAs.cls ≠ "java/lang/invoke/MethodHandle" ∧ y_T_sameAs.cls ≠ "java/lang/invoke/VarHandle" ∧ (parseMethodDescriptor y_T_sameAs.desc).map (fun d => d.parameters.length) = some 1 := by decide +kernel
abbrev b_B_total : ByteArray := prog_1_method_14_code
def y_B_total : MethodName := ⟨"BinTrees", "total", "(I)I"⟩
theorem hd_B_total : y_B_total.cls ≠ "java/lang/invoke/MethodHandle" ∧ y_B_total.cls ≠ "java/lang/invoke/VarHandle" ∧ (parseMethodDescriptor y_B_total.desc).map (fun d => d.parameters.length) = some 1 := by decide +kernel
abbrev b_M_init : ByteArray := prog_6_method_1_code
def y_M_init : MethodName := ⟨"BinTreesModel", "<init>", "()V"⟩
theorem hd_M_init : y_M_init.cls ≠ "java/lang/invoke/MethodHandle" ∧ y_M_init.cls ≠ "java/lang/invoke/VarHandle" ∧ (parseMethodDescriptor y_M_init.desc).map (fun d => d.parameters.length) = some 0 := by decide +kernel
abbrev b_M_make : ByteArray := prog_6_method_25_code
def y_M_make : MethodName := ⟨"BinTreesModel", "make", "(I)I"⟩
theorem hd_M_make : y_M_make.cls ≠ "java/lang/invoke/MethodHandle" ∧ y_M_make.cls ≠ "java/lang/invoke/VarHandle" ∧ (parseMethodDescriptor y_M_make.desc).map (fun d => d.parameters.length) = some 1 := by decide +kernel
abbrev b_M_isNode : ByteArray := prog_6_method_24_code
def y_M_isNode : MethodName := ⟨"BinTreesModel", "isNode", "(I)Z"⟩
theorem hd_M_isNode : y_M_isNode.cls ≠ "java/lang/invoke/MethodHandle" ∧ y_M_isNode.cls ≠ "java/lang/invoke/VarHandle" ∧ (parseMethodDescriptor y_M_isNode.desc).map (fun d => d.parameters.length) = some 1 := by decide +kernel
abbrev b_M_within : ByteArray := prog_6_method_3_code
def y_M_within : MethodName := ⟨"BinTreesModel", "within", "(III)Z"⟩
theorem hd_M_within : y_M_within.cls ≠ "java/lang/invoke/MethodHandle" ∧ y_M_within.cls ≠ "java/lang/invoke/VarHandle" ∧ (parseMethodDescriptor y_M_within.desc).map (fun d => d.parameters.length) = some 3 := by decide +kernel
abbrev b_M_add : ByteArray := prog_6_method_23_code
def y_M_add : MethodName := ⟨"BinTreesModel", "add", "(IIIII)I"⟩
theorem hd_M_add : y_M_add.cls ≠ "java/lang/invoke/MethodHandle" ∧ y_M_add.cls ≠ "java/lang/invoke/VarHandle" ∧ (parseMethodDescriptor y_M_add.desc).map (fun d => d.parameters.length) = some 5 := by decide +kernel
abbrev b_M_learn : ByteArray := prog_6_method_22_code
def y_M_learn : MethodName := ⟨"BinTreesModel", "learn", "(II)V"⟩
theorem hd_M_learn : y_M_learn.cls ≠ "java/lang/invoke/MethodHandle" ∧ y_M_learn.cls ≠ "java/lang/invoke/VarHandle" ∧ (parseMethodDescriptor y_M_learn.desc).map (fun d => d.parameters.length) = some 2 := by decide +kernel
abbrev b_M_costOf : ByteArray := prog_6_method_21_code
def y_M_costOf : MethodName := ⟨"BinTreesModel", "costOf", "(II)I"⟩
theorem hd_M_costOf : y_M_costOf.cls ≠ "java/lang/invoke/MethodHandle" ∧ y_M_costOf.cls ≠ "java/lang/invoke/VarHandle" ∧ (parseMethodDescriptor y_M_costOf.desc).map (fun d => d.parameters.length) = some 2 := by decide +kernel
abbrev b_M_knowsRow : ByteArray := prog_6_method_4_code
def y_M_knowsRow : MethodName := ⟨"BinTreesModel", "knowsRow", "(II)Z"⟩
theorem hd_M_knowsRow : y_M_knowsRow.cls ≠ "java/lang/invoke/MethodHandle" ∧ y_M_knowsRow.cls ≠ "java/lang/invoke/VarHandle" ∧ (parseMethodDescriptor y_M_knowsRow.desc).map (fun d => d.parameters.length) = some 2 := by decide +kernel
abbrev b_M_isBefore : ByteArray := prog_6_method_5_code
def y_M_isBefore : MethodName := ⟨"BinTreesModel", "isBefore", "(II)Z"⟩
theorem hd_M_isBefore : y_M_isBefore.cls ≠ "java/lang/invoke/MethodHandle" ∧ y_M_isBefore.cls ≠ "java/lang/invoke/VarHandle" ∧ (parseMethodDescriptor y_M_isBefore.desc).map (fun d => d.parameters.length) = some 2 := by decide +kernel
abbrev b_M_move : ByteArray := prog_6_method_26_code
def y_M_move : MethodName := ⟨"BinTreesModel", "move", "(IIII)I"⟩
theorem hd_M_move : y_M_move.cls ≠ "java/lang/invoke/MethodHandle" ∧ y_M_move.cls ≠ "java/lang/invoke/VarHandle" ∧ (parseMethodDescriptor y_M_move.desc).map (fun d => d.parameters.length) = some 4 := by decide +kernel
abbrev b_M_remove : ByteArray := prog_6_method_27_code
def y_M_remove : MethodName := ⟨"BinTreesModel", "remove", "(IIZ)I"⟩
theorem hd_M_remove : y_M_remove.cls ≠ "java/lang/invoke/MethodHandle" ∧ y_M_remove.cls ≠ "java/lang/invoke/VarHandle" ∧ (parseMethodDescriptor y_M_remove.desc).map (fun d => d.parameters.length) = some 3 := by decide +kernel
abbrev b_M_undo : ByteArray := prog_6_method_28_code
def y_M_undo : MethodName := ⟨"BinTreesModel", "undo", "(II)I"⟩
theorem hd_M_undo : y_M_undo.cls ≠ "java/lang/invoke/MethodHandle" ∧ y_M_undo.cls ≠ "java/lang/invoke/VarHandle" ∧ (parseMethodDescriptor y_M_undo.desc).map (fun d => d.parameters.length) = some 2 := by decide +kernel
abbrev b_M_isUndone : ByteArray := prog_6_method_6_code
def y_M_isUndone : MethodName := ⟨"BinTreesModel", "isUndone", "(II)Z"⟩
theorem hd_M_isUndone : y_M_isUndone.cls ≠ "java/lang/invoke/MethodHandle" ∧ y_M_isUndone.cls ≠ "java/lang/invoke/VarHandle" ∧ (parseMethodDescriptor y_M_isUndone.desc).map (fun d => d.parameters.length) = some 2 := by decide +kernel
abbrev b_M_see : ByteArray := prog_6_method_29_code
def y_M_see : MethodName := ⟨"BinTreesModel", "see", "(II)I"⟩
theorem hd_M_see : y_M_see.cls ≠ "java/lang/invoke/MethodHandle" ∧ y_M_see.cls ≠ "java/lang/invoke/VarHandle" ∧ (parseMethodDescriptor y_M_see.desc).map (fun d => d.parameters.length) = some 2 := by decide +kernel
abbrev b_M_meet : ByteArray := prog_6_method_30_code
def y_M_meet : MethodName := ⟨"BinTreesModel", "meet", "(II)I"⟩
theorem hd_M_meet : y_M_meet.cls ≠ "java/lang/invoke/MethodHandle" ∧ y_M_meet.cls ≠ "java/lang/invoke/VarHandle" ∧ (parseMethodDescriptor y_M_meet.desc).map (fun d => d.parameters.length) = some 2 := by decide +kernel
abbrev b_M_findOrder : ByteArray := prog_6_method_7_code
def y_M_findOrder : MethodName := ⟨"BinTreesModel", "findOrder", "(I)V"⟩
theorem hd_M_findOrder : y_M_findOrder.cls ≠ "java/lang/invoke/MethodHandle" ∧ y_M_findOrder.cls ≠ "java/lang/invoke/VarHandle" ∧ (parseMethodDescriptor y_M_findOrder.desc).map (fun d => d.parameters.length) = some 1 := by decide +kernel
abbrev b_M_cost : ByteArray := prog_6_method_31_code
def y_M_cost : MethodName := ⟨"BinTreesModel", "cost", "(I)I"⟩
theorem hd_M_cost : y_M_cost.cls ≠ "java/lang/invoke/MethodHandle" ∧ y_M_cost.cls ≠ "java/lang/invoke/VarHandle" ∧ (parseMethodDescriptor y_M_cost.desc).map (fun d => d.parameters.length) = some 1 := by decide +kernel
abbrev b_M_object : ByteArray := prog_6_method_34_code
def y_M_object : MethodName := ⟨"BinTreesModel", "object", "(III)I"⟩
theorem hd_M_object : y_M_object.cls ≠ "java/lang/invoke/MethodHandle" ∧ y_M_object.cls ≠ "java/lang/invoke/VarHandle" ∧ (parseMethodDescriptor y_M_object.desc).map (fun d => d.parameters.length) = some 3 := by decide +kernel
abbrev b_M_isIn : ByteArray := prog_6_method_32_code
def y_M_isIn : MethodName := ⟨"BinTreesModel", "isIn", "(II)Z"⟩
theorem hd_M_isIn : y_M_isIn.cls ≠ "java/lang/invoke/MethodHandle" ∧ y_M_isIn.cls ≠ "java/lang/invoke/VarHandle" ∧ (parseMethodDescriptor y_M_isIn.desc).map (fun d => d.parameters.length) = some 2 := by decide +kernel
abbrev b_M_build : ByteArray := prog_6_method_20_code
def y_M_build : MethodName := ⟨"BinTreesModel", "build", "(I)V"⟩
theorem hd_M_build : y_M_build.cls ≠ "java/lang/invoke/MethodHandle" ∧ y_M_build.cls ≠ "java/lang/invoke/VarHandle" ∧ (parseMethodDescriptor y_M_build.desc).map (fun d => d.parameters.length) = some 1 := by decide +kernel
abbrev b_M_doRow : ByteArray := prog_6_method_19_code
def y_M_doRow : MethodName := ⟨"BinTreesModel", "doRow", "(I)Z"⟩
theorem hd_M_doRow : y_M_doRow.cls ≠ "java/lang/invoke/MethodHandle" ∧ y_M_doRow.cls ≠ "java/lang/invoke/VarHandle" ∧ (parseMethodDescriptor y_M_doRow.desc).map (fun d => d.parameters.length) = some 1 := by decide +kernel
abbrev b_M_putAt : ByteArray := prog_6_method_9_code
def y_M_putAt : MethodName := ⟨"BinTreesModel", "putAt", "(III)V"⟩
theorem hd_M_putAt : y_M_putAt.cls ≠ "java/lang/invoke/MethodHandle" ∧ y_M_putAt.cls ≠ "java/lang/invoke/VarHandle" ∧ (parseMethodDescriptor y_M_putAt.desc).map (fun d => d.parameters.length) = some 3 := by decide +kernel
abbrev b_M_doMove : ByteArray := prog_6_method_16_code
def y_M_doMove : MethodName := ⟨"BinTreesModel", "doMove", "(I)Z"⟩
theorem hd_M_doMove : y_M_doMove.cls ≠ "java/lang/invoke/MethodHandle" ∧ y_M_doMove.cls ≠ "java/lang/invoke/VarHandle" ∧ (parseMethodDescriptor y_M_doMove.desc).map (fun d => d.parameters.length) = some 1 := by decide +kernel
abbrev b_M_mayGo : ByteArray := prog_6_method_14_code
def y_M_mayGo : MethodName := ⟨"BinTreesModel", "mayGo", "(II)Z"⟩
theorem hd_M_mayGo : y_M_mayGo.cls ≠ "java/lang/invoke/MethodHandle" ∧ y_M_mayGo.cls ≠ "java/lang/invoke/VarHandle" ∧ (parseMethodDescriptor y_M_mayGo.desc).map (fun d => d.parameters.length) = some 2 := by decide +kernel
abbrev b_M_isBelow : ByteArray := prog_6_method_12_code
def y_M_isBelow : MethodName := ⟨"BinTreesModel", "isBelow", "(II)Z"⟩
theorem hd_M_isBelow : y_M_isBelow.cls ≠ "java/lang/invoke/MethodHandle" ∧ y_M_isBelow.cls ≠ "java/lang/invoke/VarHandle" ∧ (parseMethodDescriptor y_M_isBelow.desc).map (fun d => d.parameters.length) = some 2 := by decide +kernel
abbrev b_M_top : ByteArray := prog_6_method_11_code
def y_M_top : MethodName := ⟨"BinTreesModel", "top", "(I)I"⟩
theorem hd_M_top : y_M_top.cls ≠ "java/lang/invoke/MethodHandle" ∧ y_M_top.cls ≠ "java/lang/invoke/VarHandle" ∧ (parseMethodDescriptor y_M_top.desc).map (fun d => d.parameters.length) = some 1 := by decide +kernel
abbrev b_M_depth : ByteArray := prog_6_method_10_code
def y_M_depth : MethodName := ⟨"BinTreesModel", "depth", "(I)I"⟩
theorem hd_M_depth : y_M_depth.cls ≠ "java/lang/invoke/MethodHandle" ∧ y_M_depth.cls ≠ "java/lang/invoke/VarHandle" ∧ (parseMethodDescriptor y_M_depth.desc).map (fun d => d.parameters.length) = some 1 := by decide +kernel
abbrev b_M_height : ByteArray := prog_6_method_13_code
def y_M_height : MethodName := ⟨"BinTreesModel", "height", "(I)I"⟩
theorem hd_M_height : y_M_height.cls ≠ "java/lang/invoke/MethodHandle" ∧ y_M_height.cls ≠ "java/lang/invoke/VarHandle" ∧ (parseMethodDescriptor y_M_height.desc).map (fun d => d.parameters.length) = some 1 := by decide +kernel
abbrev b_M_takeOut : ByteArray := prog_6_method_8_code
def y_M_takeOut : MethodName := ⟨"BinTreesModel", "takeOut", "(I)V"⟩
theorem hd_M_takeOut : y_M_takeOut.cls ≠ "java/lang/invoke/MethodHandle" ∧ y_M_takeOut.cls ≠ "java/lang/invoke/VarHandle" ∧ (parseMethodDescriptor y_M_takeOut.desc).map (fun d => d.parameters.length) = some 1 := by decide +kernel
abbrev b_M_placeOf : ByteArray := prog_6_method_15_code
def y_M_placeOf : MethodName := ⟨"BinTreesModel", "placeOf", "(II)I"⟩
theorem hd_M_placeOf : y_M_placeOf.cls ≠ "java/lang/invoke/MethodHandle" ∧ y_M_placeOf.cls ≠ "java/lang/invoke/VarHandle" ∧ (parseMethodDescriptor y_M_placeOf.desc).map (fun d => d.parameters.length) = some 2 := by decide +kernel
abbrev b_M_doRemove : ByteArray := prog_6_method_17_code
def y_M_doRemove : MethodName := ⟨"BinTreesModel", "doRemove", "(I)Z"⟩
theorem hd_M_doRemove : y_M_doRemove.cls ≠ "java/lang/invoke/MethodHandle" ∧ y_M_doRemove.cls ≠ "java/lang/invoke/VarHandle" ∧ (parseMethodDescriptor y_M_doRemove.desc).map (fun d => d.parameters.length) = some 1 := by decide +kernel
abbrev b_M_doRestore : ByteArray := prog_6_method_18_code
def y_M_doRestore : MethodName := ⟨"BinTreesModel", "doRestore", "(I)Z"⟩
theorem hd_M_doRestore : y_M_doRestore.cls ≠ "java/lang/invoke/MethodHandle" ∧ y_M_doRestore.cls ≠ "java/lang/invoke/VarHandle" ∧ (parseMethodDescriptor y_M_doRestore.desc).map (fun d => d.parameters.length) = some 1 := by decide +kernel
abbrev b_M_parentOf : ByteArray := prog_6_method_33_code
def y_M_parentOf : MethodName := ⟨"BinTreesModel", "parentOf", "(I)I"⟩
theorem hd_M_parentOf : y_M_parentOf.cls ≠ "java/lang/invoke/MethodHandle" ∧ y_M_parentOf.cls ≠ "java/lang/invoke/VarHandle" ∧ (parseMethodDescriptor y_M_parentOf.desc).map (fun d => d.parameters.length) = some 1 := by decide +kernel
abbrev b_M_child : ByteArray := prog_6_method_35_code
def y_M_child : MethodName := ⟨"BinTreesModel", "child", "(III)I"⟩
theorem hd_M_child : y_M_child.cls ≠ "java/lang/invoke/MethodHandle" ∧ y_M_child.cls ≠ "java/lang/invoke/VarHandle" ∧ (parseMethodDescriptor y_M_child.desc).map (fun d => d.parameters.length) = some 3 := by decide +kernel
abbrev b_M_row : ByteArray := prog_6_method_36_code
def y_M_row : MethodName := ⟨"BinTreesModel", "row", "(II)I"⟩
theorem hd_M_row : y_M_row.cls ≠ "java/lang/invoke/MethodHandle" ∧ y_M_row.cls ≠ "java/lang/invoke/VarHandle" ∧ (parseMethodDescriptor y_M_row.desc).map (fun d => d.parameters.length) = some 2 := by decide +kernel
abbrev b_M_judged : ByteArray := prog_6_method_37_code
def y_M_judged : MethodName := ⟨"BinTreesModel", "judged", "(II)I"⟩
theorem hd_M_judged : y_M_judged.cls ≠ "java/lang/invoke/MethodHandle" ∧ y_M_judged.cls ≠ "java/lang/invoke/VarHandle" ∧ (parseMethodDescriptor y_M_judged.desc).map (fun d => d.parameters.length) = some 2 := by decide +kernel
abbrev b_M_alike : ByteArray := prog_6_method_38_code
def y_M_alike : MethodName := ⟨"BinTreesModel", "alike", "(II)Z"⟩
theorem hd_M_alike : y_M_alike.cls ≠ "java/lang/invoke/MethodHandle" ∧ y_M_alike.cls ≠ "java/lang/invoke/VarHandle" ∧ (parseMethodDescriptor y_M_alike.desc).map (fun d => d.parameters.length) = some 2 := by decide +kernel
abbrev b_M_total : ByteArray := prog_6_method_42_code
def y_M_total : MethodName := ⟨"BinTreesModel", "total", "(I)I"⟩
theorem hd_M_total : y_M_total.cls ≠ "java/lang/invoke/MethodHandle" ∧ y_M_total.cls ≠ "java/lang/invoke/VarHandle" ∧ (parseMethodDescriptor y_M_total.desc).map (fun d => d.parameters.length) = some 1 := by decide +kernel
abbrev b_M_knownRows : ByteArray := prog_6_method_39_code
def y_M_knownRows : MethodName := ⟨"BinTreesModel", "knownRows", "(I)I"⟩
theorem hd_M_knownRows : y_M_knownRows.cls ≠ "java/lang/invoke/MethodHandle" ∧ y_M_knownRows.cls ≠ "java/lang/invoke/VarHandle" ∧ (parseMethodDescriptor y_M_knownRows.desc).map (fun d => d.parameters.length) = some 1 := by decide +kernel
abbrev b_M_thereOf : ByteArray := prog_6_method_40_code
def y_M_thereOf : MethodName := ⟨"BinTreesModel", "thereOf", "(I)I"⟩
theorem hd_M_thereOf : y_M_thereOf.cls ≠ "java/lang/invoke/MethodHandle" ∧ y_M_thereOf.cls ≠ "java/lang/invoke/VarHandle" ∧ (parseMethodDescriptor y_M_thereOf.desc).map (fun d => d.parameters.length) = some 1 := by decide +kernel
abbrev b_M_binOf : ByteArray := prog_6_method_41_code
def y_M_binOf : MethodName := ⟨"BinTreesModel", "binOf", "(I)I"⟩
theorem hd_M_binOf : y_M_binOf.cls ≠ "java/lang/invoke/MethodHandle" ∧ y_M_binOf.cls ≠ "java/lang/invoke/VarHandle" ∧ (parseMethodDescriptor y_M_binOf.desc).map (fun d => d.parameters.length) = some 1 := by decide +kernel
theorem kw_0 : (Jvm.Cond.initialized "BinTreesLaw") ∈ vz_tbl := vz_in (List.mem_append_right _ (List.mem_append_left _ (List.mem_of_getElem? (i := 0) rfl))) rfl
theorem kw_1 : (Jvm.Cond.initialized "BinTrees") ∈ vz_tbl := vz_in (List.mem_append_right _ (List.mem_append_left _ (List.mem_of_getElem? (i := 1) rfl))) rfl
theorem kw_2 : (Jvm.Cond.initialized "BinTrees$Log") ∈ vz_tbl := vz_in (List.mem_append_right _ (List.mem_append_left _ (List.mem_of_getElem? (i := 2) rfl))) rfl
theorem kw_3 : (Jvm.Cond.initialized "BinTrees$Person") ∈ vz_tbl := vz_in (List.mem_append_right _ (List.mem_append_left _ (List.mem_of_getElem? (i := 3) rfl))) rfl
theorem kw_4 : (Jvm.Cond.initialized "BinTrees$Tree") ∈ vz_tbl := vz_in (List.mem_append_right _ (List.mem_append_left _ (List.mem_of_getElem? (i := 4) rfl))) rfl
theorem kw_5 : (Jvm.Cond.initialized "BinTreesModel") ∈ vz_tbl := vz_in (List.mem_append_right _ (List.mem_append_left _ (List.mem_of_getElem? (i := 5) rfl))) rfl
theorem kw_6 : (Jvm.Cond.initialized "java/lang/Math") ∈ vz_tbl := vz_in (List.mem_append_right _ (List.mem_append_left _ (List.mem_of_getElem? (i := 6) rfl))) rfl
theorem kw_7 : (Jvm.Cond.classLink "BinTreesLaw" (7 : Nat) "BinTrees") ∈ vz_tbl := vz_in (List.mem_append_right _ (List.mem_append_left _ (List.mem_of_getElem? (i := 7) rfl))) rfl
theorem kw_8 : (Jvm.Cond.instantiable "BinTrees" (2 : Nat)) ∈ vz_tbl := vz_in (List.mem_append_right _ (List.mem_append_left _ (List.mem_of_getElem? (i := 8) rfl))) rfl
theorem kw_9 : (Jvm.Cond.methodLink "BinTreesLaw" (9 : Nat) ({ cls := "BinTrees", name := "<init>", desc := "()V" } : Jvm.MethodName)) ∈ vz_tbl := vz_in (List.mem_append_right _ (List.mem_append_left _ (List.mem_of_getElem? (i := 9) rfl))) rfl
theorem kw_10 : (Jvm.Cond.instanceMethod ({ cls := "BinTrees", name := "<init>", desc := "()V" } : Jvm.MethodName)) ∈ vz_tbl := vz_in (List.mem_append_right _ (List.mem_append_left _ (List.mem_of_getElem? (i := 10) rfl))) rfl
theorem kw_11 : (Jvm.Cond.code ({ cls := "BinTrees", name := "<init>", desc := "()V" } : Jvm.MethodName) prog_1_method_1_code (2 : Nat) (Option.none : Option Jvm.ClassFile.FieldType)) ∈ vz_tbl := vz_in (List.mem_append_right _ (List.mem_append_left _ (List.mem_of_getElem? (i := 11) rfl))) rfl
theorem kw_12 : (Jvm.Cond.methodLink "BinTrees" (1 : Nat) ({ cls := "java/lang/Object", name := "<init>", desc := "()V" } : Jvm.MethodName)) ∈ vz_tbl := vz_in (List.mem_append_right _ (List.mem_append_left _ (List.mem_of_getElem? (i := 12) rfl))) rfl
theorem kw_13 : (Jvm.Cond.instanceMethod ({ cls := "java/lang/Object", name := "<init>", desc := "()V" } : Jvm.MethodName)) ∈ vz_tbl := vz_in (List.mem_append_right _ (List.mem_append_left _ (List.mem_of_getElem? (i := 13) rfl))) rfl
theorem kw_14 : (Jvm.Cond.code ({ cls := "java/lang/Object", name := "<init>", desc := "()V" } : Jvm.MethodName) object_method_1_code (1 : Nat) (Option.none : Option Jvm.ClassFile.FieldType)) ∈ vz_tbl := vz_in (List.mem_append_right _ (List.mem_append_left _ (List.mem_of_getElem? (i := 14) rfl))) rfl
theorem kw_15 : (Jvm.Cond.classLink "BinTrees" (7 : Nat) "BinTrees$Log") ∈ vz_tbl := vz_in (List.mem_append_right _ (List.mem_append_left _ (List.mem_of_getElem? (i := 15) rfl))) rfl
theorem kw_16 : (Jvm.Cond.instantiable "BinTrees$Log" (10 : Nat)) ∈ vz_tbl := vz_in (List.mem_append_right _ (List.mem_append_left _ (List.mem_of_getElem? (i := 16) rfl))) rfl
theorem kw_17 : (Jvm.Cond.methodLinkNest "BinTrees" (9 : Nat) ({ cls := "BinTrees$Log", name := "<init>", desc := "()V" } : Jvm.MethodName) "BinTrees") ∈ lw_tbl := List.mem_append_right _ (List.mem_append_left _ (List.mem_of_getElem? (i := 17) rfl))
theorem kw_18 : (Jvm.Cond.instanceMethod ({ cls := "BinTrees$Log", name := "<init>", desc := "()V" } : Jvm.MethodName)) ∈ vz_tbl := vz_in (List.mem_append_right _ (List.mem_append_left _ (List.mem_of_getElem? (i := 18) rfl))) rfl
theorem kw_19 : (Jvm.Cond.code ({ cls := "BinTrees$Log", name := "<init>", desc := "()V" } : Jvm.MethodName) prog_2_method_1_code (1 : Nat) (Option.none : Option Jvm.ClassFile.FieldType)) ∈ vz_tbl := vz_in (List.mem_append_right _ (List.mem_append_left _ (List.mem_of_getElem? (i := 19) rfl))) rfl
theorem kw_20 : (Jvm.Cond.methodLink "BinTrees$Log" (3 : Nat) ({ cls := "java/lang/Object", name := "<init>", desc := "()V" } : Jvm.MethodName)) ∈ vz_tbl := vz_in (List.mem_append_right _ (List.mem_append_left _ (List.mem_of_getElem? (i := 20) rfl))) rfl
theorem kw_21 : (Jvm.Cond.fieldLink "BinTrees$Log" (9 : Nat) "BinTrees$Log" "sort" "[I") ∈ vz_tbl := vz_in (List.mem_append_right _ (List.mem_append_left _ (List.mem_of_getElem? (i := 21) rfl))) rfl
theorem kw_22 : (Jvm.Cond.fieldLink "BinTrees$Person" (39 : Nat) "BinTrees$Log" "sort" "[I") ∈ vz_tbl := vz_in (List.mem_append_right _ (List.mem_append_left _ (List.mem_of_getElem? (i := 22) rfl))) rfl
theorem kw_23 : (Jvm.Cond.fieldLink "BinTrees" (111 : Nat) "BinTrees$Log" "sort" "[I") ∈ vz_tbl := vz_in (List.mem_append_right _ (List.mem_append_left _ (List.mem_of_getElem? (i := 23) rfl))) rfl
theorem kw_24 : (Jvm.Cond.fieldLink "BinTrees$Log" (15 : Nat) "BinTrees$Log" "node" "[I") ∈ vz_tbl := vz_in (List.mem_append_right _ (List.mem_append_left _ (List.mem_of_getElem? (i := 24) rfl))) rfl
theorem kw_25 : (Jvm.Cond.fieldLink "BinTrees" (114 : Nat) "BinTrees$Log" "node" "[I") ∈ vz_tbl := vz_in (List.mem_append_right _ (List.mem_append_left _ (List.mem_of_getElem? (i := 25) rfl))) rfl
theorem kw_26 : (Jvm.Cond.fieldLink "BinTrees$Log" (18 : Nat) "BinTrees$Log" "time" "[I") ∈ vz_tbl := vz_in (List.mem_append_right _ (List.mem_append_left _ (List.mem_of_getElem? (i := 26) rfl))) rfl
theorem kw_27 : (Jvm.Cond.fieldLink "BinTrees$Person" (29 : Nat) "BinTrees$Log" "time" "[I") ∈ vz_tbl := vz_in (List.mem_append_right _ (List.mem_append_left _ (List.mem_of_getElem? (i := 27) rfl))) rfl
theorem kw_28 : (Jvm.Cond.fieldLink "BinTrees" (117 : Nat) "BinTrees$Log" "time" "[I") ∈ vz_tbl := vz_in (List.mem_append_right _ (List.mem_append_left _ (List.mem_of_getElem? (i := 28) rfl))) rfl
theorem kw_29 : (Jvm.Cond.fieldLink "BinTrees$Log" (21 : Nat) "BinTrees$Log" "subject" "[I") ∈ vz_tbl := vz_in (List.mem_append_right _ (List.mem_append_left _ (List.mem_of_getElem? (i := 29) rfl))) rfl
theorem kw_30 : (Jvm.Cond.fieldLink "BinTrees$Person" (42 : Nat) "BinTrees$Log" "subject" "[I") ∈ vz_tbl := vz_in (List.mem_append_right _ (List.mem_append_left _ (List.mem_of_getElem? (i := 30) rfl))) rfl
theorem kw_31 : (Jvm.Cond.fieldLink "BinTrees" (119 : Nat) "BinTrees$Log" "subject" "[I") ∈ vz_tbl := vz_in (List.mem_append_right _ (List.mem_append_left _ (List.mem_of_getElem? (i := 31) rfl))) rfl
theorem kw_32 : (Jvm.Cond.fieldLink "BinTrees$Log" (24 : Nat) "BinTrees$Log" "parent" "[I") ∈ vz_tbl := vz_in (List.mem_append_right _ (List.mem_append_left _ (List.mem_of_getElem? (i := 32) rfl))) rfl
theorem kw_33 : (Jvm.Cond.fieldLink "BinTrees$Person" (76 : Nat) "BinTrees$Log" "parent" "[I") ∈ vz_tbl := vz_in (List.mem_append_right _ (List.mem_append_left _ (List.mem_of_getElem? (i := 33) rfl))) rfl
theorem kw_34 : (Jvm.Cond.fieldLink "BinTrees" (122 : Nat) "BinTrees$Log" "parent" "[I") ∈ vz_tbl := vz_in (List.mem_append_right _ (List.mem_append_left _ (List.mem_of_getElem? (i := 34) rfl))) rfl
theorem kw_35 : (Jvm.Cond.fieldLink "BinTrees$Log" (27 : Nat) "BinTrees$Log" "behind" "[I") ∈ vz_tbl := vz_in (List.mem_append_right _ (List.mem_append_left _ (List.mem_of_getElem? (i := 35) rfl))) rfl
theorem kw_36 : (Jvm.Cond.fieldLink "BinTrees$Person" (79 : Nat) "BinTrees$Log" "behind" "[I") ∈ vz_tbl := vz_in (List.mem_append_right _ (List.mem_append_left _ (List.mem_of_getElem? (i := 36) rfl))) rfl
theorem kw_37 : (Jvm.Cond.fieldLink "BinTrees" (123 : Nat) "BinTrees$Log" "behind" "[I") ∈ vz_tbl := vz_in (List.mem_append_right _ (List.mem_append_left _ (List.mem_of_getElem? (i := 37) rfl))) rfl
theorem kw_38 : (Jvm.Cond.fieldLink "BinTrees$Log" (30 : Nat) "BinTrees$Log" "undoing" "[I") ∈ vz_tbl := vz_in (List.mem_append_right _ (List.mem_append_left _ (List.mem_of_getElem? (i := 38) rfl))) rfl
theorem kw_39 : (Jvm.Cond.fieldLink "BinTrees$Person" (69 : Nat) "BinTrees$Log" "undoing" "[I") ∈ vz_tbl := vz_in (List.mem_append_right _ (List.mem_append_left _ (List.mem_of_getElem? (i := 39) rfl))) rfl
theorem kw_40 : (Jvm.Cond.fieldLink "BinTrees$Log" (33 : Nat) "BinTrees$Log" "ordered" "[I") ∈ vz_tbl := vz_in (List.mem_append_right _ (List.mem_append_left _ (List.mem_of_getElem? (i := 40) rfl))) rfl
theorem kw_41 : (Jvm.Cond.fieldLink "BinTrees$Person" (59 : Nat) "BinTrees$Log" "ordered" "[I") ∈ vz_tbl := vz_in (List.mem_append_right _ (List.mem_append_left _ (List.mem_of_getElem? (i := 41) rfl))) rfl
theorem kw_42 : (Jvm.Cond.fieldLink "BinTrees" (67 : Nat) "BinTrees$Log" "ordered" "[I") ∈ vz_tbl := vz_in (List.mem_append_right _ (List.mem_append_left _ (List.mem_of_getElem? (i := 42) rfl))) rfl
theorem kw_43 : (Jvm.Cond.fieldLink "BinTrees$Log" (36 : Nat) "BinTrees$Log" "count" "I") ∈ vz_tbl := vz_in (List.mem_append_right _ (List.mem_append_left _ (List.mem_of_getElem? (i := 43) rfl))) rfl
theorem kw_44 : (Jvm.Cond.fieldLink "BinTrees$Person" (56 : Nat) "BinTrees$Log" "count" "I") ∈ vz_tbl := vz_in (List.mem_append_right _ (List.mem_append_left _ (List.mem_of_getElem? (i := 44) rfl))) rfl
theorem kw_45 : (Jvm.Cond.fieldLink "BinTrees" (64 : Nat) "BinTrees$Log" "count" "I") ∈ vz_tbl := vz_in (List.mem_append_right _ (List.mem_append_left _ (List.mem_of_getElem? (i := 45) rfl))) rfl
theorem kw_46 : (Jvm.Cond.fieldLink "BinTrees" (27 : Nat) "BinTrees$Log" "made" "I") ∈ vz_tbl := vz_in (List.mem_append_right _ (List.mem_append_left _ (List.mem_of_getElem? (i := 46) rfl))) rfl
theorem kw_68 : (Jvm.Cond.arrayClass Jvm.ClassFile.FieldType.int) ∈ vz_tbl := vz_in (List.mem_append_right _ (List.mem_append_left _ (List.mem_of_getElem? (i := 68) rfl))) rfl
theorem kw_69 : (Jvm.Cond.classLink "BinTrees" (16 : Nat) "BinTrees$Person") ∈ vz_tbl := vz_in (List.mem_append_right _ (List.mem_append_left _ (List.mem_of_getElem? (i := 69) rfl))) rfl
theorem kw_70 : (Jvm.Cond.arrayOver (Jvm.ClassFile.FieldType.object "BinTrees$Person")) ∈ lw_tbl := List.mem_append_right _ (List.mem_append_left _ (List.mem_of_getElem? (i := 70) rfl))
theorem kw_71 : (Jvm.Cond.instantiable "BinTrees$Person" (5 : Nat)) ∈ vz_tbl := vz_in (List.mem_append_right _ (List.mem_append_left _ (List.mem_of_getElem? (i := 71) rfl))) rfl
theorem kw_72 : (Jvm.Cond.methodLinkNest "BinTrees" (22 : Nat) ({ cls := "BinTrees$Person", name := "<init>", desc := "()V" } : Jvm.MethodName) "BinTrees") ∈ lw_tbl := List.mem_append_right _ (List.mem_append_left _ (List.mem_of_getElem? (i := 72) rfl))
theorem kw_73 : (Jvm.Cond.instanceMethod ({ cls := "BinTrees$Person", name := "<init>", desc := "()V" } : Jvm.MethodName)) ∈ vz_tbl := vz_in (List.mem_append_right _ (List.mem_append_left _ (List.mem_of_getElem? (i := 73) rfl))) rfl
theorem kw_74 : (Jvm.Cond.code ({ cls := "BinTrees$Person", name := "<init>", desc := "()V" } : Jvm.MethodName) prog_3_method_1_code (1 : Nat) (Option.none : Option Jvm.ClassFile.FieldType)) ∈ vz_tbl := vz_in (List.mem_append_right _ (List.mem_append_left _ (List.mem_of_getElem? (i := 74) rfl))) rfl
theorem kw_75 : (Jvm.Cond.methodLink "BinTrees$Person" (3 : Nat) ({ cls := "java/lang/Object", name := "<init>", desc := "()V" } : Jvm.MethodName)) ∈ vz_tbl := vz_in (List.mem_append_right _ (List.mem_append_left _ (List.mem_of_getElem? (i := 75) rfl))) rfl
theorem kw_76 : (Jvm.Cond.classLink "BinTrees$Person" (15 : Nat) "BinTrees$Tree") ∈ vz_tbl := vz_in (List.mem_append_right _ (List.mem_append_left _ (List.mem_of_getElem? (i := 76) rfl))) rfl
theorem kw_77 : (Jvm.Cond.instantiable "BinTrees$Tree" (5 : Nat)) ∈ vz_tbl := vz_in (List.mem_append_right _ (List.mem_append_left _ (List.mem_of_getElem? (i := 77) rfl))) rfl
theorem kw_78 : (Jvm.Cond.methodLink "BinTrees$Person" (17 : Nat) ({ cls := "BinTrees$Tree", name := "<init>", desc := "()V" } : Jvm.MethodName)) ∈ vz_tbl := vz_in (List.mem_append_right _ (List.mem_append_left _ (List.mem_of_getElem? (i := 78) rfl))) rfl
theorem kw_79 : (Jvm.Cond.instanceMethod ({ cls := "BinTrees$Tree", name := "<init>", desc := "()V" } : Jvm.MethodName)) ∈ vz_tbl := vz_in (List.mem_append_right _ (List.mem_append_left _ (List.mem_of_getElem? (i := 79) rfl))) rfl
theorem kw_80 : (Jvm.Cond.code ({ cls := "BinTrees$Tree", name := "<init>", desc := "()V" } : Jvm.MethodName) prog_4_method_1_code (1 : Nat) (Option.none : Option Jvm.ClassFile.FieldType)) ∈ vz_tbl := vz_in (List.mem_append_right _ (List.mem_append_left _ (List.mem_of_getElem? (i := 80) rfl))) rfl
theorem kw_81 : (Jvm.Cond.methodLink "BinTrees$Tree" (3 : Nat) ({ cls := "java/lang/Object", name := "<init>", desc := "()V" } : Jvm.MethodName)) ∈ vz_tbl := vz_in (List.mem_append_right _ (List.mem_append_left _ (List.mem_of_getElem? (i := 81) rfl))) rfl
theorem kw_82 : (Jvm.Cond.methodLink "BinTrees$Tree" (25 : Nat) ({ cls := "BinTrees$Tree", name := "startAnew", desc := "()V" } : Jvm.MethodName)) ∈ vz_tbl := vz_in (List.mem_append_right _ (List.mem_append_left _ (List.mem_of_getElem? (i := 82) rfl))) rfl
theorem kw_83 : (Jvm.Cond.instanceMethod ({ cls := "BinTrees$Tree", name := "startAnew", desc := "()V" } : Jvm.MethodName)) ∈ vz_tbl := vz_in (List.mem_append_right _ (List.mem_append_left _ (List.mem_of_getElem? (i := 83) rfl))) rfl
theorem kw_84 : (Jvm.Cond.selects "BinTrees$Tree" ({ cls := "BinTrees$Tree", name := "startAnew", desc := "()V" } : Jvm.MethodName) ({ cls := "BinTrees$Tree", name := "startAnew", desc := "()V" } : Jvm.MethodName)) ∈ vz_tbl := vz_in (List.mem_append_right _ (List.mem_append_left _ (List.mem_of_getElem? (i := 84) rfl))) rfl
theorem kw_85 : (Jvm.Cond.code ({ cls := "BinTrees$Tree", name := "startAnew", desc := "()V" } : Jvm.MethodName) prog_4_method_2_code (2 : Nat) (Option.none : Option Jvm.ClassFile.FieldType)) ∈ vz_tbl := vz_in (List.mem_append_right _ (List.mem_append_left _ (List.mem_of_getElem? (i := 85) rfl))) rfl
theorem kw_86 : (Jvm.Cond.fieldLink "BinTrees$Tree" (9 : Nat) "BinTrees$Tree" "there" "[Z") ∈ vz_tbl := vz_in (List.mem_append_right _ (List.mem_append_left _ (List.mem_of_getElem? (i := 86) rfl))) rfl
theorem kw_87 : (Jvm.Cond.fieldLink "BinTrees" (83 : Nat) "BinTrees$Tree" "there" "[Z") ∈ vz_tbl := vz_in (List.mem_append_right _ (List.mem_append_left _ (List.mem_of_getElem? (i := 87) rfl))) rfl
theorem kw_88 : (Jvm.Cond.fieldLink "BinTrees$Tree" (15 : Nat) "BinTrees$Tree" "parent" "[I") ∈ vz_tbl := vz_in (List.mem_append_right _ (List.mem_append_left _ (List.mem_of_getElem? (i := 88) rfl))) rfl
theorem kw_89 : (Jvm.Cond.fieldLink "BinTrees" (89 : Nat) "BinTrees$Tree" "parent" "[I") ∈ vz_tbl := vz_in (List.mem_append_right _ (List.mem_append_left _ (List.mem_of_getElem? (i := 89) rfl))) rfl
theorem kw_90 : (Jvm.Cond.fieldLink "BinTrees$Tree" (19 : Nat) "BinTrees$Tree" "wasLast" "[I") ∈ vz_tbl := vz_in (List.mem_append_right _ (List.mem_append_left _ (List.mem_of_getElem? (i := 90) rfl))) rfl
theorem kw_91 : (Jvm.Cond.fieldLink "BinTrees" (105 : Nat) "BinTrees$Tree" "wasLast" "[I") ∈ vz_tbl := vz_in (List.mem_append_right _ (List.mem_append_left _ (List.mem_of_getElem? (i := 91) rfl))) rfl
theorem kw_92 : (Jvm.Cond.fieldLink "BinTrees$Tree" (22 : Nat) "BinTrees$Tree" "line" "[I") ∈ vz_tbl := vz_in (List.mem_append_right _ (List.mem_append_left _ (List.mem_of_getElem? (i := 92) rfl))) rfl
theorem kw_93 : (Jvm.Cond.fieldLink "BinTrees$Tree" (28 : Nat) "BinTrees$Tree" "size" "I") ∈ vz_tbl := vz_in (List.mem_append_right _ (List.mem_append_left _ (List.mem_of_getElem? (i := 93) rfl))) rfl
theorem kw_94 : (Jvm.Cond.fieldLink "BinTrees" (136 : Nat) "BinTrees$Tree" "size" "I") ∈ vz_tbl := vz_in (List.mem_append_right _ (List.mem_append_left _ (List.mem_of_getElem? (i := 94) rfl))) rfl
theorem kw_106 : (Jvm.Cond.arrayClass Jvm.ClassFile.FieldType.boolean) ∈ vz_tbl := vz_in (List.mem_append_right _ (List.mem_append_left _ (List.mem_of_getElem? (i := 106) rfl))) rfl
theorem kw_107 : (Jvm.Cond.fieldLink "BinTrees$Person" (9 : Nat) "BinTrees$Person" "takes" "[I") ∈ vz_tbl := vz_in (List.mem_append_right _ (List.mem_append_left _ (List.mem_of_getElem? (i := 107) rfl))) rfl
theorem kw_108 : (Jvm.Cond.fieldLink "BinTrees" (126 : Nat) "BinTrees$Person" "takes" "[I") ∈ vz_tbl := vz_in (List.mem_append_right _ (List.mem_append_left _ (List.mem_of_getElem? (i := 108) rfl))) rfl
theorem kw_109 : (Jvm.Cond.fieldLink "BinTrees$Person" (18 : Nat) "BinTrees$Person" "tree" "LBinTrees$Tree;") ∈ vz_tbl := vz_in (List.mem_append_right _ (List.mem_append_left _ (List.mem_of_getElem? (i := 109) rfl))) rfl
theorem kw_110 : (Jvm.Cond.fieldLink "BinTrees" (79 : Nat) "BinTrees$Person" "tree" "LBinTrees$Tree;") ∈ vz_tbl := vz_in (List.mem_append_right _ (List.mem_append_left _ (List.mem_of_getElem? (i := 110) rfl))) rfl
theorem kw_111 : (Jvm.Cond.fieldLink "BinTrees$Person" (22 : Nat) "BinTrees$Person" "known" "I") ∈ vz_tbl := vz_in (List.mem_append_right _ (List.mem_append_left _ (List.mem_of_getElem? (i := 111) rfl))) rfl
theorem kw_112 : (Jvm.Cond.fieldLink "BinTrees" (133 : Nat) "BinTrees$Person" "known" "I") ∈ vz_tbl := vz_in (List.mem_append_right _ (List.mem_append_left _ (List.mem_of_getElem? (i := 112) rfl))) rfl
theorem kw_113 : (Jvm.Cond.fieldLink "BinTrees" (31 : Nat) "BinTrees$Person" "time" "I") ∈ vz_tbl := vz_in (List.mem_append_right _ (List.mem_append_left _ (List.mem_of_getElem? (i := 113) rfl))) rfl
theorem kw_114 : (Jvm.Cond.fieldLink "BinTrees$Person" (26 : Nat) "BinTrees$Person" "time" "I") ∈ vz_tbl := vz_in (List.mem_append_right _ (List.mem_append_left _ (List.mem_of_getElem? (i := 114) rfl))) rfl
theorem kw_115 : (Jvm.Cond.fieldLink "BinTrees$Person" (49 : Nat) "BinTrees$Person" "lastCost" "I") ∈ vz_tbl := vz_in (List.mem_append_right _ (List.mem_append_left _ (List.mem_of_getElem? (i := 115) rfl))) rfl
theorem kw_116 : (Jvm.Cond.fieldLink "BinTrees" (61 : Nat) "BinTrees$Person" "lastCost" "I") ∈ vz_tbl := vz_in (List.mem_append_right _ (List.mem_append_left _ (List.mem_of_getElem? (i := 116) rfl))) rfl
theorem kw_128 : (Jvm.Cond.fieldLink "BinTrees" (10 : Nat) "BinTrees" "log" "LBinTrees$Log;") ∈ vz_tbl := vz_in (List.mem_append_right _ (List.mem_append_left _ (List.mem_of_getElem? (i := 128) rfl))) rfl
theorem kw_129 : (Jvm.Cond.fieldLink "BinTrees" (18 : Nat) "BinTrees" "people" "[LBinTrees$Person;") ∈ vz_tbl := vz_in (List.mem_append_right _ (List.mem_append_left _ (List.mem_of_getElem? (i := 129) rfl))) rfl
theorem kw_135 : (Jvm.Cond.methodLink "BinTreesLaw" (13 : Nat) ({ cls := "BinTrees", name := "make", desc := "(I)I" } : Jvm.MethodName)) ∈ vz_tbl := vz_in (List.mem_append_right _ (List.mem_append_left _ (List.mem_of_getElem? (i := 135) rfl))) rfl
theorem kw_136 : (Jvm.Cond.instanceMethod ({ cls := "BinTrees", name := "make", desc := "(I)I" } : Jvm.MethodName)) ∈ vz_tbl := vz_in (List.mem_append_right _ (List.mem_append_left _ (List.mem_of_getElem? (i := 136) rfl))) rfl
theorem kw_137 : (Jvm.Cond.selects "BinTrees" ({ cls := "BinTrees", name := "make", desc := "(I)I" } : Jvm.MethodName) ({ cls := "BinTrees", name := "make", desc := "(I)I" } : Jvm.MethodName)) ∈ vz_tbl := vz_in (List.mem_append_right _ (List.mem_append_left _ (List.mem_of_getElem? (i := 137) rfl))) rfl
theorem kw_138 : (Jvm.Cond.code ({ cls := "BinTrees", name := "make", desc := "(I)I" } : Jvm.MethodName) prog_1_method_2_code (2 : Nat) (Option.some Jvm.ClassFile.FieldType.int)) ∈ vz_tbl := vz_in (List.mem_append_right _ (List.mem_append_left _ (List.mem_of_getElem? (i := 138) rfl))) rfl
theorem kw_139 : (Jvm.Cond.methodLink "BinTrees" (23 : Nat) ({ cls := "BinTrees", name := "mayWrite", desc := "(I)Z" } : Jvm.MethodName)) ∈ vz_tbl := vz_in (List.mem_append_right _ (List.mem_append_left _ (List.mem_of_getElem? (i := 139) rfl))) rfl
theorem kw_141 : (Jvm.Cond.instanceMethod ({ cls := "BinTrees", name := "mayWrite", desc := "(I)Z" } : Jvm.MethodName)) ∈ vz_tbl := vz_in (List.mem_append_right _ (List.mem_append_left _ (List.mem_of_getElem? (i := 141) rfl))) rfl
theorem kw_142 : (Jvm.Cond.code ({ cls := "BinTrees", name := "mayWrite", desc := "(I)Z" } : Jvm.MethodName) prog_1_method_19_code (2 : Nat) (Option.some Jvm.ClassFile.FieldType.boolean)) ∈ vz_tbl := vz_in (List.mem_append_right _ (List.mem_append_left _ (List.mem_of_getElem? (i := 142) rfl))) rfl
theorem kw_143 : (Jvm.Cond.methodLink "BinTrees" (55 : Nat) ({ cls := "BinTrees", name := "isNode", desc := "(I)Z" } : Jvm.MethodName)) ∈ vz_tbl := vz_in (List.mem_append_right _ (List.mem_append_left _ (List.mem_of_getElem? (i := 143) rfl))) rfl
theorem kw_144 : (Jvm.Cond.static ({ cls := "BinTrees", name := "isNode", desc := "(I)Z" } : Jvm.MethodName)) ∈ vz_tbl := vz_in (List.mem_append_right _ (List.mem_append_left _ (List.mem_of_getElem? (i := 144) rfl))) rfl
theorem kw_145 : (Jvm.Cond.code ({ cls := "BinTrees", name := "isNode", desc := "(I)Z" } : Jvm.MethodName) prog_1_method_15_code (1 : Nat) (Option.some Jvm.ClassFile.FieldType.boolean)) ∈ vz_tbl := vz_in (List.mem_append_right _ (List.mem_append_left _ (List.mem_of_getElem? (i := 145) rfl))) rfl
theorem kw_146 : (Jvm.Cond.methodLink "BinTrees" (34 : Nat) ({ cls := "BinTrees$Log", name := "add", desc := "(IIIIII)I" } : Jvm.MethodName)) ∈ vz_tbl := vz_in (List.mem_append_right _ (List.mem_append_left _ (List.mem_of_getElem? (i := 146) rfl))) rfl
theorem kw_147 : (Jvm.Cond.instanceMethod ({ cls := "BinTrees$Log", name := "add", desc := "(IIIIII)I" } : Jvm.MethodName)) ∈ vz_tbl := vz_in (List.mem_append_right _ (List.mem_append_left _ (List.mem_of_getElem? (i := 147) rfl))) rfl
theorem kw_148 : (Jvm.Cond.selects "BinTrees$Log" ({ cls := "BinTrees$Log", name := "add", desc := "(IIIIII)I" } : Jvm.MethodName) ({ cls := "BinTrees$Log", name := "add", desc := "(IIIIII)I" } : Jvm.MethodName)) ∈ vz_tbl := vz_in (List.mem_append_right _ (List.mem_append_left _ (List.mem_of_getElem? (i := 148) rfl))) rfl
theorem kw_149 : (Jvm.Cond.code ({ cls := "BinTrees$Log", name := "add", desc := "(IIIIII)I" } : Jvm.MethodName) prog_2_method_2_code (8 : Nat) (Option.some Jvm.ClassFile.FieldType.int)) ∈ vz_tbl := vz_in (List.mem_append_right _ (List.mem_append_left _ (List.mem_of_getElem? (i := 149) rfl))) rfl
theorem kw_150 : (Jvm.Cond.methodLink "BinTrees$Log" (40 : Nat) ({ cls := "BinTrees$Log", name := "putInOrder", desc := "(I)V" } : Jvm.MethodName)) ∈ vz_tbl := vz_in (List.mem_append_right _ (List.mem_append_left _ (List.mem_of_getElem? (i := 150) rfl))) rfl
theorem kw_152 : (Jvm.Cond.instanceMethod ({ cls := "BinTrees$Log", name := "putInOrder", desc := "(I)V" } : Jvm.MethodName)) ∈ vz_tbl := vz_in (List.mem_append_right _ (List.mem_append_left _ (List.mem_of_getElem? (i := 152) rfl))) rfl
theorem kw_153 : (Jvm.Cond.code ({ cls := "BinTrees$Log", name := "putInOrder", desc := "(I)V" } : Jvm.MethodName) prog_2_method_3_code (3 : Nat) (Option.none : Option Jvm.ClassFile.FieldType)) ∈ vz_tbl := vz_in (List.mem_append_right _ (List.mem_append_left _ (List.mem_of_getElem? (i := 153) rfl))) rfl
theorem kw_154 : (Jvm.Cond.methodLink "BinTrees$Log" (44 : Nat) ({ cls := "BinTrees$Log", name := "isAhead", desc := "(II)Z" } : Jvm.MethodName)) ∈ vz_tbl := vz_in (List.mem_append_right _ (List.mem_append_left _ (List.mem_of_getElem? (i := 154) rfl))) rfl
theorem kw_156 : (Jvm.Cond.instanceMethod ({ cls := "BinTrees$Log", name := "isAhead", desc := "(II)Z" } : Jvm.MethodName)) ∈ vz_tbl := vz_in (List.mem_append_right _ (List.mem_append_left _ (List.mem_of_getElem? (i := 156) rfl))) rfl
theorem kw_157 : (Jvm.Cond.code ({ cls := "BinTrees$Log", name := "isAhead", desc := "(II)Z" } : Jvm.MethodName) prog_2_method_4_code (3 : Nat) (Option.some Jvm.ClassFile.FieldType.boolean)) ∈ vz_tbl := vz_in (List.mem_append_right _ (List.mem_append_left _ (List.mem_of_getElem? (i := 157) rfl))) rfl
theorem kw_158 : (Jvm.Cond.methodLink "BinTrees" (38 : Nat) ({ cls := "BinTrees", name := "told", desc := "(II)I" } : Jvm.MethodName)) ∈ vz_tbl := vz_in (List.mem_append_right _ (List.mem_append_left _ (List.mem_of_getElem? (i := 158) rfl))) rfl
theorem kw_160 : (Jvm.Cond.instanceMethod ({ cls := "BinTrees", name := "told", desc := "(II)I" } : Jvm.MethodName)) ∈ vz_tbl := vz_in (List.mem_append_right _ (List.mem_append_left _ (List.mem_of_getElem? (i := 160) rfl))) rfl
theorem kw_161 : (Jvm.Cond.code ({ cls := "BinTrees", name := "told", desc := "(II)I" } : Jvm.MethodName) prog_1_method_20_code (4 : Nat) (Option.some Jvm.ClassFile.FieldType.int)) ∈ vz_tbl := vz_in (List.mem_append_right _ (List.mem_append_left _ (List.mem_of_getElem? (i := 161) rfl))) rfl
theorem kw_162 : (Jvm.Cond.methodLink "BinTrees" (71 : Nat) ({ cls := "BinTrees$Person", name := "learn", desc := "(LBinTrees$Log;I)V" } : Jvm.MethodName)) ∈ vz_tbl := vz_in (List.mem_append_right _ (List.mem_append_left _ (List.mem_of_getElem? (i := 162) rfl))) rfl
theorem kw_163 : (Jvm.Cond.instanceMethod ({ cls := "BinTrees$Person", name := "learn", desc := "(LBinTrees$Log;I)V" } : Jvm.MethodName)) ∈ vz_tbl := vz_in (List.mem_append_right _ (List.mem_append_left _ (List.mem_of_getElem? (i := 163) rfl))) rfl
theorem kw_164 : (Jvm.Cond.selects "BinTrees$Person" ({ cls := "BinTrees$Person", name := "learn", desc := "(LBinTrees$Log;I)V" } : Jvm.MethodName) ({ cls := "BinTrees$Person", name := "learn", desc := "(LBinTrees$Log;I)V" } : Jvm.MethodName)) ∈ vz_tbl := vz_in (List.mem_append_right _ (List.mem_append_left _ (List.mem_of_getElem? (i := 164) rfl))) rfl
theorem kw_165 : (Jvm.Cond.code ({ cls := "BinTrees$Person", name := "learn", desc := "(LBinTrees$Log;I)V" } : Jvm.MethodName) prog_3_method_3_code (3 : Nat) (Option.none : Option Jvm.ClassFile.FieldType)) ∈ vz_tbl := vz_in (List.mem_append_right _ (List.mem_append_left _ (List.mem_of_getElem? (i := 165) rfl))) rfl
theorem kw_166 : (Jvm.Cond.methodLink "BinTrees$Person" (33 : Nat) ({ cls := "java/lang/Math", name := "max", desc := "(II)I" } : Jvm.MethodName)) ∈ vz_tbl := vz_in (List.mem_append_right _ (List.mem_append_left _ (List.mem_of_getElem? (i := 166) rfl))) rfl
theorem kw_167 : (Jvm.Cond.static ({ cls := "java/lang/Math", name := "max", desc := "(II)I" } : Jvm.MethodName)) ∈ vz_tbl := vz_in (List.mem_append_right _ (List.mem_append_left _ (List.mem_of_getElem? (i := 167) rfl))) rfl
theorem kw_168 : (Jvm.Cond.code ({ cls := "java/lang/Math", name := "max", desc := "(II)I" } : Jvm.MethodName) prog_7_method_65_code (2 : Nat) (Option.some Jvm.ClassFile.FieldType.int)) ∈ vz_tbl := vz_in (List.mem_append_right _ (List.mem_append_left _ (List.mem_of_getElem? (i := 168) rfl))) rfl
theorem kw_169 : (Jvm.Cond.methodLink "BinTrees$Person" (45 : Nat) ({ cls := "BinTrees$Person", name := "countFrom", desc := "(LBinTrees$Log;I)I" } : Jvm.MethodName)) ∈ vz_tbl := vz_in (List.mem_append_right _ (List.mem_append_left _ (List.mem_of_getElem? (i := 169) rfl))) rfl
theorem kw_171 : (Jvm.Cond.instanceMethod ({ cls := "BinTrees$Person", name := "countFrom", desc := "(LBinTrees$Log;I)I" } : Jvm.MethodName)) ∈ vz_tbl := vz_in (List.mem_append_right _ (List.mem_append_left _ (List.mem_of_getElem? (i := 171) rfl))) rfl
theorem kw_172 : (Jvm.Cond.code ({ cls := "BinTrees$Person", name := "countFrom", desc := "(LBinTrees$Log;I)I" } : Jvm.MethodName) prog_3_method_4_code (6 : Nat) (Option.some Jvm.ClassFile.FieldType.int)) ∈ vz_tbl := vz_in (List.mem_append_right _ (List.mem_append_left _ (List.mem_of_getElem? (i := 172) rfl))) rfl
theorem kw_173 : (Jvm.Cond.methodLink "BinTrees$Person" (52 : Nat) ({ cls := "BinTrees$Person", name := "knows", desc := "(I)Z" } : Jvm.MethodName)) ∈ vz_tbl := vz_in (List.mem_append_right _ (List.mem_append_left _ (List.mem_of_getElem? (i := 173) rfl))) rfl
theorem kw_174 : (Jvm.Cond.instanceMethod ({ cls := "BinTrees$Person", name := "knows", desc := "(I)Z" } : Jvm.MethodName)) ∈ vz_tbl := vz_in (List.mem_append_right _ (List.mem_append_left _ (List.mem_of_getElem? (i := 174) rfl))) rfl
theorem kw_175 : (Jvm.Cond.selects "BinTrees$Person" ({ cls := "BinTrees$Person", name := "knows", desc := "(I)Z" } : Jvm.MethodName) ({ cls := "BinTrees$Person", name := "knows", desc := "(I)Z" } : Jvm.MethodName)) ∈ vz_tbl := vz_in (List.mem_append_right _ (List.mem_append_left _ (List.mem_of_getElem? (i := 175) rfl))) rfl
theorem kw_176 : (Jvm.Cond.code ({ cls := "BinTrees$Person", name := "knows", desc := "(I)Z" } : Jvm.MethodName) prog_3_method_2_code (2 : Nat) (Option.some Jvm.ClassFile.FieldType.boolean)) ∈ vz_tbl := vz_in (List.mem_append_right _ (List.mem_append_left _ (List.mem_of_getElem? (i := 176) rfl))) rfl
theorem kw_177 : (Jvm.Cond.methodLink "BinTrees" (139 : Nat) ({ cls := "BinTrees$Person", name := "judge", desc := "(LBinTrees$Log;I)V" } : Jvm.MethodName)) ∈ vz_tbl := vz_in (List.mem_append_right _ (List.mem_append_left _ (List.mem_of_getElem? (i := 177) rfl))) rfl
theorem kw_178 : (Jvm.Cond.instanceMethod ({ cls := "BinTrees$Person", name := "judge", desc := "(LBinTrees$Log;I)V" } : Jvm.MethodName)) ∈ vz_tbl := vz_in (List.mem_append_right _ (List.mem_append_left _ (List.mem_of_getElem? (i := 178) rfl))) rfl
theorem kw_179 : (Jvm.Cond.selects "BinTrees$Person" ({ cls := "BinTrees$Person", name := "judge", desc := "(LBinTrees$Log;I)V" } : Jvm.MethodName) ({ cls := "BinTrees$Person", name := "judge", desc := "(LBinTrees$Log;I)V" } : Jvm.MethodName)) ∈ vz_tbl := vz_in (List.mem_append_right _ (List.mem_append_left _ (List.mem_of_getElem? (i := 179) rfl))) rfl
theorem kw_180 : (Jvm.Cond.code ({ cls := "BinTrees$Person", name := "judge", desc := "(LBinTrees$Log;I)V" } : Jvm.MethodName) prog_3_method_6_code (5 : Nat) (Option.none : Option Jvm.ClassFile.FieldType)) ∈ vz_tbl := vz_in (List.mem_append_right _ (List.mem_append_left _ (List.mem_of_getElem? (i := 180) rfl))) rfl
theorem kw_181 : (Jvm.Cond.methodLink "BinTrees$Person" (72 : Nat) ({ cls := "BinTrees$Tree", name := "bringIn", desc := "(I)V" } : Jvm.MethodName)) ∈ vz_tbl := vz_in (List.mem_append_right _ (List.mem_append_left _ (List.mem_of_getElem? (i := 181) rfl))) rfl
theorem kw_182 : (Jvm.Cond.instanceMethod ({ cls := "BinTrees$Tree", name := "bringIn", desc := "(I)V" } : Jvm.MethodName)) ∈ vz_tbl := vz_in (List.mem_append_right _ (List.mem_append_left _ (List.mem_of_getElem? (i := 182) rfl))) rfl
theorem kw_183 : (Jvm.Cond.selects "BinTrees$Tree" ({ cls := "BinTrees$Tree", name := "bringIn", desc := "(I)V" } : Jvm.MethodName) ({ cls := "BinTrees$Tree", name := "bringIn", desc := "(I)V" } : Jvm.MethodName)) ∈ vz_tbl := vz_in (List.mem_append_right _ (List.mem_append_left _ (List.mem_of_getElem? (i := 183) rfl))) rfl
theorem kw_184 : (Jvm.Cond.code ({ cls := "BinTrees$Tree", name := "bringIn", desc := "(I)V" } : Jvm.MethodName) prog_4_method_3_code (2 : Nat) (Option.none : Option Jvm.ClassFile.FieldType)) ∈ vz_tbl := vz_in (List.mem_append_right _ (List.mem_append_left _ (List.mem_of_getElem? (i := 184) rfl))) rfl
theorem kw_185 : (Jvm.Cond.methodLink "BinTrees$Tree" (32 : Nat) ({ cls := "BinTrees$Tree", name := "putAt", desc := "(III)V" } : Jvm.MethodName)) ∈ vz_tbl := vz_in (List.mem_append_right _ (List.mem_append_left _ (List.mem_of_getElem? (i := 185) rfl))) rfl
theorem kw_187 : (Jvm.Cond.instanceMethod ({ cls := "BinTrees$Tree", name := "putAt", desc := "(III)V" } : Jvm.MethodName)) ∈ vz_tbl := vz_in (List.mem_append_right _ (List.mem_append_left _ (List.mem_of_getElem? (i := 187) rfl))) rfl
theorem kw_188 : (Jvm.Cond.code ({ cls := "BinTrees$Tree", name := "putAt", desc := "(III)V" } : Jvm.MethodName) prog_4_method_11_code (5 : Nat) (Option.none : Option Jvm.ClassFile.FieldType)) ∈ vz_tbl := vz_in (List.mem_append_right _ (List.mem_append_left _ (List.mem_of_getElem? (i := 188) rfl))) rfl
theorem kw_189 : (Jvm.Cond.methodLink "BinTrees$Person" (82 : Nat) ({ cls := "BinTrees$Tree", name := "moveTo", desc := "(III)Z" } : Jvm.MethodName)) ∈ vz_tbl := vz_in (List.mem_append_right _ (List.mem_append_left _ (List.mem_of_getElem? (i := 189) rfl))) rfl
theorem kw_190 : (Jvm.Cond.instanceMethod ({ cls := "BinTrees$Tree", name := "moveTo", desc := "(III)Z" } : Jvm.MethodName)) ∈ vz_tbl := vz_in (List.mem_append_right _ (List.mem_append_left _ (List.mem_of_getElem? (i := 190) rfl))) rfl
theorem kw_191 : (Jvm.Cond.selects "BinTrees$Tree" ({ cls := "BinTrees$Tree", name := "moveTo", desc := "(III)Z" } : Jvm.MethodName) ({ cls := "BinTrees$Tree", name := "moveTo", desc := "(III)Z" } : Jvm.MethodName)) ∈ vz_tbl := vz_in (List.mem_append_right _ (List.mem_append_left _ (List.mem_of_getElem? (i := 191) rfl))) rfl
theorem kw_192 : (Jvm.Cond.code ({ cls := "BinTrees$Tree", name := "moveTo", desc := "(III)Z" } : Jvm.MethodName) prog_4_method_4_code (4 : Nat) (Option.some Jvm.ClassFile.FieldType.boolean)) ∈ vz_tbl := vz_in (List.mem_append_right _ (List.mem_append_left _ (List.mem_of_getElem? (i := 192) rfl))) rfl
theorem kw_193 : (Jvm.Cond.methodLink "BinTrees$Tree" (36 : Nat) ({ cls := "BinTrees$Tree", name := "mayLie", desc := "(II)Z" } : Jvm.MethodName)) ∈ vz_tbl := vz_in (List.mem_append_right _ (List.mem_append_left _ (List.mem_of_getElem? (i := 193) rfl))) rfl
theorem kw_195 : (Jvm.Cond.instanceMethod ({ cls := "BinTrees$Tree", name := "mayLie", desc := "(II)Z" } : Jvm.MethodName)) ∈ vz_tbl := vz_in (List.mem_append_right _ (List.mem_append_left _ (List.mem_of_getElem? (i := 195) rfl))) rfl
theorem kw_196 : (Jvm.Cond.code ({ cls := "BinTrees$Tree", name := "mayLie", desc := "(II)Z" } : Jvm.MethodName) prog_4_method_7_code (6 : Nat) (Option.some Jvm.ClassFile.FieldType.boolean)) ∈ vz_tbl := vz_in (List.mem_append_right _ (List.mem_append_left _ (List.mem_of_getElem? (i := 196) rfl))) rfl
theorem kw_197 : (Jvm.Cond.methodLink "BinTrees$Tree" (48 : Nat) ({ cls := "BinTrees$Tree", name := "stepsUp", desc := "(II)I" } : Jvm.MethodName)) ∈ vz_tbl := vz_in (List.mem_append_right _ (List.mem_append_left _ (List.mem_of_getElem? (i := 197) rfl))) rfl
theorem kw_198 : (Jvm.Cond.instanceMethod ({ cls := "BinTrees$Tree", name := "stepsUp", desc := "(II)I" } : Jvm.MethodName)) ∈ vz_tbl := vz_in (List.mem_append_right _ (List.mem_append_left _ (List.mem_of_getElem? (i := 198) rfl))) rfl
theorem kw_199 : (Jvm.Cond.selects "BinTrees$Tree" ({ cls := "BinTrees$Tree", name := "stepsUp", desc := "(II)I" } : Jvm.MethodName) ({ cls := "BinTrees$Tree", name := "stepsUp", desc := "(II)I" } : Jvm.MethodName)) ∈ vz_tbl := vz_in (List.mem_append_right _ (List.mem_append_left _ (List.mem_of_getElem? (i := 199) rfl))) rfl
theorem kw_200 : (Jvm.Cond.code ({ cls := "BinTrees$Tree", name := "stepsUp", desc := "(II)I" } : Jvm.MethodName) prog_4_method_8_code (5 : Nat) (Option.some Jvm.ClassFile.FieldType.int)) ∈ vz_tbl := vz_in (List.mem_append_right _ (List.mem_append_left _ (List.mem_of_getElem? (i := 200) rfl))) rfl
theorem kw_201 : (Jvm.Cond.methodLink "BinTrees$Tree" (40 : Nat) ({ cls := "BinTrees$Tree", name := "takeOut", desc := "(I)V" } : Jvm.MethodName)) ∈ vz_tbl := vz_in (List.mem_append_right _ (List.mem_append_left _ (List.mem_of_getElem? (i := 201) rfl))) rfl
theorem kw_203 : (Jvm.Cond.instanceMethod ({ cls := "BinTrees$Tree", name := "takeOut", desc := "(I)V" } : Jvm.MethodName)) ∈ vz_tbl := vz_in (List.mem_append_right _ (List.mem_append_left _ (List.mem_of_getElem? (i := 203) rfl))) rfl
theorem kw_204 : (Jvm.Cond.code ({ cls := "BinTrees$Tree", name := "takeOut", desc := "(I)V" } : Jvm.MethodName) prog_4_method_10_code (4 : Nat) (Option.none : Option Jvm.ClassFile.FieldType)) ∈ vz_tbl := vz_in (List.mem_append_right _ (List.mem_append_left _ (List.mem_of_getElem? (i := 204) rfl))) rfl
theorem kw_205 : (Jvm.Cond.methodLink "BinTrees$Tree" (44 : Nat) ({ cls := "BinTrees$Tree", name := "spotBehind", desc := "(II)I" } : Jvm.MethodName)) ∈ vz_tbl := vz_in (List.mem_append_right _ (List.mem_append_left _ (List.mem_of_getElem? (i := 205) rfl))) rfl
theorem kw_207 : (Jvm.Cond.instanceMethod ({ cls := "BinTrees$Tree", name := "spotBehind", desc := "(II)I" } : Jvm.MethodName)) ∈ vz_tbl := vz_in (List.mem_append_right _ (List.mem_append_left _ (List.mem_of_getElem? (i := 207) rfl))) rfl
theorem kw_208 : (Jvm.Cond.code ({ cls := "BinTrees$Tree", name := "spotBehind", desc := "(II)I" } : Jvm.MethodName) prog_4_method_12_code (4 : Nat) (Option.some Jvm.ClassFile.FieldType.int)) ∈ vz_tbl := vz_in (List.mem_append_right _ (List.mem_append_left _ (List.mem_of_getElem? (i := 208) rfl))) rfl
theorem kw_209 : (Jvm.Cond.methodLink "BinTrees$Person" (86 : Nat) ({ cls := "BinTrees$Tree", name := "throwAway", desc := "(I)Z" } : Jvm.MethodName)) ∈ vz_tbl := vz_in (List.mem_append_right _ (List.mem_append_left _ (List.mem_of_getElem? (i := 209) rfl))) rfl
theorem kw_210 : (Jvm.Cond.instanceMethod ({ cls := "BinTrees$Tree", name := "throwAway", desc := "(I)Z" } : Jvm.MethodName)) ∈ vz_tbl := vz_in (List.mem_append_right _ (List.mem_append_left _ (List.mem_of_getElem? (i := 210) rfl))) rfl
theorem kw_211 : (Jvm.Cond.selects "BinTrees$Tree" ({ cls := "BinTrees$Tree", name := "throwAway", desc := "(I)Z" } : Jvm.MethodName) ({ cls := "BinTrees$Tree", name := "throwAway", desc := "(I)Z" } : Jvm.MethodName)) ∈ vz_tbl := vz_in (List.mem_append_right _ (List.mem_append_left _ (List.mem_of_getElem? (i := 211) rfl))) rfl
theorem kw_212 : (Jvm.Cond.code ({ cls := "BinTrees$Tree", name := "throwAway", desc := "(I)Z" } : Jvm.MethodName) prog_4_method_5_code (2 : Nat) (Option.some Jvm.ClassFile.FieldType.boolean)) ∈ vz_tbl := vz_in (List.mem_append_right _ (List.mem_append_left _ (List.mem_of_getElem? (i := 212) rfl))) rfl
theorem kw_213 : (Jvm.Cond.methodLink "BinTrees$Person" (89 : Nat) ({ cls := "BinTrees$Tree", name := "bringBack", desc := "(I)Z" } : Jvm.MethodName)) ∈ vz_tbl := vz_in (List.mem_append_right _ (List.mem_append_left _ (List.mem_of_getElem? (i := 213) rfl))) rfl
theorem kw_214 : (Jvm.Cond.instanceMethod ({ cls := "BinTrees$Tree", name := "bringBack", desc := "(I)Z" } : Jvm.MethodName)) ∈ vz_tbl := vz_in (List.mem_append_right _ (List.mem_append_left _ (List.mem_of_getElem? (i := 214) rfl))) rfl
theorem kw_215 : (Jvm.Cond.selects "BinTrees$Tree" ({ cls := "BinTrees$Tree", name := "bringBack", desc := "(I)Z" } : Jvm.MethodName) ({ cls := "BinTrees$Tree", name := "bringBack", desc := "(I)Z" } : Jvm.MethodName)) ∈ vz_tbl := vz_in (List.mem_append_right _ (List.mem_append_left _ (List.mem_of_getElem? (i := 215) rfl))) rfl
theorem kw_216 : (Jvm.Cond.code ({ cls := "BinTrees$Tree", name := "bringBack", desc := "(I)Z" } : Jvm.MethodName) prog_4_method_6_code (3 : Nat) (Option.some Jvm.ClassFile.FieldType.boolean)) ∈ vz_tbl := vz_in (List.mem_append_right _ (List.mem_append_left _ (List.mem_of_getElem? (i := 216) rfl))) rfl
theorem kw_217 : (Jvm.Cond.methodLink "BinTrees" (75 : Nat) ({ cls := "BinTrees$Person", name := "judgeAll", desc := "(LBinTrees$Log;)V" } : Jvm.MethodName)) ∈ vz_tbl := vz_in (List.mem_append_right _ (List.mem_append_left _ (List.mem_of_getElem? (i := 217) rfl))) rfl
theorem kw_218 : (Jvm.Cond.instanceMethod ({ cls := "BinTrees$Person", name := "judgeAll", desc := "(LBinTrees$Log;)V" } : Jvm.MethodName)) ∈ vz_tbl := vz_in (List.mem_append_right _ (List.mem_append_left _ (List.mem_of_getElem? (i := 218) rfl))) rfl
theorem kw_219 : (Jvm.Cond.selects "BinTrees$Person" ({ cls := "BinTrees$Person", name := "judgeAll", desc := "(LBinTrees$Log;)V" } : Jvm.MethodName) ({ cls := "BinTrees$Person", name := "judgeAll", desc := "(LBinTrees$Log;)V" } : Jvm.MethodName)) ∈ vz_tbl := vz_in (List.mem_append_right _ (List.mem_append_left _ (List.mem_of_getElem? (i := 219) rfl))) rfl
theorem kw_220 : (Jvm.Cond.code ({ cls := "BinTrees$Person", name := "judgeAll", desc := "(LBinTrees$Log;)V" } : Jvm.MethodName) prog_3_method_5_code (3 : Nat) (Option.none : Option Jvm.ClassFile.FieldType)) ∈ vz_tbl := vz_in (List.mem_append_right _ (List.mem_append_left _ (List.mem_of_getElem? (i := 220) rfl))) rfl
theorem kw_221 : (Jvm.Cond.methodLink "BinTrees$Person" (62 : Nat) ({ cls := "BinTrees$Tree", name := "startAnew", desc := "()V" } : Jvm.MethodName)) ∈ vz_tbl := vz_in (List.mem_append_right _ (List.mem_append_left _ (List.mem_of_getElem? (i := 221) rfl))) rfl
theorem kw_222 : (Jvm.Cond.methodLink "BinTrees$Person" (65 : Nat) ({ cls := "BinTrees$Person", name := "judge", desc := "(LBinTrees$Log;I)V" } : Jvm.MethodName)) ∈ vz_tbl := vz_in (List.mem_append_right _ (List.mem_append_left _ (List.mem_of_getElem? (i := 222) rfl))) rfl
theorem kw_223 : (Jvm.Cond.methodLink "BinTreesLaw" (18 : Nat) ({ cls := "BinTrees", name := "move", desc := "(IIII)I" } : Jvm.MethodName)) ∈ vz_tbl := vz_in (List.mem_append_right _ (List.mem_append_left _ (List.mem_of_getElem? (i := 223) rfl))) rfl
theorem kw_224 : (Jvm.Cond.instanceMethod ({ cls := "BinTrees", name := "move", desc := "(IIII)I" } : Jvm.MethodName)) ∈ vz_tbl := vz_in (List.mem_append_right _ (List.mem_append_left _ (List.mem_of_getElem? (i := 224) rfl))) rfl
theorem kw_225 : (Jvm.Cond.selects "BinTrees" ({ cls := "BinTrees", name := "move", desc := "(IIII)I" } : Jvm.MethodName) ({ cls := "BinTrees", name := "move", desc := "(IIII)I" } : Jvm.MethodName)) ∈ vz_tbl := vz_in (List.mem_append_right _ (List.mem_append_left _ (List.mem_of_getElem? (i := 225) rfl))) rfl
theorem kw_226 : (Jvm.Cond.code ({ cls := "BinTrees", name := "move", desc := "(IIII)I" } : Jvm.MethodName) prog_1_method_3_code (5 : Nat) (Option.some Jvm.ClassFile.FieldType.int)) ∈ vz_tbl := vz_in (List.mem_append_right _ (List.mem_append_left _ (List.mem_of_getElem? (i := 226) rfl))) rfl
theorem kw_227 : (Jvm.Cond.methodLink "BinTrees" (42 : Nat) ({ cls := "BinTrees", name := "isMade", desc := "(I)Z" } : Jvm.MethodName)) ∈ vz_tbl := vz_in (List.mem_append_right _ (List.mem_append_left _ (List.mem_of_getElem? (i := 227) rfl))) rfl
theorem kw_229 : (Jvm.Cond.instanceMethod ({ cls := "BinTrees", name := "isMade", desc := "(I)Z" } : Jvm.MethodName)) ∈ vz_tbl := vz_in (List.mem_append_right _ (List.mem_append_left _ (List.mem_of_getElem? (i := 229) rfl))) rfl
theorem kw_230 : (Jvm.Cond.code ({ cls := "BinTrees", name := "isMade", desc := "(I)Z" } : Jvm.MethodName) prog_1_method_17_code (2 : Nat) (Option.some Jvm.ClassFile.FieldType.boolean)) ∈ vz_tbl := vz_in (List.mem_append_right _ (List.mem_append_left _ (List.mem_of_getElem? (i := 230) rfl))) rfl
theorem kw_231 : (Jvm.Cond.methodLink "BinTrees" (45 : Nat) ({ cls := "BinTrees", name := "isObject", desc := "(I)Z" } : Jvm.MethodName)) ∈ vz_tbl := vz_in (List.mem_append_right _ (List.mem_append_left _ (List.mem_of_getElem? (i := 231) rfl))) rfl
theorem kw_233 : (Jvm.Cond.instanceMethod ({ cls := "BinTrees", name := "isObject", desc := "(I)Z" } : Jvm.MethodName)) ∈ vz_tbl := vz_in (List.mem_append_right _ (List.mem_append_left _ (List.mem_of_getElem? (i := 233) rfl))) rfl
theorem kw_234 : (Jvm.Cond.code ({ cls := "BinTrees", name := "isObject", desc := "(I)Z" } : Jvm.MethodName) prog_1_method_16_code (2 : Nat) (Option.some Jvm.ClassFile.FieldType.boolean)) ∈ vz_tbl := vz_in (List.mem_append_right _ (List.mem_append_left _ (List.mem_of_getElem? (i := 234) rfl))) rfl
theorem kw_235 : (Jvm.Cond.methodLink "BinTreesLaw" (23 : Nat) ({ cls := "BinTrees", name := "remove", desc := "(IIZ)I" } : Jvm.MethodName)) ∈ vz_tbl := vz_in (List.mem_append_right _ (List.mem_append_left _ (List.mem_of_getElem? (i := 235) rfl))) rfl
theorem kw_236 : (Jvm.Cond.instanceMethod ({ cls := "BinTrees", name := "remove", desc := "(IIZ)I" } : Jvm.MethodName)) ∈ vz_tbl := vz_in (List.mem_append_right _ (List.mem_append_left _ (List.mem_of_getElem? (i := 236) rfl))) rfl
theorem kw_237 : (Jvm.Cond.selects "BinTrees" ({ cls := "BinTrees", name := "remove", desc := "(IIZ)I" } : Jvm.MethodName) ({ cls := "BinTrees", name := "remove", desc := "(IIZ)I" } : Jvm.MethodName)) ∈ vz_tbl := vz_in (List.mem_append_right _ (List.mem_append_left _ (List.mem_of_getElem? (i := 237) rfl))) rfl
theorem kw_238 : (Jvm.Cond.code ({ cls := "BinTrees", name := "remove", desc := "(IIZ)I" } : Jvm.MethodName) prog_1_method_4_code (5 : Nat) (Option.some Jvm.ClassFile.FieldType.int)) ∈ vz_tbl := vz_in (List.mem_append_right _ (List.mem_append_left _ (List.mem_of_getElem? (i := 238) rfl))) rfl
theorem kw_239 : (Jvm.Cond.methodLink "BinTreesLaw" (28 : Nat) ({ cls := "BinTrees", name := "undo", desc := "(II)I" } : Jvm.MethodName)) ∈ vz_tbl := vz_in (List.mem_append_right _ (List.mem_append_left _ (List.mem_of_getElem? (i := 239) rfl))) rfl
theorem kw_240 : (Jvm.Cond.instanceMethod ({ cls := "BinTrees", name := "undo", desc := "(II)I" } : Jvm.MethodName)) ∈ vz_tbl := vz_in (List.mem_append_right _ (List.mem_append_right _ (List.mem_append_left _ (List.mem_of_getElem? (i := 0) rfl)))) rfl
theorem kw_241 : (Jvm.Cond.selects "BinTrees" ({ cls := "BinTrees", name := "undo", desc := "(II)I" } : Jvm.MethodName) ({ cls := "BinTrees", name := "undo", desc := "(II)I" } : Jvm.MethodName)) ∈ vz_tbl := vz_in (List.mem_append_right _ (List.mem_append_right _ (List.mem_append_left _ (List.mem_of_getElem? (i := 1) rfl)))) rfl
theorem kw_242 : (Jvm.Cond.code ({ cls := "BinTrees", name := "undo", desc := "(II)I" } : Jvm.MethodName) prog_1_method_5_code (3 : Nat) (Option.some Jvm.ClassFile.FieldType.int)) ∈ vz_tbl := vz_in (List.mem_append_right _ (List.mem_append_right _ (List.mem_append_left _ (List.mem_of_getElem? (i := 2) rfl)))) rfl
theorem kw_243 : (Jvm.Cond.methodLink "BinTrees" (48 : Nat) ({ cls := "BinTrees", name := "isRow", desc := "(I)Z" } : Jvm.MethodName)) ∈ vz_tbl := vz_in (List.mem_append_right _ (List.mem_append_right _ (List.mem_append_left _ (List.mem_of_getElem? (i := 3) rfl)))) rfl
theorem kw_245 : (Jvm.Cond.instanceMethod ({ cls := "BinTrees", name := "isRow", desc := "(I)Z" } : Jvm.MethodName)) ∈ vz_tbl := vz_in (List.mem_append_right _ (List.mem_append_right _ (List.mem_append_left _ (List.mem_of_getElem? (i := 5) rfl)))) rfl
theorem kw_246 : (Jvm.Cond.code ({ cls := "BinTrees", name := "isRow", desc := "(I)Z" } : Jvm.MethodName) prog_1_method_18_code (2 : Nat) (Option.some Jvm.ClassFile.FieldType.boolean)) ∈ vz_tbl := vz_in (List.mem_append_right _ (List.mem_append_right _ (List.mem_append_left _ (List.mem_of_getElem? (i := 6) rfl)))) rfl
theorem kw_247 : (Jvm.Cond.methodLink "BinTrees" (51 : Nat) ({ cls := "BinTrees$Log", name := "mayBeUndoneBy", desc := "(II)Z" } : Jvm.MethodName)) ∈ vz_tbl := vz_in (List.mem_append_right _ (List.mem_append_right _ (List.mem_append_left _ (List.mem_of_getElem? (i := 7) rfl)))) rfl
theorem kw_248 : (Jvm.Cond.instanceMethod ({ cls := "BinTrees$Log", name := "mayBeUndoneBy", desc := "(II)Z" } : Jvm.MethodName)) ∈ vz_tbl := vz_in (List.mem_append_right _ (List.mem_append_right _ (List.mem_append_left _ (List.mem_of_getElem? (i := 8) rfl)))) rfl
theorem kw_249 : (Jvm.Cond.selects "BinTrees$Log" ({ cls := "BinTrees$Log", name := "mayBeUndoneBy", desc := "(II)Z" } : Jvm.MethodName) ({ cls := "BinTrees$Log", name := "mayBeUndoneBy", desc := "(II)Z" } : Jvm.MethodName)) ∈ vz_tbl := vz_in (List.mem_append_right _ (List.mem_append_right _ (List.mem_append_left _ (List.mem_of_getElem? (i := 9) rfl)))) rfl
theorem kw_250 : (Jvm.Cond.code ({ cls := "BinTrees$Log", name := "mayBeUndoneBy", desc := "(II)Z" } : Jvm.MethodName) prog_2_method_5_code (3 : Nat) (Option.some Jvm.ClassFile.FieldType.boolean)) ∈ vz_tbl := vz_in (List.mem_append_right _ (List.mem_append_right _ (List.mem_append_left _ (List.mem_of_getElem? (i := 10) rfl)))) rfl
theorem kw_251 : (Jvm.Cond.methodLink "BinTreesLaw" (33 : Nat) ({ cls := "BinTrees", name := "see", desc := "(II)I" } : Jvm.MethodName)) ∈ vz_tbl := vz_in (List.mem_append_right _ (List.mem_append_right _ (List.mem_append_left _ (List.mem_of_getElem? (i := 11) rfl)))) rfl
theorem kw_252 : (Jvm.Cond.instanceMethod ({ cls := "BinTrees", name := "see", desc := "(II)I" } : Jvm.MethodName)) ∈ vz_tbl := vz_in (List.mem_append_right _ (List.mem_append_right _ (List.mem_append_left _ (List.mem_of_getElem? (i := 12) rfl)))) rfl
theorem kw_253 : (Jvm.Cond.selects "BinTrees" ({ cls := "BinTrees", name := "see", desc := "(II)I" } : Jvm.MethodName) ({ cls := "BinTrees", name := "see", desc := "(II)I" } : Jvm.MethodName)) ∈ vz_tbl := vz_in (List.mem_append_right _ (List.mem_append_right _ (List.mem_append_left _ (List.mem_of_getElem? (i := 13) rfl)))) rfl
theorem kw_254 : (Jvm.Cond.code ({ cls := "BinTrees", name := "see", desc := "(II)I" } : Jvm.MethodName) prog_1_method_6_code (3 : Nat) (Option.some Jvm.ClassFile.FieldType.int)) ∈ vz_tbl := vz_in (List.mem_append_right _ (List.mem_append_right _ (List.mem_append_left _ (List.mem_of_getElem? (i := 14) rfl)))) rfl
theorem kw_255 : (Jvm.Cond.methodLink "BinTrees" (58 : Nat) ({ cls := "BinTrees$Person", name := "knows", desc := "(I)Z" } : Jvm.MethodName)) ∈ vz_tbl := vz_in (List.mem_append_right _ (List.mem_append_right _ (List.mem_append_left _ (List.mem_of_getElem? (i := 15) rfl)))) rfl
theorem kw_256 : (Jvm.Cond.methodLink "BinTreesLaw" (37 : Nat) ({ cls := "BinTrees", name := "meet", desc := "(II)I" } : Jvm.MethodName)) ∈ vz_tbl := vz_in (List.mem_append_right _ (List.mem_append_right _ (List.mem_append_left _ (List.mem_of_getElem? (i := 16) rfl)))) rfl
theorem kw_257 : (Jvm.Cond.instanceMethod ({ cls := "BinTrees", name := "meet", desc := "(II)I" } : Jvm.MethodName)) ∈ vz_tbl := vz_in (List.mem_append_right _ (List.mem_append_right _ (List.mem_append_left _ (List.mem_of_getElem? (i := 17) rfl)))) rfl
theorem kw_258 : (Jvm.Cond.selects "BinTrees" ({ cls := "BinTrees", name := "meet", desc := "(II)I" } : Jvm.MethodName) ({ cls := "BinTrees", name := "meet", desc := "(II)I" } : Jvm.MethodName)) ∈ vz_tbl := vz_in (List.mem_append_right _ (List.mem_append_right _ (List.mem_append_left _ (List.mem_of_getElem? (i := 18) rfl)))) rfl
theorem kw_259 : (Jvm.Cond.code ({ cls := "BinTrees", name := "meet", desc := "(II)I" } : Jvm.MethodName) prog_1_method_7_code (7 : Nat) (Option.some Jvm.ClassFile.FieldType.int)) ∈ vz_tbl := vz_in (List.mem_append_right _ (List.mem_append_right _ (List.mem_append_left _ (List.mem_of_getElem? (i := 19) rfl)))) rfl
theorem kw_260 : (Jvm.Cond.methodLink "BinTreesLaw" (41 : Nat) ({ cls := "BinTrees", name := "cost", desc := "(I)I" } : Jvm.MethodName)) ∈ vz_tbl := vz_in (List.mem_append_right _ (List.mem_append_right _ (List.mem_append_left _ (List.mem_of_getElem? (i := 20) rfl)))) rfl
theorem kw_261 : (Jvm.Cond.instanceMethod ({ cls := "BinTrees", name := "cost", desc := "(I)I" } : Jvm.MethodName)) ∈ vz_tbl := vz_in (List.mem_append_right _ (List.mem_append_right _ (List.mem_append_left _ (List.mem_of_getElem? (i := 21) rfl)))) rfl
theorem kw_262 : (Jvm.Cond.selects "BinTrees" ({ cls := "BinTrees", name := "cost", desc := "(I)I" } : Jvm.MethodName) ({ cls := "BinTrees", name := "cost", desc := "(I)I" } : Jvm.MethodName)) ∈ vz_tbl := vz_in (List.mem_append_right _ (List.mem_append_right _ (List.mem_append_left _ (List.mem_of_getElem? (i := 22) rfl)))) rfl
theorem kw_263 : (Jvm.Cond.code ({ cls := "BinTrees", name := "cost", desc := "(I)I" } : Jvm.MethodName) prog_1_method_8_code (2 : Nat) (Option.some Jvm.ClassFile.FieldType.int)) ∈ vz_tbl := vz_in (List.mem_append_right _ (List.mem_append_right _ (List.mem_append_left _ (List.mem_of_getElem? (i := 23) rfl)))) rfl
theorem kw_264 : (Jvm.Cond.methodLink "BinTreesLaw" (45 : Nat) ({ cls := "BinTrees", name := "object", desc := "(III)I" } : Jvm.MethodName)) ∈ vz_tbl := vz_in (List.mem_append_right _ (List.mem_append_right _ (List.mem_append_left _ (List.mem_of_getElem? (i := 24) rfl)))) rfl
theorem kw_265 : (Jvm.Cond.instanceMethod ({ cls := "BinTrees", name := "object", desc := "(III)I" } : Jvm.MethodName)) ∈ vz_tbl := vz_in (List.mem_append_right _ (List.mem_append_right _ (List.mem_append_left _ (List.mem_of_getElem? (i := 25) rfl)))) rfl
theorem kw_266 : (Jvm.Cond.selects "BinTrees" ({ cls := "BinTrees", name := "object", desc := "(III)I" } : Jvm.MethodName) ({ cls := "BinTrees", name := "object", desc := "(III)I" } : Jvm.MethodName)) ∈ vz_tbl := vz_in (List.mem_append_right _ (List.mem_append_right _ (List.mem_append_left _ (List.mem_of_getElem? (i := 26) rfl)))) rfl
theorem kw_267 : (Jvm.Cond.code ({ cls := "BinTrees", name := "object", desc := "(III)I" } : Jvm.MethodName) prog_1_method_9_code (5 : Nat) (Option.some Jvm.ClassFile.FieldType.int)) ∈ vz_tbl := vz_in (List.mem_append_right _ (List.mem_append_right _ (List.mem_append_left _ (List.mem_of_getElem? (i := 27) rfl)))) rfl
theorem kw_268 : (Jvm.Cond.methodLink "BinTrees" (92 : Nat) ({ cls := "BinTrees$Tree", name := "topOf", desc := "(I)I" } : Jvm.MethodName)) ∈ vz_tbl := vz_in (List.mem_append_right _ (List.mem_append_right _ (List.mem_append_left _ (List.mem_of_getElem? (i := 28) rfl)))) rfl
theorem kw_269 : (Jvm.Cond.instanceMethod ({ cls := "BinTrees$Tree", name := "topOf", desc := "(I)I" } : Jvm.MethodName)) ∈ vz_tbl := vz_in (List.mem_append_right _ (List.mem_append_right _ (List.mem_append_left _ (List.mem_of_getElem? (i := 29) rfl)))) rfl
theorem kw_270 : (Jvm.Cond.selects "BinTrees$Tree" ({ cls := "BinTrees$Tree", name := "topOf", desc := "(I)I" } : Jvm.MethodName) ({ cls := "BinTrees$Tree", name := "topOf", desc := "(I)I" } : Jvm.MethodName)) ∈ vz_tbl := vz_in (List.mem_append_right _ (List.mem_append_right _ (List.mem_append_left _ (List.mem_of_getElem? (i := 30) rfl)))) rfl
theorem kw_271 : (Jvm.Cond.code ({ cls := "BinTrees$Tree", name := "topOf", desc := "(I)I" } : Jvm.MethodName) prog_4_method_9_code (4 : Nat) (Option.some Jvm.ClassFile.FieldType.int)) ∈ vz_tbl := vz_in (List.mem_append_right _ (List.mem_append_right _ (List.mem_append_left _ (List.mem_of_getElem? (i := 31) rfl)))) rfl
theorem kw_272 : (Jvm.Cond.methodLink "BinTrees" (96 : Nat) ({ cls := "BinTrees$Tree", name := "stepsUp", desc := "(II)I" } : Jvm.MethodName)) ∈ vz_tbl := vz_in (List.mem_append_right _ (List.mem_append_right _ (List.mem_append_left _ (List.mem_of_getElem? (i := 32) rfl)))) rfl
theorem kw_273 : (Jvm.Cond.methodLink "BinTrees" (99 : Nat) ({ cls := "BinTrees$Tree", name := "childCount", desc := "(I)I" } : Jvm.MethodName)) ∈ vz_tbl := vz_in (List.mem_append_right _ (List.mem_append_right _ (List.mem_append_left _ (List.mem_of_getElem? (i := 33) rfl)))) rfl
theorem kw_274 : (Jvm.Cond.instanceMethod ({ cls := "BinTrees$Tree", name := "childCount", desc := "(I)I" } : Jvm.MethodName)) ∈ vz_tbl := vz_in (List.mem_append_right _ (List.mem_append_right _ (List.mem_append_left _ (List.mem_of_getElem? (i := 34) rfl)))) rfl
theorem kw_275 : (Jvm.Cond.selects "BinTrees$Tree" ({ cls := "BinTrees$Tree", name := "childCount", desc := "(I)I" } : Jvm.MethodName) ({ cls := "BinTrees$Tree", name := "childCount", desc := "(I)I" } : Jvm.MethodName)) ∈ vz_tbl := vz_in (List.mem_append_right _ (List.mem_append_right _ (List.mem_append_left _ (List.mem_of_getElem? (i := 35) rfl)))) rfl
theorem kw_276 : (Jvm.Cond.code ({ cls := "BinTrees$Tree", name := "childCount", desc := "(I)I" } : Jvm.MethodName) prog_4_method_13_code (4 : Nat) (Option.some Jvm.ClassFile.FieldType.int)) ∈ vz_tbl := vz_in (List.mem_append_right _ (List.mem_append_right _ (List.mem_append_left _ (List.mem_of_getElem? (i := 36) rfl)))) rfl
theorem kw_277 : (Jvm.Cond.methodLink "BinTrees" (102 : Nat) ({ cls := "BinTrees$Tree", name := "placeOf", desc := "(I)I" } : Jvm.MethodName)) ∈ vz_tbl := vz_in (List.mem_append_right _ (List.mem_append_right _ (List.mem_append_left _ (List.mem_of_getElem? (i := 37) rfl)))) rfl
theorem kw_278 : (Jvm.Cond.instanceMethod ({ cls := "BinTrees$Tree", name := "placeOf", desc := "(I)I" } : Jvm.MethodName)) ∈ vz_tbl := vz_in (List.mem_append_right _ (List.mem_append_right _ (List.mem_append_left _ (List.mem_of_getElem? (i := 38) rfl)))) rfl
theorem kw_279 : (Jvm.Cond.selects "BinTrees$Tree" ({ cls := "BinTrees$Tree", name := "placeOf", desc := "(I)I" } : Jvm.MethodName) ({ cls := "BinTrees$Tree", name := "placeOf", desc := "(I)I" } : Jvm.MethodName)) ∈ vz_tbl := vz_in (List.mem_append_right _ (List.mem_append_right _ (List.mem_append_left _ (List.mem_of_getElem? (i := 39) rfl)))) rfl
theorem kw_280 : (Jvm.Cond.code ({ cls := "BinTrees$Tree", name := "placeOf", desc := "(I)I" } : Jvm.MethodName) prog_4_method_15_code (4 : Nat) (Option.some Jvm.ClassFile.FieldType.int)) ∈ vz_tbl := vz_in (List.mem_append_right _ (List.mem_append_right _ (List.mem_append_left _ (List.mem_of_getElem? (i := 40) rfl)))) rfl
theorem kw_281 : (Jvm.Cond.methodLink "BinTreesLaw" (50 : Nat) ({ cls := "BinTrees", name := "child", desc := "(III)I" } : Jvm.MethodName)) ∈ vz_tbl := vz_in (List.mem_append_right _ (List.mem_append_right _ (List.mem_append_left _ (List.mem_of_getElem? (i := 41) rfl)))) rfl
theorem kw_282 : (Jvm.Cond.instanceMethod ({ cls := "BinTrees", name := "child", desc := "(III)I" } : Jvm.MethodName)) ∈ vz_tbl := vz_in (List.mem_append_right _ (List.mem_append_right _ (List.mem_append_left _ (List.mem_of_getElem? (i := 42) rfl)))) rfl
theorem kw_283 : (Jvm.Cond.selects "BinTrees" ({ cls := "BinTrees", name := "child", desc := "(III)I" } : Jvm.MethodName) ({ cls := "BinTrees", name := "child", desc := "(III)I" } : Jvm.MethodName)) ∈ vz_tbl := vz_in (List.mem_append_right _ (List.mem_append_right _ (List.mem_append_left _ (List.mem_of_getElem? (i := 43) rfl)))) rfl
theorem kw_284 : (Jvm.Cond.code ({ cls := "BinTrees", name := "child", desc := "(III)I" } : Jvm.MethodName) prog_1_method_10_code (5 : Nat) (Option.some Jvm.ClassFile.FieldType.int)) ∈ vz_tbl := vz_in (List.mem_append_right _ (List.mem_append_right _ (List.mem_append_left _ (List.mem_of_getElem? (i := 44) rfl)))) rfl
theorem kw_285 : (Jvm.Cond.methodLink "BinTrees" (108 : Nat) ({ cls := "BinTrees$Tree", name := "childAt", desc := "(II)I" } : Jvm.MethodName)) ∈ vz_tbl := vz_in (List.mem_append_right _ (List.mem_append_right _ (List.mem_append_left _ (List.mem_of_getElem? (i := 45) rfl)))) rfl
theorem kw_286 : (Jvm.Cond.instanceMethod ({ cls := "BinTrees$Tree", name := "childAt", desc := "(II)I" } : Jvm.MethodName)) ∈ vz_tbl := vz_in (List.mem_append_right _ (List.mem_append_right _ (List.mem_append_left _ (List.mem_of_getElem? (i := 46) rfl)))) rfl
theorem kw_287 : (Jvm.Cond.selects "BinTrees$Tree" ({ cls := "BinTrees$Tree", name := "childAt", desc := "(II)I" } : Jvm.MethodName) ({ cls := "BinTrees$Tree", name := "childAt", desc := "(II)I" } : Jvm.MethodName)) ∈ vz_tbl := vz_in (List.mem_append_right _ (List.mem_append_right _ (List.mem_append_left _ (List.mem_of_getElem? (i := 47) rfl)))) rfl
theorem kw_288 : (Jvm.Cond.code ({ cls := "BinTrees$Tree", name := "childAt", desc := "(II)I" } : Jvm.MethodName) prog_4_method_14_code (5 : Nat) (Option.some Jvm.ClassFile.FieldType.int)) ∈ vz_tbl := vz_in (List.mem_append_right _ (List.mem_append_right _ (List.mem_append_left _ (List.mem_of_getElem? (i := 48) rfl)))) rfl
theorem kw_289 : (Jvm.Cond.methodLink "BinTreesLaw" (54 : Nat) ({ cls := "BinTrees", name := "row", desc := "(II)I" } : Jvm.MethodName)) ∈ vz_tbl := vz_in (List.mem_append_right _ (List.mem_append_right _ (List.mem_append_left _ (List.mem_of_getElem? (i := 49) rfl)))) rfl
theorem kw_290 : (Jvm.Cond.instanceMethod ({ cls := "BinTrees", name := "row", desc := "(II)I" } : Jvm.MethodName)) ∈ vz_tbl := vz_in (List.mem_append_right _ (List.mem_append_right _ (List.mem_append_left _ (List.mem_of_getElem? (i := 50) rfl)))) rfl
theorem kw_291 : (Jvm.Cond.selects "BinTrees" ({ cls := "BinTrees", name := "row", desc := "(II)I" } : Jvm.MethodName) ({ cls := "BinTrees", name := "row", desc := "(II)I" } : Jvm.MethodName)) ∈ vz_tbl := vz_in (List.mem_append_right _ (List.mem_append_right _ (List.mem_append_left _ (List.mem_of_getElem? (i := 51) rfl)))) rfl
theorem kw_292 : (Jvm.Cond.code ({ cls := "BinTrees", name := "row", desc := "(II)I" } : Jvm.MethodName) prog_1_method_11_code (3 : Nat) (Option.some Jvm.ClassFile.FieldType.int)) ∈ vz_tbl := vz_in (List.mem_append_right _ (List.mem_append_right _ (List.mem_append_left _ (List.mem_of_getElem? (i := 52) rfl)))) rfl
theorem kw_293 : (Jvm.Cond.methodLink "BinTreesLaw" (58 : Nat) ({ cls := "BinTrees", name := "judged", desc := "(II)I" } : Jvm.MethodName)) ∈ vz_tbl := vz_in (List.mem_append_right _ (List.mem_append_right _ (List.mem_append_left _ (List.mem_of_getElem? (i := 53) rfl)))) rfl
theorem kw_294 : (Jvm.Cond.instanceMethod ({ cls := "BinTrees", name := "judged", desc := "(II)I" } : Jvm.MethodName)) ∈ vz_tbl := vz_in (List.mem_append_right _ (List.mem_append_right _ (List.mem_append_left _ (List.mem_of_getElem? (i := 54) rfl)))) rfl
theorem kw_295 : (Jvm.Cond.selects "BinTrees" ({ cls := "BinTrees", name := "judged", desc := "(II)I" } : Jvm.MethodName) ({ cls := "BinTrees", name := "judged", desc := "(II)I" } : Jvm.MethodName)) ∈ vz_tbl := vz_in (List.mem_append_right _ (List.mem_append_right _ (List.mem_append_left _ (List.mem_of_getElem? (i := 55) rfl)))) rfl
theorem kw_296 : (Jvm.Cond.code ({ cls := "BinTrees", name := "judged", desc := "(II)I" } : Jvm.MethodName) prog_1_method_12_code (3 : Nat) (Option.some Jvm.ClassFile.FieldType.int)) ∈ vz_tbl := vz_in (List.mem_append_right _ (List.mem_append_right _ (List.mem_append_left _ (List.mem_of_getElem? (i := 56) rfl)))) rfl
theorem kw_297 : (Jvm.Cond.methodLink "BinTreesLaw" (62 : Nat) ({ cls := "BinTrees", name := "alike", desc := "(II)Z" } : Jvm.MethodName)) ∈ vz_tbl := vz_in (List.mem_append_right _ (List.mem_append_right _ (List.mem_append_left _ (List.mem_of_getElem? (i := 57) rfl)))) rfl
theorem kw_298 : (Jvm.Cond.instanceMethod ({ cls := "BinTrees", name := "alike", desc := "(II)Z" } : Jvm.MethodName)) ∈ vz_tbl := vz_in (List.mem_append_right _ (List.mem_append_right _ (List.mem_append_left _ (List.mem_of_getElem? (i := 58) rfl)))) rfl
theorem kw_299 : (Jvm.Cond.selects "BinTrees" ({ cls := "BinTrees", name := "alike", desc := "(II)Z" } : Jvm.MethodName) ({ cls := "BinTrees", name := "alike", desc := "(II)Z" } : Jvm.MethodName)) ∈ vz_tbl := vz_in (List.mem_append_right _ (List.mem_append_right _ (List.mem_append_left _ (List.mem_of_getElem? (i := 59) rfl)))) rfl
theorem kw_300 : (Jvm.Cond.code ({ cls := "BinTrees", name := "alike", desc := "(II)Z" } : Jvm.MethodName) prog_1_method_13_code (3 : Nat) (Option.some Jvm.ClassFile.FieldType.boolean)) ∈ vz_tbl := vz_in (List.mem_append_right _ (List.mem_append_right _ (List.mem_append_left _ (List.mem_of_getElem? (i := 60) rfl)))) rfl
theorem kw_301 : (Jvm.Cond.methodLink "BinTrees" (129 : Nat) ({ cls := "BinTrees$Tree", name := "sameAs", desc := "(LBinTrees$Tree;)Z" } : Jvm.MethodName)) ∈ vz_tbl := vz_in (List.mem_append_right _ (List.mem_append_right _ (List.mem_append_left _ (List.mem_of_getElem? (i := 61) rfl)))) rfl
theorem kw_302 : (Jvm.Cond.instanceMethod ({ cls := "BinTrees$Tree", name := "sameAs", desc := "(LBinTrees$Tree;)Z" } : Jvm.MethodName)) ∈ vz_tbl := vz_in (List.mem_append_right _ (List.mem_append_right _ (List.mem_append_left _ (List.mem_of_getElem? (i := 62) rfl)))) rfl
theorem kw_303 : (Jvm.Cond.selects "BinTrees$Tree" ({ cls := "BinTrees$Tree", name := "sameAs", desc := "(LBinTrees$Tree;)Z" } : Jvm.MethodName) ({ cls := "BinTrees$Tree", name := "sameAs", desc := "(LBinTrees$Tree;)Z" } : Jvm.MethodName)) ∈ vz_tbl := vz_in (List.mem_append_right _ (List.mem_append_right _ (List.mem_append_left _ (List.mem_of_getElem? (i := 63) rfl)))) rfl
theorem kw_304 : (Jvm.Cond.code ({ cls := "BinTrees$Tree", name := "sameAs", desc := "(LBinTrees$Tree;)Z" } : Jvm.MethodName) prog_4_method_16_code (3 : Nat) (Option.some Jvm.ClassFile.FieldType.boolean)) ∈ vz_tbl := vz_in (List.mem_append_right _ (List.mem_append_right _ (List.mem_append_left _ (List.mem_of_getElem? (i := 64) rfl)))) rfl
theorem kw_305 : (Jvm.Cond.methodLink "BinTrees$Tree" (51 : Nat) ({ cls := "BinTrees$Tree", name := "placeOf", desc := "(I)I" } : Jvm.MethodName)) ∈ vz_tbl := vz_in (List.mem_append_right _ (List.mem_append_right _ (List.mem_append_left _ (List.mem_of_getElem? (i := 65) rfl)))) rfl
theorem kw_306 : (Jvm.Cond.methodLink "BinTreesLaw" (67 : Nat) ({ cls := "BinTrees", name := "total", desc := "(I)I" } : Jvm.MethodName)) ∈ vz_tbl := vz_in (List.mem_append_right _ (List.mem_append_right _ (List.mem_append_left _ (List.mem_of_getElem? (i := 66) rfl)))) rfl
theorem kw_307 : (Jvm.Cond.instanceMethod ({ cls := "BinTrees", name := "total", desc := "(I)I" } : Jvm.MethodName)) ∈ vz_tbl := vz_in (List.mem_append_right _ (List.mem_append_right _ (List.mem_append_left _ (List.mem_of_getElem? (i := 67) rfl)))) rfl
theorem kw_308 : (Jvm.Cond.selects "BinTrees" ({ cls := "BinTrees", name := "total", desc := "(I)I" } : Jvm.MethodName) ({ cls := "BinTrees", name := "total", desc := "(I)I" } : Jvm.MethodName)) ∈ vz_tbl := vz_in (List.mem_append_right _ (List.mem_append_right _ (List.mem_append_left _ (List.mem_of_getElem? (i := 68) rfl)))) rfl
theorem kw_309 : (Jvm.Cond.code ({ cls := "BinTrees", name := "total", desc := "(I)I" } : Jvm.MethodName) prog_1_method_14_code (3 : Nat) (Option.some Jvm.ClassFile.FieldType.int)) ∈ vz_tbl := vz_in (List.mem_append_right _ (List.mem_append_right _ (List.mem_append_left _ (List.mem_of_getElem? (i := 69) rfl)))) rfl
theorem kw_310 : (Jvm.Cond.classLink "BinTreesLaw" (10 : Nat) "BinTreesModel") ∈ vz_tbl := vz_in (List.mem_append_right _ (List.mem_append_right _ (List.mem_append_left _ (List.mem_of_getElem? (i := 70) rfl)))) rfl
theorem kw_311 : (Jvm.Cond.instantiable "BinTreesModel" (26 : Nat)) ∈ vz_tbl := vz_in (List.mem_append_right _ (List.mem_append_right _ (List.mem_append_left _ (List.mem_of_getElem? (i := 71) rfl)))) rfl
theorem kw_312 : (Jvm.Cond.methodLink "BinTreesLaw" (12 : Nat) ({ cls := "BinTreesModel", name := "<init>", desc := "()V" } : Jvm.MethodName)) ∈ vz_tbl := vz_in (List.mem_append_right _ (List.mem_append_right _ (List.mem_append_left _ (List.mem_of_getElem? (i := 72) rfl)))) rfl
theorem kw_313 : (Jvm.Cond.instanceMethod ({ cls := "BinTreesModel", name := "<init>", desc := "()V" } : Jvm.MethodName)) ∈ vz_tbl := vz_in (List.mem_append_right _ (List.mem_append_right _ (List.mem_append_left _ (List.mem_of_getElem? (i := 73) rfl)))) rfl
theorem kw_314 : (Jvm.Cond.code ({ cls := "BinTreesModel", name := "<init>", desc := "()V" } : Jvm.MethodName) prog_6_method_1_code (1 : Nat) (Option.none : Option Jvm.ClassFile.FieldType)) ∈ vz_tbl := vz_in (List.mem_append_right _ (List.mem_append_right _ (List.mem_append_left _ (List.mem_of_getElem? (i := 74) rfl)))) rfl
theorem kw_315 : (Jvm.Cond.methodLink "BinTreesModel" (1 : Nat) ({ cls := "java/lang/Object", name := "<init>", desc := "()V" } : Jvm.MethodName)) ∈ vz_tbl := vz_in (List.mem_append_right _ (List.mem_append_right _ (List.mem_append_left _ (List.mem_of_getElem? (i := 75) rfl)))) rfl
theorem kw_316 : (Jvm.Cond.fieldLink "BinTreesModel" (78 : Nat) "BinTreesModel" "thrown" "I") ∈ vz_tbl := vz_in (List.mem_append_right _ (List.mem_append_right _ (List.mem_append_left _ (List.mem_of_getElem? (i := 76) rfl)))) rfl
theorem kw_317 : (Jvm.Cond.fieldLink "BinTreesModel" (81 : Nat) "BinTreesModel" "rows" "I") ∈ vz_tbl := vz_in (List.mem_append_right _ (List.mem_append_right _ (List.mem_append_left _ (List.mem_of_getElem? (i := 77) rfl)))) rfl
theorem kw_318 : (Jvm.Cond.fieldLink "BinTreesModel" (7 : Nat) "BinTreesModel" "sort" "[I") ∈ vz_tbl := vz_in (List.mem_append_right _ (List.mem_append_right _ (List.mem_append_left _ (List.mem_of_getElem? (i := 78) rfl)))) rfl
theorem kw_319 : (Jvm.Cond.fieldLink "BinTreesModel" (13 : Nat) "BinTreesModel" "who" "[I") ∈ vz_tbl := vz_in (List.mem_append_right _ (List.mem_append_right _ (List.mem_append_left _ (List.mem_of_getElem? (i := 79) rfl)))) rfl
theorem kw_320 : (Jvm.Cond.fieldLink "BinTreesModel" (16 : Nat) "BinTreesModel" "time" "[I") ∈ vz_tbl := vz_in (List.mem_append_right _ (List.mem_append_right _ (List.mem_append_left _ (List.mem_of_getElem? (i := 80) rfl)))) rfl
theorem kw_321 : (Jvm.Cond.fieldLink "BinTreesModel" (19 : Nat) "BinTreesModel" "what" "[I") ∈ vz_tbl := vz_in (List.mem_append_right _ (List.mem_append_right _ (List.mem_append_left _ (List.mem_of_getElem? (i := 81) rfl)))) rfl
theorem kw_322 : (Jvm.Cond.fieldLink "BinTreesModel" (22 : Nat) "BinTreesModel" "to" "[I") ∈ vz_tbl := vz_in (List.mem_append_right _ (List.mem_append_right _ (List.mem_append_left _ (List.mem_of_getElem? (i := 82) rfl)))) rfl
theorem kw_323 : (Jvm.Cond.fieldLink "BinTreesModel" (25 : Nat) "BinTreesModel" "behind" "[I") ∈ vz_tbl := vz_in (List.mem_append_right _ (List.mem_append_right _ (List.mem_append_left _ (List.mem_of_getElem? (i := 83) rfl)))) rfl
theorem kw_324 : (Jvm.Cond.fieldLink "BinTreesModel" (28 : Nat) "BinTreesModel" "objects" "I") ∈ vz_tbl := vz_in (List.mem_append_right _ (List.mem_append_right _ (List.mem_append_left _ (List.mem_of_getElem? (i := 84) rfl)))) rfl
theorem kw_325 : (Jvm.Cond.fieldLink "BinTreesModel" (32 : Nat) "BinTreesModel" "knows" "[Z") ∈ vz_tbl := vz_in (List.mem_append_right _ (List.mem_append_right _ (List.mem_append_left _ (List.mem_of_getElem? (i := 85) rfl)))) rfl
theorem kw_326 : (Jvm.Cond.fieldLink "BinTreesModel" (36 : Nat) "BinTreesModel" "clock" "[I") ∈ vz_tbl := vz_in (List.mem_append_right _ (List.mem_append_right _ (List.mem_append_left _ (List.mem_of_getElem? (i := 86) rfl)))) rfl
theorem kw_327 : (Jvm.Cond.fieldLink "BinTreesModel" (39 : Nat) "BinTreesModel" "cost" "[I") ∈ vz_tbl := vz_in (List.mem_append_right _ (List.mem_append_right _ (List.mem_append_left _ (List.mem_of_getElem? (i := 87) rfl)))) rfl
theorem kw_328 : (Jvm.Cond.fieldLink "BinTreesModel" (42 : Nat) "BinTreesModel" "builtFor" "I") ∈ vz_tbl := vz_in (List.mem_append_right _ (List.mem_append_right _ (List.mem_append_left _ (List.mem_of_getElem? (i := 88) rfl)))) rfl
theorem kw_329 : (Jvm.Cond.fieldLink "BinTreesModel" (45 : Nat) "BinTreesModel" "there" "[Z") ∈ vz_tbl := vz_in (List.mem_append_right _ (List.mem_append_right _ (List.mem_append_left _ (List.mem_of_getElem? (i := 89) rfl)))) rfl
theorem kw_330 : (Jvm.Cond.fieldLink "BinTreesModel" (48 : Nat) "BinTreesModel" "parent" "[I") ∈ vz_tbl := vz_in (List.mem_append_right _ (List.mem_append_right _ (List.mem_append_left _ (List.mem_of_getElem? (i := 90) rfl)))) rfl
theorem kw_331 : (Jvm.Cond.fieldLink "BinTreesModel" (51 : Nat) "BinTreesModel" "last" "[I") ∈ vz_tbl := vz_in (List.mem_append_right _ (List.mem_append_right _ (List.mem_append_left _ (List.mem_of_getElem? (i := 91) rfl)))) rfl
theorem kw_332 : (Jvm.Cond.fieldLink "BinTreesModel" (54 : Nat) "BinTreesModel" "kids" "[I") ∈ vz_tbl := vz_in (List.mem_append_right _ (List.mem_append_right _ (List.mem_append_left _ (List.mem_of_getElem? (i := 92) rfl)))) rfl
theorem kw_333 : (Jvm.Cond.fieldLink "BinTreesModel" (57 : Nat) "BinTreesModel" "kid" "[I") ∈ vz_tbl := vz_in (List.mem_append_right _ (List.mem_append_right _ (List.mem_append_left _ (List.mem_of_getElem? (i := 93) rfl)))) rfl
theorem kw_334 : (Jvm.Cond.fieldLink "BinTreesModel" (60 : Nat) "BinTreesModel" "how" "[I") ∈ vz_tbl := vz_in (List.mem_append_right _ (List.mem_append_right _ (List.mem_append_left _ (List.mem_of_getElem? (i := 94) rfl)))) rfl
theorem kw_335 : (Jvm.Cond.fieldLink "BinTreesModel" (88 : Nat) "BinTreesModel" "orders" "I") ∈ vz_tbl := vz_in (List.mem_append_right _ (List.mem_append_right _ (List.mem_append_left _ (List.mem_of_getElem? (i := 95) rfl)))) rfl
theorem kw_336 : (Jvm.Cond.fieldLink "BinTreesModel" (63 : Nat) "BinTreesModel" "order" "[I") ∈ vz_tbl := vz_in (List.mem_append_right _ (List.mem_append_right _ (List.mem_append_left _ (List.mem_of_getElem? (i := 96) rfl)))) rfl
theorem kw_337 : (Jvm.Cond.fieldLink "BinTreesModel" (159 : Nat) "BinTreesModel" "others" "I") ∈ vz_tbl := vz_in (List.mem_append_right _ (List.mem_append_right _ (List.mem_append_left _ (List.mem_of_getElem? (i := 97) rfl)))) rfl
theorem kw_338 : (Jvm.Cond.fieldLink "BinTreesModel" (66 : Nat) "BinTreesModel" "other" "[I") ∈ vz_tbl := vz_in (List.mem_append_right _ (List.mem_append_right _ (List.mem_append_left _ (List.mem_of_getElem? (i := 98) rfl)))) rfl
theorem kw_339 : (Jvm.Cond.fieldLink "BinTreesModel" (69 : Nat) "BinTreesModel" "oldKids" "[I") ∈ vz_tbl := vz_in (List.mem_append_right _ (List.mem_append_right _ (List.mem_append_left _ (List.mem_of_getElem? (i := 99) rfl)))) rfl
theorem kw_340 : (Jvm.Cond.fieldLink "BinTreesModel" (72 : Nat) "BinTreesModel" "oldKid" "[I") ∈ vz_tbl := vz_in (List.mem_append_right _ (List.mem_append_right _ (List.mem_append_left _ (List.mem_of_getElem? (i := 100) rfl)))) rfl
theorem kw_341 : (Jvm.Cond.fieldLink "BinTreesModel" (75 : Nat) "BinTreesModel" "oldThere" "[Z") ∈ vz_tbl := vz_in (List.mem_append_right _ (List.mem_append_right _ (List.mem_append_left _ (List.mem_of_getElem? (i := 101) rfl)))) rfl
theorem kw_395 : (Jvm.Cond.methodLink "BinTreesLaw" (17 : Nat) ({ cls := "BinTreesModel", name := "make", desc := "(I)I" } : Jvm.MethodName)) ∈ vz_tbl := vz_in (List.mem_append_right _ (List.mem_append_right _ (List.mem_append_left _ (List.mem_of_getElem? (i := 155) rfl)))) rfl
theorem kw_396 : (Jvm.Cond.instanceMethod ({ cls := "BinTreesModel", name := "make", desc := "(I)I" } : Jvm.MethodName)) ∈ vz_tbl := vz_in (List.mem_append_right _ (List.mem_append_right _ (List.mem_append_left _ (List.mem_of_getElem? (i := 156) rfl)))) rfl
theorem kw_397 : (Jvm.Cond.selects "BinTreesModel" ({ cls := "BinTreesModel", name := "make", desc := "(I)I" } : Jvm.MethodName) ({ cls := "BinTreesModel", name := "make", desc := "(I)I" } : Jvm.MethodName)) ∈ vz_tbl := vz_in (List.mem_append_right _ (List.mem_append_right _ (List.mem_append_left _ (List.mem_of_getElem? (i := 157) rfl)))) rfl
theorem kw_398 : (Jvm.Cond.code ({ cls := "BinTreesModel", name := "make", desc := "(I)I" } : Jvm.MethodName) prog_6_method_25_code (3 : Nat) (Option.some Jvm.ClassFile.FieldType.int)) ∈ vz_tbl := vz_in (List.mem_append_right _ (List.mem_append_right _ (List.mem_append_left _ (List.mem_of_getElem? (i := 158) rfl)))) rfl
theorem kw_399 : (Jvm.Cond.methodLink "BinTreesModel" (152 : Nat) ({ cls := "BinTreesModel", name := "isNode", desc := "(I)Z" } : Jvm.MethodName)) ∈ vz_tbl := vz_in (List.mem_append_right _ (List.mem_append_right _ (List.mem_append_left _ (List.mem_of_getElem? (i := 159) rfl)))) rfl
theorem kw_400 : (Jvm.Cond.static ({ cls := "BinTreesModel", name := "isNode", desc := "(I)Z" } : Jvm.MethodName)) ∈ vz_tbl := vz_in (List.mem_append_right _ (List.mem_append_right _ (List.mem_append_left _ (List.mem_of_getElem? (i := 160) rfl)))) rfl
theorem kw_401 : (Jvm.Cond.code ({ cls := "BinTreesModel", name := "isNode", desc := "(I)Z" } : Jvm.MethodName) prog_6_method_24_code (1 : Nat) (Option.some Jvm.ClassFile.FieldType.boolean)) ∈ vz_tbl := vz_in (List.mem_append_right _ (List.mem_append_right _ (List.mem_append_left _ (List.mem_of_getElem? (i := 161) rfl)))) rfl
theorem kw_402 : (Jvm.Cond.methodLink "BinTreesModel" (148 : Nat) ({ cls := "BinTreesModel", name := "within", desc := "(III)Z" } : Jvm.MethodName)) ∈ vz_tbl := vz_in (List.mem_append_right _ (List.mem_append_right _ (List.mem_append_left _ (List.mem_of_getElem? (i := 162) rfl)))) rfl
theorem kw_403 : (Jvm.Cond.static ({ cls := "BinTreesModel", name := "within", desc := "(III)Z" } : Jvm.MethodName)) ∈ vz_tbl := vz_in (List.mem_append_right _ (List.mem_append_right _ (List.mem_append_left _ (List.mem_of_getElem? (i := 163) rfl)))) rfl
theorem kw_404 : (Jvm.Cond.code ({ cls := "BinTreesModel", name := "within", desc := "(III)Z" } : Jvm.MethodName) prog_6_method_3_code (3 : Nat) (Option.some Jvm.ClassFile.FieldType.boolean)) ∈ vz_tbl := vz_in (List.mem_append_right _ (List.mem_append_right _ (List.mem_append_left _ (List.mem_of_getElem? (i := 164) rfl)))) rfl
theorem kw_405 : (Jvm.Cond.methodLink "BinTreesModel" (155 : Nat) ({ cls := "BinTreesModel", name := "add", desc := "(IIIII)I" } : Jvm.MethodName)) ∈ vz_tbl := vz_in (List.mem_append_right _ (List.mem_append_right _ (List.mem_append_left _ (List.mem_of_getElem? (i := 165) rfl)))) rfl
theorem kw_407 : (Jvm.Cond.instanceMethod ({ cls := "BinTreesModel", name := "add", desc := "(IIIII)I" } : Jvm.MethodName)) ∈ vz_tbl := vz_in (List.mem_append_right _ (List.mem_append_right _ (List.mem_append_left _ (List.mem_of_getElem? (i := 167) rfl)))) rfl
theorem kw_408 : (Jvm.Cond.code ({ cls := "BinTreesModel", name := "add", desc := "(IIIII)I" } : Jvm.MethodName) prog_6_method_23_code (6 : Nat) (Option.some Jvm.ClassFile.FieldType.int)) ∈ vz_tbl := vz_in (List.mem_append_right _ (List.mem_append_right _ (List.mem_append_left _ (List.mem_of_getElem? (i := 168) rfl)))) rfl
theorem kw_409 : (Jvm.Cond.methodLink "BinTreesModel" (144 : Nat) ({ cls := "BinTreesModel", name := "learn", desc := "(II)V" } : Jvm.MethodName)) ∈ vz_tbl := vz_in (List.mem_append_right _ (List.mem_append_right _ (List.mem_append_left _ (List.mem_of_getElem? (i := 169) rfl)))) rfl
theorem kw_411 : (Jvm.Cond.instanceMethod ({ cls := "BinTreesModel", name := "learn", desc := "(II)V" } : Jvm.MethodName)) ∈ vz_tbl := vz_in (List.mem_append_right _ (List.mem_append_right _ (List.mem_append_left _ (List.mem_of_getElem? (i := 171) rfl)))) rfl
theorem kw_412 : (Jvm.Cond.code ({ cls := "BinTreesModel", name := "learn", desc := "(II)V" } : Jvm.MethodName) prog_6_method_22_code (3 : Nat) (Option.none : Option Jvm.ClassFile.FieldType)) ∈ vz_tbl := vz_in (List.mem_append_right _ (List.mem_append_right _ (List.mem_append_left _ (List.mem_of_getElem? (i := 172) rfl)))) rfl
theorem kw_413 : (Jvm.Cond.methodLink "BinTreesModel" (141 : Nat) ({ cls := "BinTreesModel", name := "costOf", desc := "(II)I" } : Jvm.MethodName)) ∈ vz_tbl := vz_in (List.mem_append_right _ (List.mem_append_right _ (List.mem_append_left _ (List.mem_of_getElem? (i := 173) rfl)))) rfl
theorem kw_415 : (Jvm.Cond.instanceMethod ({ cls := "BinTreesModel", name := "costOf", desc := "(II)I" } : Jvm.MethodName)) ∈ vz_tbl := vz_in (List.mem_append_right _ (List.mem_append_right _ (List.mem_append_left _ (List.mem_of_getElem? (i := 175) rfl)))) rfl
theorem kw_416 : (Jvm.Cond.code ({ cls := "BinTreesModel", name := "costOf", desc := "(II)I" } : Jvm.MethodName) prog_6_method_21_code (6 : Nat) (Option.some Jvm.ClassFile.FieldType.int)) ∈ vz_tbl := vz_in (List.mem_append_right _ (List.mem_append_right _ (List.mem_append_left _ (List.mem_of_getElem? (i := 176) rfl)))) rfl
theorem kw_417 : (Jvm.Cond.methodLink "BinTreesModel" (84 : Nat) ({ cls := "BinTreesModel", name := "knowsRow", desc := "(II)Z" } : Jvm.MethodName)) ∈ vz_tbl := vz_in (List.mem_append_right _ (List.mem_append_right _ (List.mem_append_left _ (List.mem_of_getElem? (i := 177) rfl)))) rfl
theorem kw_419 : (Jvm.Cond.instanceMethod ({ cls := "BinTreesModel", name := "knowsRow", desc := "(II)Z" } : Jvm.MethodName)) ∈ vz_tbl := vz_in (List.mem_append_right _ (List.mem_append_right _ (List.mem_append_left _ (List.mem_of_getElem? (i := 179) rfl)))) rfl
theorem kw_420 : (Jvm.Cond.code ({ cls := "BinTreesModel", name := "knowsRow", desc := "(II)Z" } : Jvm.MethodName) prog_6_method_4_code (3 : Nat) (Option.some Jvm.ClassFile.FieldType.boolean)) ∈ vz_tbl := vz_in (List.mem_append_right _ (List.mem_append_right _ (List.mem_append_left _ (List.mem_of_getElem? (i := 180) rfl)))) rfl
theorem kw_421 : (Jvm.Cond.methodLink "BinTreesModel" (91 : Nat) ({ cls := "BinTreesModel", name := "isBefore", desc := "(II)Z" } : Jvm.MethodName)) ∈ vz_tbl := vz_in (List.mem_append_right _ (List.mem_append_right _ (List.mem_append_left _ (List.mem_of_getElem? (i := 181) rfl)))) rfl
theorem kw_423 : (Jvm.Cond.instanceMethod ({ cls := "BinTreesModel", name := "isBefore", desc := "(II)Z" } : Jvm.MethodName)) ∈ vz_tbl := vz_in (List.mem_append_right _ (List.mem_append_right _ (List.mem_append_left _ (List.mem_of_getElem? (i := 183) rfl)))) rfl
theorem kw_424 : (Jvm.Cond.code ({ cls := "BinTreesModel", name := "isBefore", desc := "(II)Z" } : Jvm.MethodName) prog_6_method_5_code (3 : Nat) (Option.some Jvm.ClassFile.FieldType.boolean)) ∈ vz_tbl := vz_in (List.mem_append_right _ (List.mem_append_right _ (List.mem_append_left _ (List.mem_of_getElem? (i := 184) rfl)))) rfl
theorem kw_425 : (Jvm.Cond.methodLink "BinTreesLaw" (22 : Nat) ({ cls := "BinTreesModel", name := "move", desc := "(IIII)I" } : Jvm.MethodName)) ∈ vz_tbl := vz_in (List.mem_append_right _ (List.mem_append_right _ (List.mem_append_left _ (List.mem_of_getElem? (i := 185) rfl)))) rfl
theorem kw_426 : (Jvm.Cond.instanceMethod ({ cls := "BinTreesModel", name := "move", desc := "(IIII)I" } : Jvm.MethodName)) ∈ vz_tbl := vz_in (List.mem_append_right _ (List.mem_append_right _ (List.mem_append_left _ (List.mem_of_getElem? (i := 186) rfl)))) rfl
theorem kw_427 : (Jvm.Cond.selects "BinTreesModel" ({ cls := "BinTreesModel", name := "move", desc := "(IIII)I" } : Jvm.MethodName) ({ cls := "BinTreesModel", name := "move", desc := "(IIII)I" } : Jvm.MethodName)) ∈ vz_tbl := vz_in (List.mem_append_right _ (List.mem_append_right _ (List.mem_append_left _ (List.mem_of_getElem? (i := 187) rfl)))) rfl
theorem kw_428 : (Jvm.Cond.code ({ cls := "BinTreesModel", name := "move", desc := "(IIII)I" } : Jvm.MethodName) prog_6_method_26_code (5 : Nat) (Option.some Jvm.ClassFile.FieldType.int)) ∈ vz_tbl := vz_in (List.mem_append_right _ (List.mem_append_right _ (List.mem_append_left _ (List.mem_of_getElem? (i := 188) rfl)))) rfl
theorem kw_429 : (Jvm.Cond.methodLink "BinTreesLaw" (27 : Nat) ({ cls := "BinTreesModel", name := "remove", desc := "(IIZ)I" } : Jvm.MethodName)) ∈ vz_tbl := vz_in (List.mem_append_right _ (List.mem_append_right _ (List.mem_append_left _ (List.mem_of_getElem? (i := 189) rfl)))) rfl
theorem kw_430 : (Jvm.Cond.instanceMethod ({ cls := "BinTreesModel", name := "remove", desc := "(IIZ)I" } : Jvm.MethodName)) ∈ vz_tbl := vz_in (List.mem_append_right _ (List.mem_append_right _ (List.mem_append_left _ (List.mem_of_getElem? (i := 190) rfl)))) rfl
theorem kw_431 : (Jvm.Cond.selects "BinTreesModel" ({ cls := "BinTreesModel", name := "remove", desc := "(IIZ)I" } : Jvm.MethodName) ({ cls := "BinTreesModel", name := "remove", desc := "(IIZ)I" } : Jvm.MethodName)) ∈ vz_tbl := vz_in (List.mem_append_right _ (List.mem_append_right _ (List.mem_append_left _ (List.mem_of_getElem? (i := 191) rfl)))) rfl
theorem kw_432 : (Jvm.Cond.code ({ cls := "BinTreesModel", name := "remove", desc := "(IIZ)I" } : Jvm.MethodName) prog_6_method_27_code (4 : Nat) (Option.some Jvm.ClassFile.FieldType.int)) ∈ vz_tbl := vz_in (List.mem_append_right _ (List.mem_append_right _ (List.mem_append_left _ (List.mem_of_getElem? (i := 192) rfl)))) rfl
theorem kw_433 : (Jvm.Cond.methodLink "BinTreesLaw" (32 : Nat) ({ cls := "BinTreesModel", name := "undo", desc := "(II)I" } : Jvm.MethodName)) ∈ vz_tbl := vz_in (List.mem_append_right _ (List.mem_append_right _ (List.mem_append_left _ (List.mem_of_getElem? (i := 193) rfl)))) rfl
theorem kw_434 : (Jvm.Cond.instanceMethod ({ cls := "BinTreesModel", name := "undo", desc := "(II)I" } : Jvm.MethodName)) ∈ vz_tbl := vz_in (List.mem_append_right _ (List.mem_append_right _ (List.mem_append_left _ (List.mem_of_getElem? (i := 194) rfl)))) rfl
theorem kw_435 : (Jvm.Cond.selects "BinTreesModel" ({ cls := "BinTreesModel", name := "undo", desc := "(II)I" } : Jvm.MethodName) ({ cls := "BinTreesModel", name := "undo", desc := "(II)I" } : Jvm.MethodName)) ∈ vz_tbl := vz_in (List.mem_append_right _ (List.mem_append_right _ (List.mem_append_left _ (List.mem_of_getElem? (i := 195) rfl)))) rfl
theorem kw_436 : (Jvm.Cond.code ({ cls := "BinTreesModel", name := "undo", desc := "(II)I" } : Jvm.MethodName) prog_6_method_28_code (3 : Nat) (Option.some Jvm.ClassFile.FieldType.int)) ∈ vz_tbl := vz_in (List.mem_append_right _ (List.mem_append_right _ (List.mem_append_left _ (List.mem_of_getElem? (i := 196) rfl)))) rfl
theorem kw_437 : (Jvm.Cond.methodLink "BinTreesModel" (135 : Nat) ({ cls := "BinTreesModel", name := "isUndone", desc := "(II)Z" } : Jvm.MethodName)) ∈ vz_tbl := vz_in (List.mem_append_right _ (List.mem_append_right _ (List.mem_append_left _ (List.mem_of_getElem? (i := 197) rfl)))) rfl
theorem kw_439 : (Jvm.Cond.instanceMethod ({ cls := "BinTreesModel", name := "isUndone", desc := "(II)Z" } : Jvm.MethodName)) ∈ vz_tbl := vz_in (List.mem_append_right _ (List.mem_append_right _ (List.mem_append_left _ (List.mem_of_getElem? (i := 199) rfl)))) rfl
theorem kw_440 : (Jvm.Cond.code ({ cls := "BinTreesModel", name := "isUndone", desc := "(II)Z" } : Jvm.MethodName) prog_6_method_6_code (4 : Nat) (Option.some Jvm.ClassFile.FieldType.boolean)) ∈ vz_tbl := vz_in (List.mem_append_right _ (List.mem_append_right _ (List.mem_append_left _ (List.mem_of_getElem? (i := 200) rfl)))) rfl
theorem kw_441 : (Jvm.Cond.methodLink "BinTreesLaw" (36 : Nat) ({ cls := "BinTreesModel", name := "see", desc := "(II)I" } : Jvm.MethodName)) ∈ vz_tbl := vz_in (List.mem_append_right _ (List.mem_append_right _ (List.mem_append_left _ (List.mem_of_getElem? (i := 201) rfl)))) rfl
theorem kw_442 : (Jvm.Cond.instanceMethod ({ cls := "BinTreesModel", name := "see", desc := "(II)I" } : Jvm.MethodName)) ∈ vz_tbl := vz_in (List.mem_append_right _ (List.mem_append_right _ (List.mem_append_left _ (List.mem_of_getElem? (i := 202) rfl)))) rfl
theorem kw_443 : (Jvm.Cond.selects "BinTreesModel" ({ cls := "BinTreesModel", name := "see", desc := "(II)I" } : Jvm.MethodName) ({ cls := "BinTreesModel", name := "see", desc := "(II)I" } : Jvm.MethodName)) ∈ vz_tbl := vz_in (List.mem_append_right _ (List.mem_append_right _ (List.mem_append_left _ (List.mem_of_getElem? (i := 203) rfl)))) rfl
theorem kw_444 : (Jvm.Cond.code ({ cls := "BinTreesModel", name := "see", desc := "(II)I" } : Jvm.MethodName) prog_6_method_29_code (3 : Nat) (Option.some Jvm.ClassFile.FieldType.int)) ∈ vz_tbl := vz_in (List.mem_append_right _ (List.mem_append_right _ (List.mem_append_left _ (List.mem_of_getElem? (i := 204) rfl)))) rfl
theorem kw_445 : (Jvm.Cond.methodLink "BinTreesLaw" (40 : Nat) ({ cls := "BinTreesModel", name := "meet", desc := "(II)I" } : Jvm.MethodName)) ∈ vz_tbl := vz_in (List.mem_append_right _ (List.mem_append_right _ (List.mem_append_left _ (List.mem_of_getElem? (i := 205) rfl)))) rfl
theorem kw_446 : (Jvm.Cond.instanceMethod ({ cls := "BinTreesModel", name := "meet", desc := "(II)I" } : Jvm.MethodName)) ∈ vz_tbl := vz_in (List.mem_append_right _ (List.mem_append_right _ (List.mem_append_left _ (List.mem_of_getElem? (i := 206) rfl)))) rfl
theorem kw_447 : (Jvm.Cond.selects "BinTreesModel" ({ cls := "BinTreesModel", name := "meet", desc := "(II)I" } : Jvm.MethodName) ({ cls := "BinTreesModel", name := "meet", desc := "(II)I" } : Jvm.MethodName)) ∈ vz_tbl := vz_in (List.mem_append_right _ (List.mem_append_right _ (List.mem_append_left _ (List.mem_of_getElem? (i := 207) rfl)))) rfl
theorem kw_448 : (Jvm.Cond.code ({ cls := "BinTreesModel", name := "meet", desc := "(II)I" } : Jvm.MethodName) prog_6_method_30_code (5 : Nat) (Option.some Jvm.ClassFile.FieldType.int)) ∈ vz_tbl := vz_in (List.mem_append_right _ (List.mem_append_right _ (List.mem_append_left _ (List.mem_of_getElem? (i := 208) rfl)))) rfl
theorem kw_449 : (Jvm.Cond.methodLink "BinTreesModel" (132 : Nat) ({ cls := "BinTreesModel", name := "findOrder", desc := "(I)V" } : Jvm.MethodName)) ∈ vz_tbl := vz_in (List.mem_append_right _ (List.mem_append_right _ (List.mem_append_left _ (List.mem_of_getElem? (i := 209) rfl)))) rfl
theorem kw_451 : (Jvm.Cond.instanceMethod ({ cls := "BinTreesModel", name := "findOrder", desc := "(I)V" } : Jvm.MethodName)) ∈ vz_tbl := vz_in (List.mem_append_right _ (List.mem_append_right _ (List.mem_append_left _ (List.mem_of_getElem? (i := 211) rfl)))) rfl
theorem kw_452 : (Jvm.Cond.code ({ cls := "BinTreesModel", name := "findOrder", desc := "(I)V" } : Jvm.MethodName) prog_6_method_7_code (4 : Nat) (Option.none : Option Jvm.ClassFile.FieldType)) ∈ vz_tbl := vz_in (List.mem_append_right _ (List.mem_append_right _ (List.mem_append_left _ (List.mem_of_getElem? (i := 212) rfl)))) rfl
theorem kw_453 : (Jvm.Cond.methodLink "BinTreesLaw" (44 : Nat) ({ cls := "BinTreesModel", name := "cost", desc := "(I)I" } : Jvm.MethodName)) ∈ vz_tbl := vz_in (List.mem_append_right _ (List.mem_append_right _ (List.mem_append_left _ (List.mem_of_getElem? (i := 213) rfl)))) rfl
theorem kw_454 : (Jvm.Cond.instanceMethod ({ cls := "BinTreesModel", name := "cost", desc := "(I)I" } : Jvm.MethodName)) ∈ vz_tbl := vz_in (List.mem_append_right _ (List.mem_append_right _ (List.mem_append_left _ (List.mem_of_getElem? (i := 214) rfl)))) rfl
theorem kw_455 : (Jvm.Cond.selects "BinTreesModel" ({ cls := "BinTreesModel", name := "cost", desc := "(I)I" } : Jvm.MethodName) ({ cls := "BinTreesModel", name := "cost", desc := "(I)I" } : Jvm.MethodName)) ∈ vz_tbl := vz_in (List.mem_append_right _ (List.mem_append_right _ (List.mem_append_left _ (List.mem_of_getElem? (i := 215) rfl)))) rfl
theorem kw_456 : (Jvm.Cond.code ({ cls := "BinTreesModel", name := "cost", desc := "(I)I" } : Jvm.MethodName) prog_6_method_31_code (2 : Nat) (Option.some Jvm.ClassFile.FieldType.int)) ∈ vz_tbl := vz_in (List.mem_append_right _ (List.mem_append_right _ (List.mem_append_left _ (List.mem_of_getElem? (i := 216) rfl)))) rfl
theorem kw_457 : (Jvm.Cond.methodLink "BinTreesLaw" (49 : Nat) ({ cls := "BinTreesModel", name := "object", desc := "(III)I" } : Jvm.MethodName)) ∈ vz_tbl := vz_in (List.mem_append_right _ (List.mem_append_right _ (List.mem_append_left _ (List.mem_of_getElem? (i := 217) rfl)))) rfl
theorem kw_458 : (Jvm.Cond.instanceMethod ({ cls := "BinTreesModel", name := "object", desc := "(III)I" } : Jvm.MethodName)) ∈ vz_tbl := vz_in (List.mem_append_right _ (List.mem_append_right _ (List.mem_append_left _ (List.mem_of_getElem? (i := 218) rfl)))) rfl
theorem kw_459 : (Jvm.Cond.selects "BinTreesModel" ({ cls := "BinTreesModel", name := "object", desc := "(III)I" } : Jvm.MethodName) ({ cls := "BinTreesModel", name := "object", desc := "(III)I" } : Jvm.MethodName)) ∈ vz_tbl := vz_in (List.mem_append_right _ (List.mem_append_right _ (List.mem_append_left _ (List.mem_of_getElem? (i := 219) rfl)))) rfl
theorem kw_460 : (Jvm.Cond.code ({ cls := "BinTreesModel", name := "object", desc := "(III)I" } : Jvm.MethodName) prog_6_method_34_code (4 : Nat) (Option.some Jvm.ClassFile.FieldType.int)) ∈ vz_tbl := vz_in (List.mem_append_right _ (List.mem_append_right _ (List.mem_append_left _ (List.mem_of_getElem? (i := 220) rfl)))) rfl
theorem kw_461 : (Jvm.Cond.methodLink "BinTreesModel" (165 : Nat) ({ cls := "BinTreesModel", name := "isIn", desc := "(II)Z" } : Jvm.MethodName)) ∈ vz_tbl := vz_in (List.mem_append_right _ (List.mem_append_right _ (List.mem_append_left _ (List.mem_of_getElem? (i := 221) rfl)))) rfl
theorem kw_463 : (Jvm.Cond.instanceMethod ({ cls := "BinTreesModel", name := "isIn", desc := "(II)Z" } : Jvm.MethodName)) ∈ vz_tbl := vz_in (List.mem_append_right _ (List.mem_append_right _ (List.mem_append_left _ (List.mem_of_getElem? (i := 223) rfl)))) rfl
theorem kw_464 : (Jvm.Cond.code ({ cls := "BinTreesModel", name := "isIn", desc := "(II)Z" } : Jvm.MethodName) prog_6_method_32_code (3 : Nat) (Option.some Jvm.ClassFile.FieldType.boolean)) ∈ vz_tbl := vz_in (List.mem_append_right _ (List.mem_append_right _ (List.mem_append_left _ (List.mem_of_getElem? (i := 224) rfl)))) rfl
theorem kw_465 : (Jvm.Cond.methodLink "BinTreesModel" (162 : Nat) ({ cls := "BinTreesModel", name := "build", desc := "(I)V" } : Jvm.MethodName)) ∈ vz_tbl := vz_in (List.mem_append_right _ (List.mem_append_right _ (List.mem_append_left _ (List.mem_of_getElem? (i := 225) rfl)))) rfl
theorem kw_467 : (Jvm.Cond.instanceMethod ({ cls := "BinTreesModel", name := "build", desc := "(I)V" } : Jvm.MethodName)) ∈ vz_tbl := vz_in (List.mem_append_right _ (List.mem_append_right _ (List.mem_append_left _ (List.mem_of_getElem? (i := 227) rfl)))) rfl
theorem kw_468 : (Jvm.Cond.code ({ cls := "BinTreesModel", name := "build", desc := "(I)V" } : Jvm.MethodName) prog_6_method_20_code (4 : Nat) (Option.none : Option Jvm.ClassFile.FieldType)) ∈ vz_tbl := vz_in (List.mem_append_right _ (List.mem_append_right _ (List.mem_append_left _ (List.mem_of_getElem? (i := 228) rfl)))) rfl
theorem kw_469 : (Jvm.Cond.methodLink "BinTreesModel" (138 : Nat) ({ cls := "BinTreesModel", name := "doRow", desc := "(I)Z" } : Jvm.MethodName)) ∈ vz_tbl := vz_in (List.mem_append_right _ (List.mem_append_right _ (List.mem_append_left _ (List.mem_of_getElem? (i := 229) rfl)))) rfl
theorem kw_471 : (Jvm.Cond.instanceMethod ({ cls := "BinTreesModel", name := "doRow", desc := "(I)Z" } : Jvm.MethodName)) ∈ vz_tbl := vz_in (List.mem_append_right _ (List.mem_append_right _ (List.mem_append_left _ (List.mem_of_getElem? (i := 231) rfl)))) rfl
theorem kw_472 : (Jvm.Cond.code ({ cls := "BinTreesModel", name := "doRow", desc := "(I)Z" } : Jvm.MethodName) prog_6_method_19_code (3 : Nat) (Option.some Jvm.ClassFile.FieldType.boolean)) ∈ vz_tbl := vz_in (List.mem_append_right _ (List.mem_append_right _ (List.mem_append_left _ (List.mem_of_getElem? (i := 232) rfl)))) rfl
theorem kw_473 : (Jvm.Cond.methodLink "BinTreesModel" (118 : Nat) ({ cls := "BinTreesModel", name := "putAt", desc := "(III)V" } : Jvm.MethodName)) ∈ vz_tbl := vz_in (List.mem_append_right _ (List.mem_append_right _ (List.mem_append_left _ (List.mem_of_getElem? (i := 233) rfl)))) rfl
theorem kw_475 : (Jvm.Cond.instanceMethod ({ cls := "BinTreesModel", name := "putAt", desc := "(III)V" } : Jvm.MethodName)) ∈ vz_tbl := vz_in (List.mem_append_right _ (List.mem_append_right _ (List.mem_append_left _ (List.mem_of_getElem? (i := 235) rfl)))) rfl
theorem kw_476 : (Jvm.Cond.code ({ cls := "BinTreesModel", name := "putAt", desc := "(III)V" } : Jvm.MethodName) prog_6_method_9_code (5 : Nat) (Option.none : Option Jvm.ClassFile.FieldType)) ∈ vz_tbl := vz_in (List.mem_append_right _ (List.mem_append_right _ (List.mem_append_left _ (List.mem_of_getElem? (i := 236) rfl)))) rfl
theorem kw_477 : (Jvm.Cond.methodLink "BinTreesModel" (122 : Nat) ({ cls := "BinTreesModel", name := "doMove", desc := "(I)Z" } : Jvm.MethodName)) ∈ vz_tbl := vz_in (List.mem_append_right _ (List.mem_append_right _ (List.mem_append_left _ (List.mem_of_getElem? (i := 237) rfl)))) rfl
theorem kw_479 : (Jvm.Cond.instanceMethod ({ cls := "BinTreesModel", name := "doMove", desc := "(I)Z" } : Jvm.MethodName)) ∈ vz_tbl := vz_in (List.mem_append_right _ (List.mem_append_right _ (List.mem_append_left _ (List.mem_of_getElem? (i := 239) rfl)))) rfl
theorem kw_480 : (Jvm.Cond.code ({ cls := "BinTreesModel", name := "doMove", desc := "(I)Z" } : Jvm.MethodName) prog_6_method_16_code (4 : Nat) (Option.some Jvm.ClassFile.FieldType.boolean)) ∈ vz_tbl := vz_in (List.mem_append_right _ (List.mem_append_right _ (List.mem_append_right _ (List.mem_of_getElem? (i := 0) rfl)))) rfl
theorem kw_481 : (Jvm.Cond.methodLink "BinTreesModel" (107 : Nat) ({ cls := "BinTreesModel", name := "mayGo", desc := "(II)Z" } : Jvm.MethodName)) ∈ vz_tbl := vz_in (List.mem_append_right _ (List.mem_append_right _ (List.mem_append_right _ (List.mem_of_getElem? (i := 1) rfl)))) rfl
theorem kw_483 : (Jvm.Cond.instanceMethod ({ cls := "BinTreesModel", name := "mayGo", desc := "(II)Z" } : Jvm.MethodName)) ∈ vz_tbl := vz_in (List.mem_append_right _ (List.mem_append_right _ (List.mem_append_right _ (List.mem_of_getElem? (i := 3) rfl)))) rfl
theorem kw_484 : (Jvm.Cond.code ({ cls := "BinTreesModel", name := "mayGo", desc := "(II)Z" } : Jvm.MethodName) prog_6_method_14_code (3 : Nat) (Option.some Jvm.ClassFile.FieldType.boolean)) ∈ vz_tbl := vz_in (List.mem_append_right _ (List.mem_append_right _ (List.mem_append_right _ (List.mem_of_getElem? (i := 4) rfl)))) rfl
theorem kw_485 : (Jvm.Cond.methodLink "BinTreesModel" (98 : Nat) ({ cls := "BinTreesModel", name := "isBelow", desc := "(II)Z" } : Jvm.MethodName)) ∈ vz_tbl := vz_in (List.mem_append_right _ (List.mem_append_right _ (List.mem_append_right _ (List.mem_of_getElem? (i := 5) rfl)))) rfl
theorem kw_487 : (Jvm.Cond.instanceMethod ({ cls := "BinTreesModel", name := "isBelow", desc := "(II)Z" } : Jvm.MethodName)) ∈ vz_tbl := vz_in (List.mem_append_right _ (List.mem_append_right _ (List.mem_append_right _ (List.mem_of_getElem? (i := 7) rfl)))) rfl
theorem kw_488 : (Jvm.Cond.code ({ cls := "BinTreesModel", name := "isBelow", desc := "(II)Z" } : Jvm.MethodName) prog_6_method_12_code (4 : Nat) (Option.some Jvm.ClassFile.FieldType.boolean)) ∈ vz_tbl := vz_in (List.mem_append_right _ (List.mem_append_right _ (List.mem_append_right _ (List.mem_of_getElem? (i := 8) rfl)))) rfl
theorem kw_489 : (Jvm.Cond.methodLink "BinTreesModel" (101 : Nat) ({ cls := "BinTreesModel", name := "top", desc := "(I)I" } : Jvm.MethodName)) ∈ vz_tbl := vz_in (List.mem_append_right _ (List.mem_append_right _ (List.mem_append_right _ (List.mem_of_getElem? (i := 9) rfl)))) rfl
theorem kw_491 : (Jvm.Cond.instanceMethod ({ cls := "BinTreesModel", name := "top", desc := "(I)I" } : Jvm.MethodName)) ∈ vz_tbl := vz_in (List.mem_append_right _ (List.mem_append_right _ (List.mem_append_right _ (List.mem_of_getElem? (i := 11) rfl)))) rfl
theorem kw_492 : (Jvm.Cond.code ({ cls := "BinTreesModel", name := "top", desc := "(I)I" } : Jvm.MethodName) prog_6_method_11_code (3 : Nat) (Option.some Jvm.ClassFile.FieldType.int)) ∈ vz_tbl := vz_in (List.mem_append_right _ (List.mem_append_right _ (List.mem_append_right _ (List.mem_of_getElem? (i := 12) rfl)))) rfl
theorem kw_493 : (Jvm.Cond.methodLink "BinTreesModel" (94 : Nat) ({ cls := "BinTreesModel", name := "depth", desc := "(I)I" } : Jvm.MethodName)) ∈ vz_tbl := vz_in (List.mem_append_right _ (List.mem_append_right _ (List.mem_append_right _ (List.mem_of_getElem? (i := 13) rfl)))) rfl
theorem kw_495 : (Jvm.Cond.instanceMethod ({ cls := "BinTreesModel", name := "depth", desc := "(I)I" } : Jvm.MethodName)) ∈ vz_tbl := vz_in (List.mem_append_right _ (List.mem_append_right _ (List.mem_append_right _ (List.mem_of_getElem? (i := 15) rfl)))) rfl
theorem kw_496 : (Jvm.Cond.code ({ cls := "BinTreesModel", name := "depth", desc := "(I)I" } : Jvm.MethodName) prog_6_method_10_code (4 : Nat) (Option.some Jvm.ClassFile.FieldType.int)) ∈ vz_tbl := vz_in (List.mem_append_right _ (List.mem_append_right _ (List.mem_append_right _ (List.mem_of_getElem? (i := 16) rfl)))) rfl
theorem kw_497 : (Jvm.Cond.methodLink "BinTreesModel" (104 : Nat) ({ cls := "BinTreesModel", name := "height", desc := "(I)I" } : Jvm.MethodName)) ∈ vz_tbl := vz_in (List.mem_append_right _ (List.mem_append_right _ (List.mem_append_right _ (List.mem_of_getElem? (i := 17) rfl)))) rfl
theorem kw_499 : (Jvm.Cond.instanceMethod ({ cls := "BinTreesModel", name := "height", desc := "(I)I" } : Jvm.MethodName)) ∈ vz_tbl := vz_in (List.mem_append_right _ (List.mem_append_right _ (List.mem_append_right _ (List.mem_of_getElem? (i := 19) rfl)))) rfl
theorem kw_500 : (Jvm.Cond.code ({ cls := "BinTreesModel", name := "height", desc := "(I)I" } : Jvm.MethodName) prog_6_method_13_code (6 : Nat) (Option.some Jvm.ClassFile.FieldType.int)) ∈ vz_tbl := vz_in (List.mem_append_right _ (List.mem_append_right _ (List.mem_append_right _ (List.mem_of_getElem? (i := 20) rfl)))) rfl
theorem kw_501 : (Jvm.Cond.methodLink "BinTreesModel" (110 : Nat) ({ cls := "BinTreesModel", name := "takeOut", desc := "(I)V" } : Jvm.MethodName)) ∈ vz_tbl := vz_in (List.mem_append_right _ (List.mem_append_right _ (List.mem_append_right _ (List.mem_of_getElem? (i := 21) rfl)))) rfl
theorem kw_503 : (Jvm.Cond.instanceMethod ({ cls := "BinTreesModel", name := "takeOut", desc := "(I)V" } : Jvm.MethodName)) ∈ vz_tbl := vz_in (List.mem_append_right _ (List.mem_append_right _ (List.mem_append_right _ (List.mem_of_getElem? (i := 23) rfl)))) rfl
theorem kw_504 : (Jvm.Cond.code ({ cls := "BinTreesModel", name := "takeOut", desc := "(I)V" } : Jvm.MethodName) prog_6_method_8_code (6 : Nat) (Option.none : Option Jvm.ClassFile.FieldType)) ∈ vz_tbl := vz_in (List.mem_append_right _ (List.mem_append_right _ (List.mem_append_right _ (List.mem_of_getElem? (i := 24) rfl)))) rfl
theorem kw_505 : (Jvm.Cond.methodLink "BinTreesModel" (114 : Nat) ({ cls := "BinTreesModel", name := "placeOf", desc := "(II)I" } : Jvm.MethodName)) ∈ vz_tbl := vz_in (List.mem_append_right _ (List.mem_append_right _ (List.mem_append_right _ (List.mem_of_getElem? (i := 25) rfl)))) rfl
theorem kw_507 : (Jvm.Cond.instanceMethod ({ cls := "BinTreesModel", name := "placeOf", desc := "(II)I" } : Jvm.MethodName)) ∈ vz_tbl := vz_in (List.mem_append_right _ (List.mem_append_right _ (List.mem_append_right _ (List.mem_of_getElem? (i := 27) rfl)))) rfl
theorem kw_508 : (Jvm.Cond.code ({ cls := "BinTreesModel", name := "placeOf", desc := "(II)I" } : Jvm.MethodName) prog_6_method_15_code (4 : Nat) (Option.some Jvm.ClassFile.FieldType.int)) ∈ vz_tbl := vz_in (List.mem_append_right _ (List.mem_append_right _ (List.mem_append_right _ (List.mem_of_getElem? (i := 28) rfl)))) rfl
theorem kw_509 : (Jvm.Cond.methodLink "BinTreesModel" (126 : Nat) ({ cls := "BinTreesModel", name := "doRemove", desc := "(I)Z" } : Jvm.MethodName)) ∈ vz_tbl := vz_in (List.mem_append_right _ (List.mem_append_right _ (List.mem_append_right _ (List.mem_of_getElem? (i := 29) rfl)))) rfl
theorem kw_511 : (Jvm.Cond.instanceMethod ({ cls := "BinTreesModel", name := "doRemove", desc := "(I)Z" } : Jvm.MethodName)) ∈ vz_tbl := vz_in (List.mem_append_right _ (List.mem_append_right _ (List.mem_append_right _ (List.mem_of_getElem? (i := 31) rfl)))) rfl
theorem kw_512 : (Jvm.Cond.code ({ cls := "BinTreesModel", name := "doRemove", desc := "(I)Z" } : Jvm.MethodName) prog_6_method_17_code (2 : Nat) (Option.some Jvm.ClassFile.FieldType.boolean)) ∈ vz_tbl := vz_in (List.mem_append_right _ (List.mem_append_right _ (List.mem_append_right _ (List.mem_of_getElem? (i := 32) rfl)))) rfl
theorem kw_513 : (Jvm.Cond.methodLink "BinTreesModel" (129 : Nat) ({ cls := "BinTreesModel", name := "doRestore", desc := "(I)Z" } : Jvm.MethodName)) ∈ vz_tbl := vz_in (List.mem_append_right _ (List.mem_append_right _ (List.mem_append_right _ (List.mem_of_getElem? (i := 33) rfl)))) rfl
theorem kw_515 : (Jvm.Cond.instanceMethod ({ cls := "BinTreesModel", name := "doRestore", desc := "(I)Z" } : Jvm.MethodName)) ∈ vz_tbl := vz_in (List.mem_append_right _ (List.mem_append_right _ (List.mem_append_right _ (List.mem_of_getElem? (i := 35) rfl)))) rfl
theorem kw_516 : (Jvm.Cond.code ({ cls := "BinTreesModel", name := "doRestore", desc := "(I)Z" } : Jvm.MethodName) prog_6_method_18_code (3 : Nat) (Option.some Jvm.ClassFile.FieldType.boolean)) ∈ vz_tbl := vz_in (List.mem_append_right _ (List.mem_append_right _ (List.mem_append_right _ (List.mem_of_getElem? (i := 36) rfl)))) rfl
theorem kw_517 : (Jvm.Cond.methodLink "BinTreesModel" (168 : Nat) ({ cls := "BinTreesModel", name := "parentOf", desc := "(I)I" } : Jvm.MethodName)) ∈ vz_tbl := vz_in (List.mem_append_right _ (List.mem_append_right _ (List.mem_append_right _ (List.mem_of_getElem? (i := 37) rfl)))) rfl
theorem kw_519 : (Jvm.Cond.instanceMethod ({ cls := "BinTreesModel", name := "parentOf", desc := "(I)I" } : Jvm.MethodName)) ∈ vz_tbl := vz_in (List.mem_append_right _ (List.mem_append_right _ (List.mem_append_right _ (List.mem_of_getElem? (i := 39) rfl)))) rfl
theorem kw_520 : (Jvm.Cond.code ({ cls := "BinTreesModel", name := "parentOf", desc := "(I)I" } : Jvm.MethodName) prog_6_method_33_code (2 : Nat) (Option.some Jvm.ClassFile.FieldType.int)) ∈ vz_tbl := vz_in (List.mem_append_right _ (List.mem_append_right _ (List.mem_append_right _ (List.mem_of_getElem? (i := 40) rfl)))) rfl
theorem kw_521 : (Jvm.Cond.methodLink "BinTreesLaw" (53 : Nat) ({ cls := "BinTreesModel", name := "child", desc := "(III)I" } : Jvm.MethodName)) ∈ vz_tbl := vz_in (List.mem_append_right _ (List.mem_append_right _ (List.mem_append_right _ (List.mem_of_getElem? (i := 41) rfl)))) rfl
theorem kw_522 : (Jvm.Cond.instanceMethod ({ cls := "BinTreesModel", name := "child", desc := "(III)I" } : Jvm.MethodName)) ∈ vz_tbl := vz_in (List.mem_append_right _ (List.mem_append_right _ (List.mem_append_right _ (List.mem_of_getElem? (i := 42) rfl)))) rfl
theorem kw_523 : (Jvm.Cond.selects "BinTreesModel" ({ cls := "BinTreesModel", name := "child", desc := "(III)I" } : Jvm.MethodName) ({ cls := "BinTreesModel", name := "child", desc := "(III)I" } : Jvm.MethodName)) ∈ vz_tbl := vz_in (List.mem_append_right _ (List.mem_append_right _ (List.mem_append_right _ (List.mem_of_getElem? (i := 43) rfl)))) rfl
theorem kw_524 : (Jvm.Cond.code ({ cls := "BinTreesModel", name := "child", desc := "(III)I" } : Jvm.MethodName) prog_6_method_35_code (5 : Nat) (Option.some Jvm.ClassFile.FieldType.int)) ∈ vz_tbl := vz_in (List.mem_append_right _ (List.mem_append_right _ (List.mem_append_right _ (List.mem_of_getElem? (i := 44) rfl)))) rfl
theorem kw_525 : (Jvm.Cond.methodLink "BinTreesLaw" (57 : Nat) ({ cls := "BinTreesModel", name := "row", desc := "(II)I" } : Jvm.MethodName)) ∈ vz_tbl := vz_in (List.mem_append_right _ (List.mem_append_right _ (List.mem_append_right _ (List.mem_of_getElem? (i := 45) rfl)))) rfl
theorem kw_526 : (Jvm.Cond.instanceMethod ({ cls := "BinTreesModel", name := "row", desc := "(II)I" } : Jvm.MethodName)) ∈ vz_tbl := vz_in (List.mem_append_right _ (List.mem_append_right _ (List.mem_append_right _ (List.mem_of_getElem? (i := 46) rfl)))) rfl
theorem kw_527 : (Jvm.Cond.selects "BinTreesModel" ({ cls := "BinTreesModel", name := "row", desc := "(II)I" } : Jvm.MethodName) ({ cls := "BinTreesModel", name := "row", desc := "(II)I" } : Jvm.MethodName)) ∈ vz_tbl := vz_in (List.mem_append_right _ (List.mem_append_right _ (List.mem_append_right _ (List.mem_of_getElem? (i := 47) rfl)))) rfl
theorem kw_528 : (Jvm.Cond.code ({ cls := "BinTreesModel", name := "row", desc := "(II)I" } : Jvm.MethodName) prog_6_method_36_code (3 : Nat) (Option.some Jvm.ClassFile.FieldType.int)) ∈ vz_tbl := vz_in (List.mem_append_right _ (List.mem_append_right _ (List.mem_append_right _ (List.mem_of_getElem? (i := 48) rfl)))) rfl
theorem kw_529 : (Jvm.Cond.methodLink "BinTreesLaw" (61 : Nat) ({ cls := "BinTreesModel", name := "judged", desc := "(II)I" } : Jvm.MethodName)) ∈ vz_tbl := vz_in (List.mem_append_right _ (List.mem_append_right _ (List.mem_append_right _ (List.mem_of_getElem? (i := 49) rfl)))) rfl
theorem kw_530 : (Jvm.Cond.instanceMethod ({ cls := "BinTreesModel", name := "judged", desc := "(II)I" } : Jvm.MethodName)) ∈ vz_tbl := vz_in (List.mem_append_right _ (List.mem_append_right _ (List.mem_append_right _ (List.mem_of_getElem? (i := 50) rfl)))) rfl
theorem kw_531 : (Jvm.Cond.selects "BinTreesModel" ({ cls := "BinTreesModel", name := "judged", desc := "(II)I" } : Jvm.MethodName) ({ cls := "BinTreesModel", name := "judged", desc := "(II)I" } : Jvm.MethodName)) ∈ vz_tbl := vz_in (List.mem_append_right _ (List.mem_append_right _ (List.mem_append_right _ (List.mem_of_getElem? (i := 51) rfl)))) rfl
theorem kw_532 : (Jvm.Cond.code ({ cls := "BinTreesModel", name := "judged", desc := "(II)I" } : Jvm.MethodName) prog_6_method_37_code (3 : Nat) (Option.some Jvm.ClassFile.FieldType.int)) ∈ vz_tbl := vz_in (List.mem_append_right _ (List.mem_append_right _ (List.mem_append_right _ (List.mem_of_getElem? (i := 52) rfl)))) rfl
theorem kw_533 : (Jvm.Cond.methodLink "BinTreesLaw" (66 : Nat) ({ cls := "BinTreesModel", name := "alike", desc := "(II)Z" } : Jvm.MethodName)) ∈ vz_tbl := vz_in (List.mem_append_right _ (List.mem_append_right _ (List.mem_append_right _ (List.mem_of_getElem? (i := 53) rfl)))) rfl
theorem kw_534 : (Jvm.Cond.instanceMethod ({ cls := "BinTreesModel", name := "alike", desc := "(II)Z" } : Jvm.MethodName)) ∈ vz_tbl := vz_in (List.mem_append_right _ (List.mem_append_right _ (List.mem_append_right _ (List.mem_of_getElem? (i := 54) rfl)))) rfl
theorem kw_535 : (Jvm.Cond.selects "BinTreesModel" ({ cls := "BinTreesModel", name := "alike", desc := "(II)Z" } : Jvm.MethodName) ({ cls := "BinTreesModel", name := "alike", desc := "(II)Z" } : Jvm.MethodName)) ∈ vz_tbl := vz_in (List.mem_append_right _ (List.mem_append_right _ (List.mem_append_right _ (List.mem_of_getElem? (i := 55) rfl)))) rfl
theorem kw_536 : (Jvm.Cond.code ({ cls := "BinTreesModel", name := "alike", desc := "(II)Z" } : Jvm.MethodName) prog_6_method_38_code (5 : Nat) (Option.some Jvm.ClassFile.FieldType.boolean)) ∈ vz_tbl := vz_in (List.mem_append_right _ (List.mem_append_right _ (List.mem_append_right _ (List.mem_of_getElem? (i := 56) rfl)))) rfl
theorem kw_537 : (Jvm.Cond.methodLink "BinTreesLaw" (70 : Nat) ({ cls := "BinTreesModel", name := "total", desc := "(I)I" } : Jvm.MethodName)) ∈ vz_tbl := vz_in (List.mem_append_right _ (List.mem_append_right _ (List.mem_append_right _ (List.mem_of_getElem? (i := 57) rfl)))) rfl
theorem kw_538 : (Jvm.Cond.instanceMethod ({ cls := "BinTreesModel", name := "total", desc := "(I)I" } : Jvm.MethodName)) ∈ vz_tbl := vz_in (List.mem_append_right _ (List.mem_append_right _ (List.mem_append_right _ (List.mem_of_getElem? (i := 58) rfl)))) rfl
theorem kw_539 : (Jvm.Cond.selects "BinTreesModel" ({ cls := "BinTreesModel", name := "total", desc := "(I)I" } : Jvm.MethodName) ({ cls := "BinTreesModel", name := "total", desc := "(I)I" } : Jvm.MethodName)) ∈ vz_tbl := vz_in (List.mem_append_right _ (List.mem_append_right _ (List.mem_append_right _ (List.mem_of_getElem? (i := 59) rfl)))) rfl
theorem kw_540 : (Jvm.Cond.code ({ cls := "BinTreesModel", name := "total", desc := "(I)I" } : Jvm.MethodName) prog_6_method_42_code (3 : Nat) (Option.some Jvm.ClassFile.FieldType.int)) ∈ vz_tbl := vz_in (List.mem_append_right _ (List.mem_append_right _ (List.mem_append_right _ (List.mem_of_getElem? (i := 60) rfl)))) rfl
theorem kw_541 : (Jvm.Cond.methodLink "BinTreesModel" (171 : Nat) ({ cls := "BinTreesModel", name := "knownRows", desc := "(I)I" } : Jvm.MethodName)) ∈ vz_tbl := vz_in (List.mem_append_right _ (List.mem_append_right _ (List.mem_append_right _ (List.mem_of_getElem? (i := 61) rfl)))) rfl
theorem kw_543 : (Jvm.Cond.instanceMethod ({ cls := "BinTreesModel", name := "knownRows", desc := "(I)I" } : Jvm.MethodName)) ∈ vz_tbl := vz_in (List.mem_append_right _ (List.mem_append_right _ (List.mem_append_right _ (List.mem_of_getElem? (i := 63) rfl)))) rfl
theorem kw_544 : (Jvm.Cond.code ({ cls := "BinTreesModel", name := "knownRows", desc := "(I)I" } : Jvm.MethodName) prog_6_method_39_code (4 : Nat) (Option.some Jvm.ClassFile.FieldType.int)) ∈ vz_tbl := vz_in (List.mem_append_right _ (List.mem_append_right _ (List.mem_append_right _ (List.mem_of_getElem? (i := 64) rfl)))) rfl
theorem kw_545 : (Jvm.Cond.methodLink "BinTreesModel" (174 : Nat) ({ cls := "BinTreesModel", name := "thereOf", desc := "(I)I" } : Jvm.MethodName)) ∈ vz_tbl := vz_in (List.mem_append_right _ (List.mem_append_right _ (List.mem_append_right _ (List.mem_of_getElem? (i := 65) rfl)))) rfl
theorem kw_547 : (Jvm.Cond.instanceMethod ({ cls := "BinTreesModel", name := "thereOf", desc := "(I)I" } : Jvm.MethodName)) ∈ vz_tbl := vz_in (List.mem_append_right _ (List.mem_append_right _ (List.mem_append_right _ (List.mem_of_getElem? (i := 67) rfl)))) rfl
theorem kw_548 : (Jvm.Cond.code ({ cls := "BinTreesModel", name := "thereOf", desc := "(I)I" } : Jvm.MethodName) prog_6_method_40_code (4 : Nat) (Option.some Jvm.ClassFile.FieldType.int)) ∈ vz_tbl := vz_in (List.mem_append_right _ (List.mem_append_right _ (List.mem_append_right _ (List.mem_of_getElem? (i := 68) rfl)))) rfl
theorem kw_549 : (Jvm.Cond.methodLink "BinTreesModel" (177 : Nat) ({ cls := "BinTreesModel", name := "binOf", desc := "(I)I" } : Jvm.MethodName)) ∈ vz_tbl := vz_in (List.mem_append_right _ (List.mem_append_right _ (List.mem_append_right _ (List.mem_of_getElem? (i := 69) rfl)))) rfl
theorem kw_551 : (Jvm.Cond.instanceMethod ({ cls := "BinTreesModel", name := "binOf", desc := "(I)I" } : Jvm.MethodName)) ∈ vz_tbl := vz_in (List.mem_append_right _ (List.mem_append_right _ (List.mem_append_right _ (List.mem_of_getElem? (i := 71) rfl)))) rfl
theorem kw_552 : (Jvm.Cond.code ({ cls := "BinTreesModel", name := "binOf", desc := "(I)I" } : Jvm.MethodName) prog_6_method_41_code (2 : Nat) (Option.some Jvm.ClassFile.FieldType.int)) ∈ vz_tbl := vz_in (List.mem_append_right _ (List.mem_append_right _ (List.mem_append_right _ (List.mem_of_getElem? (i := 72) rfl)))) rfl
theorem ks_0 : Cond.selects "BinTrees" (⟨"BinTrees", "mayWrite", "(I)Z"⟩ : MethodName) ⟨"BinTrees", "mayWrite", "(I)Z"⟩ ∈ vz_tbl := vz_in (List.mem_append_left _ (List.mem_of_getElem? (i := 0) rfl)) rfl
theorem ks_1 : Cond.selects "BinTrees$Log" (⟨"BinTrees$Log", "putInOrder", "(I)V"⟩ : MethodName) ⟨"BinTrees$Log", "putInOrder", "(I)V"⟩ ∈ vz_tbl := vz_in (List.mem_append_left _ (List.mem_of_getElem? (i := 1) rfl)) rfl
theorem ks_2 : Cond.selects "BinTrees$Log" (⟨"BinTrees$Log", "isAhead", "(II)Z"⟩ : MethodName) ⟨"BinTrees$Log", "isAhead", "(II)Z"⟩ ∈ vz_tbl := vz_in (List.mem_append_left _ (List.mem_of_getElem? (i := 2) rfl)) rfl
theorem ks_3 : Cond.selects "BinTrees" (⟨"BinTrees", "told", "(II)I"⟩ : MethodName) ⟨"BinTrees", "told", "(II)I"⟩ ∈ vz_tbl := vz_in (List.mem_append_left _ (List.mem_of_getElem? (i := 3) rfl)) rfl
theorem ks_4 : Cond.selects "BinTrees$Person" (⟨"BinTrees$Person", "countFrom", "(LBinTrees$Log;I)I"⟩ : MethodName) ⟨"BinTrees$Person", "countFrom", "(LBinTrees$Log;I)I"⟩ ∈ vz_tbl := vz_in (List.mem_append_left _ (List.mem_of_getElem? (i := 4) rfl)) rfl
theorem ks_5 : Cond.selects "BinTrees$Tree" (⟨"BinTrees$Tree", "putAt", "(III)V"⟩ : MethodName) ⟨"BinTrees$Tree", "putAt", "(III)V"⟩ ∈ vz_tbl := vz_in (List.mem_append_left _ (List.mem_of_getElem? (i := 5) rfl)) rfl
theorem ks_6 : Cond.selects "BinTrees$Tree" (⟨"BinTrees$Tree", "mayLie", "(II)Z"⟩ : MethodName) ⟨"BinTrees$Tree", "mayLie", "(II)Z"⟩ ∈ vz_tbl := vz_in (List.mem_append_left _ (List.mem_of_getElem? (i := 6) rfl)) rfl
theorem ks_7 : Cond.selects "BinTrees$Tree" (⟨"BinTrees$Tree", "takeOut", "(I)V"⟩ : MethodName) ⟨"BinTrees$Tree", "takeOut", "(I)V"⟩ ∈ vz_tbl := vz_in (List.mem_append_left _ (List.mem_of_getElem? (i := 7) rfl)) rfl
theorem ks_8 : Cond.selects "BinTrees$Tree" (⟨"BinTrees$Tree", "spotBehind", "(II)I"⟩ : MethodName) ⟨"BinTrees$Tree", "spotBehind", "(II)I"⟩ ∈ vz_tbl := vz_in (List.mem_append_left _ (List.mem_of_getElem? (i := 8) rfl)) rfl
theorem ks_9 : Cond.selects "BinTrees" (⟨"BinTrees", "isMade", "(I)Z"⟩ : MethodName) ⟨"BinTrees", "isMade", "(I)Z"⟩ ∈ vz_tbl := vz_in (List.mem_append_left _ (List.mem_of_getElem? (i := 9) rfl)) rfl
theorem ks_10 : Cond.selects "BinTrees" (⟨"BinTrees", "isObject", "(I)Z"⟩ : MethodName) ⟨"BinTrees", "isObject", "(I)Z"⟩ ∈ vz_tbl := vz_in (List.mem_append_left _ (List.mem_of_getElem? (i := 10) rfl)) rfl
theorem ks_11 : Cond.selects "BinTrees" (⟨"BinTrees", "isRow", "(I)Z"⟩ : MethodName) ⟨"BinTrees", "isRow", "(I)Z"⟩ ∈ vz_tbl := vz_in (List.mem_append_left _ (List.mem_of_getElem? (i := 11) rfl)) rfl
theorem ks_12 : Cond.selects "BinTreesModel" (⟨"BinTreesModel", "add", "(IIIII)I"⟩ : MethodName) ⟨"BinTreesModel", "add", "(IIIII)I"⟩ ∈ vz_tbl := vz_in (List.mem_append_left _ (List.mem_of_getElem? (i := 12) rfl)) rfl
theorem ks_13 : Cond.selects "BinTreesModel" (⟨"BinTreesModel", "learn", "(II)V"⟩ : MethodName) ⟨"BinTreesModel", "learn", "(II)V"⟩ ∈ vz_tbl := vz_in (List.mem_append_left _ (List.mem_of_getElem? (i := 13) rfl)) rfl
theorem ks_14 : Cond.selects "BinTreesModel" (⟨"BinTreesModel", "costOf", "(II)I"⟩ : MethodName) ⟨"BinTreesModel", "costOf", "(II)I"⟩ ∈ vz_tbl := vz_in (List.mem_append_left _ (List.mem_of_getElem? (i := 14) rfl)) rfl
theorem ks_15 : Cond.selects "BinTreesModel" (⟨"BinTreesModel", "knowsRow", "(II)Z"⟩ : MethodName) ⟨"BinTreesModel", "knowsRow", "(II)Z"⟩ ∈ vz_tbl := vz_in (List.mem_append_left _ (List.mem_of_getElem? (i := 15) rfl)) rfl
theorem ks_16 : Cond.selects "BinTreesModel" (⟨"BinTreesModel", "isBefore", "(II)Z"⟩ : MethodName) ⟨"BinTreesModel", "isBefore", "(II)Z"⟩ ∈ vz_tbl := vz_in (List.mem_append_left _ (List.mem_of_getElem? (i := 16) rfl)) rfl
theorem ks_17 : Cond.selects "BinTreesModel" (⟨"BinTreesModel", "isUndone", "(II)Z"⟩ : MethodName) ⟨"BinTreesModel", "isUndone", "(II)Z"⟩ ∈ vz_tbl := vz_in (List.mem_append_left _ (List.mem_of_getElem? (i := 17) rfl)) rfl
theorem ks_18 : Cond.selects "BinTreesModel" (⟨"BinTreesModel", "findOrder", "(I)V"⟩ : MethodName) ⟨"BinTreesModel", "findOrder", "(I)V"⟩ ∈ vz_tbl := vz_in (List.mem_append_left _ (List.mem_of_getElem? (i := 18) rfl)) rfl
theorem ks_19 : Cond.selects "BinTreesModel" (⟨"BinTreesModel", "isIn", "(II)Z"⟩ : MethodName) ⟨"BinTreesModel", "isIn", "(II)Z"⟩ ∈ vz_tbl := vz_in (List.mem_append_left _ (List.mem_of_getElem? (i := 19) rfl)) rfl
theorem ks_20 : Cond.selects "BinTreesModel" (⟨"BinTreesModel", "build", "(I)V"⟩ : MethodName) ⟨"BinTreesModel", "build", "(I)V"⟩ ∈ vz_tbl := vz_in (List.mem_append_left _ (List.mem_of_getElem? (i := 20) rfl)) rfl
theorem ks_21 : Cond.selects "BinTreesModel" (⟨"BinTreesModel", "doRow", "(I)Z"⟩ : MethodName) ⟨"BinTreesModel", "doRow", "(I)Z"⟩ ∈ vz_tbl := vz_in (List.mem_append_left _ (List.mem_of_getElem? (i := 21) rfl)) rfl
theorem ks_22 : Cond.selects "BinTreesModel" (⟨"BinTreesModel", "putAt", "(III)V"⟩ : MethodName) ⟨"BinTreesModel", "putAt", "(III)V"⟩ ∈ vz_tbl := vz_in (List.mem_append_left _ (List.mem_of_getElem? (i := 22) rfl)) rfl
theorem ks_23 : Cond.selects "BinTreesModel" (⟨"BinTreesModel", "doMove", "(I)Z"⟩ : MethodName) ⟨"BinTreesModel", "doMove", "(I)Z"⟩ ∈ vz_tbl := vz_in (List.mem_append_left _ (List.mem_of_getElem? (i := 23) rfl)) rfl
theorem ks_24 : Cond.selects "BinTreesModel" (⟨"BinTreesModel", "mayGo", "(II)Z"⟩ : MethodName) ⟨"BinTreesModel", "mayGo", "(II)Z"⟩ ∈ vz_tbl := vz_in (List.mem_append_left _ (List.mem_of_getElem? (i := 24) rfl)) rfl
theorem ks_25 : Cond.selects "BinTreesModel" (⟨"BinTreesModel", "isBelow", "(II)Z"⟩ : MethodName) ⟨"BinTreesModel", "isBelow", "(II)Z"⟩ ∈ vz_tbl := vz_in (List.mem_append_left _ (List.mem_of_getElem? (i := 25) rfl)) rfl
theorem ks_26 : Cond.selects "BinTreesModel" (⟨"BinTreesModel", "top", "(I)I"⟩ : MethodName) ⟨"BinTreesModel", "top", "(I)I"⟩ ∈ vz_tbl := vz_in (List.mem_append_left _ (List.mem_of_getElem? (i := 26) rfl)) rfl
theorem ks_27 : Cond.selects "BinTreesModel" (⟨"BinTreesModel", "depth", "(I)I"⟩ : MethodName) ⟨"BinTreesModel", "depth", "(I)I"⟩ ∈ vz_tbl := vz_in (List.mem_append_left _ (List.mem_of_getElem? (i := 27) rfl)) rfl
theorem ks_28 : Cond.selects "BinTreesModel" (⟨"BinTreesModel", "height", "(I)I"⟩ : MethodName) ⟨"BinTreesModel", "height", "(I)I"⟩ ∈ vz_tbl := vz_in (List.mem_append_left _ (List.mem_of_getElem? (i := 28) rfl)) rfl
theorem ks_29 : Cond.selects "BinTreesModel" (⟨"BinTreesModel", "takeOut", "(I)V"⟩ : MethodName) ⟨"BinTreesModel", "takeOut", "(I)V"⟩ ∈ vz_tbl := vz_in (List.mem_append_left _ (List.mem_of_getElem? (i := 29) rfl)) rfl
theorem ks_30 : Cond.selects "BinTreesModel" (⟨"BinTreesModel", "placeOf", "(II)I"⟩ : MethodName) ⟨"BinTreesModel", "placeOf", "(II)I"⟩ ∈ vz_tbl := vz_in (List.mem_append_left _ (List.mem_of_getElem? (i := 30) rfl)) rfl
theorem ks_31 : Cond.selects "BinTreesModel" (⟨"BinTreesModel", "doRemove", "(I)Z"⟩ : MethodName) ⟨"BinTreesModel", "doRemove", "(I)Z"⟩ ∈ vz_tbl := vz_in (List.mem_append_left _ (List.mem_of_getElem? (i := 31) rfl)) rfl
theorem ks_32 : Cond.selects "BinTreesModel" (⟨"BinTreesModel", "doRestore", "(I)Z"⟩ : MethodName) ⟨"BinTreesModel", "doRestore", "(I)Z"⟩ ∈ vz_tbl := vz_in (List.mem_append_left _ (List.mem_of_getElem? (i := 32) rfl)) rfl
theorem ks_33 : Cond.selects "BinTreesModel" (⟨"BinTreesModel", "parentOf", "(I)I"⟩ : MethodName) ⟨"BinTreesModel", "parentOf", "(I)I"⟩ ∈ vz_tbl := vz_in (List.mem_append_left _ (List.mem_of_getElem? (i := 33) rfl)) rfl
theorem ks_34 : Cond.selects "BinTreesModel" (⟨"BinTreesModel", "knownRows", "(I)I"⟩ : MethodName) ⟨"BinTreesModel", "knownRows", "(I)I"⟩ ∈ vz_tbl := vz_in (List.mem_append_left _ (List.mem_of_getElem? (i := 34) rfl)) rfl
theorem ks_35 : Cond.selects "BinTreesModel" (⟨"BinTreesModel", "thereOf", "(I)I"⟩ : MethodName) ⟨"BinTreesModel", "thereOf", "(I)I"⟩ ∈ vz_tbl := vz_in (List.mem_append_left _ (List.mem_of_getElem? (i := 35) rfl)) rfl
theorem ks_36 : Cond.selects "BinTreesModel" (⟨"BinTreesModel", "binOf", "(I)I"⟩ : MethodName) ⟨"BinTreesModel", "binOf", "(I)I"⟩ ∈ vz_tbl := vz_in (List.mem_append_left _ (List.mem_of_getElem? (i := 36) rfl)) rfl
