-- ===== PART A: goes FIRST, ahead of the names: the tables' words, and 'selects' of the private methods out of them =====
/-- a private method of a class that the tables say can be made, by its rows of tables_1 -/
def lw_okq (q : MethodName × Nat) : Prop := (q.1.cls ≠ "java/lang/invoke/MethodHandle" ∧ q.1.cls ≠ "java/lang/invoke/VarHandle") ∧ Cond.instantiable q.1.cls q.2 ∈ tables_1 ∧ Cond.privateMethod q.1 ∈ tables_1 ∧ Cond.instanceMethod q.1 ∈ tables_1
theorem lw_p0 : lw_okq (⟨"PouredScreen", "remember", "()LPouredScreen$Sheet;"⟩, 5) := ⟨⟨by decide +kernel, by decide +kernel⟩, List.mem_of_getElem? (i := 9) (by decide +kernel), List.mem_of_getElem? (i := 185) (by decide +kernel), List.mem_of_getElem? (i := 186) (by decide +kernel)⟩
theorem lw_p1 : lw_okq (⟨"PouredScreen", "stateAt", "(I)LPouredScreen$Sheet;"⟩, 5) := ⟨⟨by decide +kernel, by decide +kernel⟩, List.mem_of_getElem? (i := 9) (by decide +kernel), List.mem_of_getElem? (i := 189) (by decide +kernel), List.mem_of_getElem? (i := 190) (by decide +kernel)⟩
theorem lw_p2 : lw_okq (⟨"PouredScreen$Sheet", "goOn", "()Z"⟩, 9) := ⟨⟨by decide +kernel, by decide +kernel⟩, List.mem_of_getElem? (i := 17) (by decide +kernel), List.mem_of_getElem? (i := 223) (by decide +kernel), List.mem_of_getElem? (i := 224) (by decide +kernel)⟩
theorem lw_p3 : lw_okq (⟨"PouredScreen$Sheet", "pushTopRow", "()V"⟩, 9) := ⟨⟨by decide +kernel, by decide +kernel⟩, List.mem_of_getElem? (i := 17) (by decide +kernel), List.mem_of_getElem? (i := 231) (by decide +kernel), List.mem_of_getElem? (i := 232) (by decide +kernel)⟩
theorem lw_p4 : lw_okq (⟨"PouredScreen$Sheet", "carryBlank", "(II)V"⟩, 9) := ⟨⟨by decide +kernel, by decide +kernel⟩, List.mem_of_getElem? (i := 17) (by decide +kernel), List.mem_of_getElem? (i := 239) (by decide +kernel), List.mem_of_getElem? (i := 240) (by decide +kernel)⟩
theorem lw_p5 : lw_okq (⟨"PouredScreen$Sheet", "takeRow", "(I)V"⟩, 9) := ⟨⟨by decide +kernel, by decide +kernel⟩, List.mem_of_getElem? (i := 17) (by decide +kernel), List.mem_of_getElem? (i := 244) (by decide +kernel), List.mem_of_getElem? (i := 245) (by decide +kernel)⟩
theorem lw_p6 : lw_okq (⟨"PouredScreen$Sheet", "unmarkAbove", "(I)V"⟩, 9) := ⟨⟨by decide +kernel, by decide +kernel⟩, List.mem_of_getElem? (i := 17) (by decide +kernel), List.mem_of_getElem? (i := 248) (by decide +kernel), List.mem_of_getElem? (i := 249) (by decide +kernel)⟩
theorem lw_p7 : lw_okq (⟨"PouredScreen$Row", "set", "(II)V"⟩, 3) := ⟨⟨by decide +kernel, by decide +kernel⟩, List.mem_of_getElem? (i := 49) (by decide +kernel), List.mem_of_getElem? (i := 272) (by decide +kernel), List.mem_of_getElem? (i := 273) (by decide +kernel)⟩
theorem lw_p8 : lw_okq (⟨"PouredScreen", "obey", "(I)V"⟩, 5) := ⟨⟨by decide +kernel, by decide +kernel⟩, List.mem_of_getElem? (i := 9) (by decide +kernel), List.mem_of_getElem? (i := 281) (by decide +kernel), List.mem_of_getElem? (i := 282) (by decide +kernel)⟩
theorem lw_p9 : lw_okq (⟨"PouredScreen$Pouring", "rowsBefore", "(LPouredScreen$Sheet;II)I"⟩, 13) := ⟨⟨by decide +kernel, by decide +kernel⟩, List.mem_of_getElem? (i := 116) (by decide +kernel), List.mem_of_getElem? (i := 313) (by decide +kernel), List.mem_of_getElem? (i := 314) (by decide +kernel)⟩
theorem lw_p10 : lw_okq (⟨"PouredScreen$Pouring", "pourLines", "(LPouredScreen$Sheet;LPouredScreen$Sheet;I)V"⟩, 13) := ⟨⟨by decide +kernel, by decide +kernel⟩, List.mem_of_getElem? (i := 116) (by decide +kernel), List.mem_of_getElem? (i := 342) (by decide +kernel), List.mem_of_getElem? (i := 343) (by decide +kernel)⟩
theorem lw_p11 : lw_okq (⟨"PouredScreen$Pouring", "pourLine", "(LPouredScreen$Sheet;I)V"⟩, 13) := ⟨⟨by decide +kernel, by decide +kernel⟩, List.mem_of_getElem? (i := 116) (by decide +kernel), List.mem_of_getElem? (i := 346) (by decide +kernel), List.mem_of_getElem? (i := 347) (by decide +kernel)⟩
theorem lw_p12 : lw_okq (⟨"PouredScreen$Pouring", "follow", "(LPouredScreen$Sheet;LPouredScreen$Place;LPouredScreen$Sheet;LPouredScreen$Place;I)V"⟩, 13) := ⟨⟨by decide +kernel, by decide +kernel⟩, List.mem_of_getElem? (i := 116) (by decide +kernel), List.mem_of_getElem? (i := 351) (by decide +kernel), List.mem_of_getElem? (i := 352) (by decide +kernel)⟩
theorem lw_p13 : lw_okq (⟨"PouredScreen$Pouring", "readUpTo", "(I)Z"⟩, 13) := ⟨⟨by decide +kernel, by decide +kernel⟩, List.mem_of_getElem? (i := 116) (by decide +kernel), List.mem_of_getElem? (i := 376) (by decide +kernel), List.mem_of_getElem? (i := 377) (by decide +kernel)⟩
theorem lw_p14 : lw_okq (⟨"PouredScreen$Sheet", "linesBefore", "(I)I"⟩, 9) := ⟨⟨by decide +kernel, by decide +kernel⟩, List.mem_of_getElem? (i := 17) (by decide +kernel), List.mem_of_getElem? (i := 401) (by decide +kernel), List.mem_of_getElem? (i := 402) (by decide +kernel)⟩
def lw_privs_1 : List (MethodName × Nat) := [(⟨"PouredScreen", "remember", "()LPouredScreen$Sheet;"⟩, 5), (⟨"PouredScreen", "stateAt", "(I)LPouredScreen$Sheet;"⟩, 5), (⟨"PouredScreen$Sheet", "goOn", "()Z"⟩, 9), (⟨"PouredScreen$Sheet", "pushTopRow", "()V"⟩, 9), (⟨"PouredScreen$Sheet", "carryBlank", "(II)V"⟩, 9), (⟨"PouredScreen$Sheet", "takeRow", "(I)V"⟩, 9), (⟨"PouredScreen$Sheet", "unmarkAbove", "(I)V"⟩, 9), (⟨"PouredScreen$Row", "set", "(II)V"⟩, 3), (⟨"PouredScreen", "obey", "(I)V"⟩, 5), (⟨"PouredScreen$Pouring", "rowsBefore", "(LPouredScreen$Sheet;II)I"⟩, 13), (⟨"PouredScreen$Pouring", "pourLines", "(LPouredScreen$Sheet;LPouredScreen$Sheet;I)V"⟩, 13), (⟨"PouredScreen$Pouring", "pourLine", "(LPouredScreen$Sheet;I)V"⟩, 13), (⟨"PouredScreen$Pouring", "follow", "(LPouredScreen$Sheet;LPouredScreen$Place;LPouredScreen$Sheet;LPouredScreen$Place;I)V"⟩, 13), (⟨"PouredScreen$Pouring", "readUpTo", "(I)Z"⟩, 13), (⟨"PouredScreen$Sheet", "linesBefore", "(I)I"⟩, 9)]
theorem lw_r1 : ∀ q ∈ lw_privs_1, lw_okq q := List.forall_mem_cons.mpr ⟨lw_p0, List.forall_mem_cons.mpr ⟨lw_p1, List.forall_mem_cons.mpr ⟨lw_p2, List.forall_mem_cons.mpr ⟨lw_p3, List.forall_mem_cons.mpr ⟨lw_p4, List.forall_mem_cons.mpr ⟨lw_p5, List.forall_mem_cons.mpr ⟨lw_p6, List.forall_mem_cons.mpr ⟨lw_p7, List.forall_mem_cons.mpr ⟨lw_p8, List.forall_mem_cons.mpr ⟨lw_p9, List.forall_mem_cons.mpr ⟨lw_p10, List.forall_mem_cons.mpr ⟨lw_p11, List.forall_mem_cons.mpr ⟨lw_p12, List.forall_mem_cons.mpr ⟨lw_p13, List.forall_mem_cons.mpr ⟨lw_p14, fun _ h => absurd h List.not_mem_nil⟩⟩⟩⟩⟩⟩⟩⟩⟩⟩⟩⟩⟩⟩⟩
def lw_privs : List (MethodName × Nat) := lw_privs_1
def lw_tbl : List Cond := k2_sels lw_privs ++ tables_1
theorem lw_privs_ok : ∀ q ∈ lw_privs, lw_okq q := lw_r1

def RX0 : String := "PouredScreen$Place"
def TX0 : u_T := fun k => match k with
  | 0 => ("PouredScreen$Place", "row", "I", false)
  | 1 => ("PouredScreen$Place", "column", "I", false)
  | _ => ("PouredScreen$Place", "pending", "Z", false)
def tyX0 : Nat → FieldType := fun k => match k with
  | 0 => .int
  | 1 => .int
  | _ => .boolean
abbrev wsX00 : List Cond := u_ws RX0 TX0 3
theorem nmX0 : ∀ a, a < 3 → ∀ b, b < 3 → a ≠ b → (TX0 a).2.1 ≠ (TX0 b).2.1 := by decide +kernel
theorem tyX0_ok : ∀ k, k < 3 → parseFieldDescriptor (TX0 k).2.2.1 = some (tyX0 k) := by decide +kernel
abbrev cX0_init : ByteArray := prog_2_method_1_code
def yX0_init : MethodName := ⟨RX0, "<init>", "()V"⟩
abbrev cX0_set : ByteArray := prog_2_method_2_code
def yX0_set : MethodName := ⟨RX0, "set", "(II)V"⟩
abbrev cX0_copyFrom : ByteArray := prog_2_method_3_code
def yX0_copyFrom : MethodName := ⟨RX0, "copyFrom", "(LPouredScreen$Place;)V"⟩
def RX1 : String := "PouredScreen$Pouring"
def TX1 : u_T := fun k => match k with
  | 0 => ("PouredScreen$Pouring", "from", "LPouredScreen$Sheet;", false)
  | 1 => ("PouredScreen$Pouring", "inRow", "I", false)
  | 2 => ("PouredScreen$Pouring", "inColumn", "I", false)
  | 3 => ("PouredScreen$Pouring", "endRow", "I", false)
  | 4 => ("PouredScreen$Pouring", "cells", "I", false)
  | 5 => ("PouredScreen$Pouring", "width", "I", false)
  | 6 => ("PouredScreen$Pouring", "sign", "I", false)
  | 7 => ("PouredScreen$Pouring", "read", "I", false)
  | 8 => ("PouredScreen$Pouring", "row", "I", false)
  | 9 => ("PouredScreen$Pouring", "column", "I", false)
  | 10 => ("PouredScreen$Pouring", "behind", "I", false)
  | 11 => ("PouredScreen$Pouring", "wraps", "Z", false)
  | _ => ("PouredScreen$Pouring", "leftGap", "Z", false)
def tyX1 : Nat → FieldType := fun k => match k with
  | 0 => .object "PouredScreen$Sheet"
  | 1 => .int
  | 2 => .int
  | 3 => .int
  | 4 => .int
  | 5 => .int
  | 6 => .int
  | 7 => .int
  | 8 => .int
  | 9 => .int
  | 10 => .int
  | 11 => .boolean
  | _ => .boolean
abbrev wsX10 : List Cond := u_ws RX1 TX1 13
theorem nmX1 : ∀ a, a < 13 → ∀ b, b < 13 → a ≠ b → (TX1 a).2.1 ≠ (TX1 b).2.1 := by decide +kernel
theorem tyX1_ok : ∀ k, k < 13 → parseFieldDescriptor (TX1 k).2.2.1 = some (tyX1 k) := by decide +kernel
abbrev cX1_init : ByteArray := prog_3_method_1_code
def yX1_init : MethodName := ⟨RX1, "<init>", "()V"⟩
abbrev cX1_begin : ByteArray := prog_3_method_2_code
def yX1_begin : MethodName := ⟨RX1, "begin", "(LPouredScreen$Sheet;III)V"⟩
abbrev cX1_next : ByteArray := prog_3_method_3_code
def yX1_next : MethodName := ⟨RX1, "next", "()Z"⟩
abbrev cX1_signOf : ByteArray := prog_3_method_4_code
def yX1_signOf : MethodName := ⟨RX1, "signOf", "(LPouredScreen$Sheet;III)I"⟩
abbrev cX1_readUpTo : ByteArray := prog_3_method_5_code
def yX1_readUpTo : MethodName := ⟨RX1, "readUpTo", "(I)Z"⟩
abbrev cX1_rowsBefore : ByteArray := prog_3_method_6_code
def yX1_rowsBefore : MethodName := ⟨RX1, "rowsBefore", "(LPouredScreen$Sheet;II)I"⟩
abbrev cX1_rowsIn : ByteArray := prog_3_method_7_code
def yX1_rowsIn : MethodName := ⟨RX1, "rowsIn", "(LPouredScreen$Sheet;I)I"⟩
abbrev cX1_pour : ByteArray := prog_3_method_8_code
def yX1_pour : MethodName := ⟨RX1, "pour", "(LPouredScreen$Sheet;LPouredScreen$Sheet;II)I"⟩
abbrev cX1_pourLines : ByteArray := prog_3_method_9_code
def yX1_pourLines : MethodName := ⟨RX1, "pourLines", "(LPouredScreen$Sheet;LPouredScreen$Sheet;I)V"⟩
abbrev cX1_pourLine : ByteArray := prog_3_method_10_code
def yX1_pourLine : MethodName := ⟨RX1, "pourLine", "(LPouredScreen$Sheet;I)V"⟩
abbrev cX1_follow : ByteArray := prog_3_method_11_code
def yX1_follow : MethodName := ⟨RX1, "follow", "(LPouredScreen$Sheet;LPouredScreen$Place;LPouredScreen$Sheet;LPouredScreen$Place;I)V"⟩
def RX2 : String := "PouredScreen$Row"
def TX2 : u_T := fun k => match k with
  | 0 => ("PouredScreen$Row", "cells", "[I", true)
  | 1 => ("PouredScreen$Row", "wrap", "Z", false)
  | _ => ("PouredScreen$Row", "gap", "Z", false)
def tyX2 : Nat → FieldType := fun k => match k with
  | 0 => .array .int
  | 1 => .boolean
  | _ => .boolean
abbrev wsX20 : List Cond := u_ws RX2 TX2 3
theorem nmX2 : ∀ a, a < 3 → ∀ b, b < 3 → a ≠ b → (TX2 a).2.1 ≠ (TX2 b).2.1 := by decide +kernel
theorem tyX2_ok : ∀ k, k < 3 → parseFieldDescriptor (TX2 k).2.2.1 = some (tyX2 k) := by decide +kernel
abbrev cX2_init : ByteArray := prog_4_method_1_code
def yX2_init : MethodName := ⟨RX2, "<init>", "()V"⟩
abbrev cX2_at : ByteArray := prog_4_method_2_code
def yX2_at : MethodName := ⟨RX2, "at", "(I)I"⟩
abbrev cX2_set : ByteArray := prog_4_method_3_code
def yX2_set : MethodName := ⟨RX2, "set", "(II)V"⟩
abbrev cX2_clear : ByteArray := prog_4_method_4_code
def yX2_clear : MethodName := ⟨RX2, "clear", "()V"⟩
abbrev cX2_unmark : ByteArray := prog_4_method_5_code
def yX2_unmark : MethodName := ⟨RX2, "unmark", "()V"⟩
abbrev cX2_copyFrom : ByteArray := prog_4_method_6_code
def yX2_copyFrom : MethodName := ⟨RX2, "copyFrom", "(LPouredScreen$Row;)V"⟩
abbrev cX2_taken : ByteArray := prog_4_method_7_code
def yX2_taken : MethodName := ⟨RX2, "taken", "()I"⟩
abbrev cX2_filled : ByteArray := prog_4_method_8_code
def yX2_filled : MethodName := ⟨RX2, "filled", "()I"⟩
abbrev cX2_isBlank : ByteArray := prog_4_method_9_code
def yX2_isBlank : MethodName := ⟨RX2, "isBlank", "()Z"⟩
abbrev cX2_signs : ByteArray := prog_4_method_10_code
def yX2_signs : MethodName := ⟨RX2, "signs", "()I"⟩
abbrev cX2_signsBefore : ByteArray := prog_4_method_11_code
def yX2_signsBefore : MethodName := ⟨RX2, "signsBefore", "(I)I"⟩
abbrev cX2_erase : ByteArray := prog_4_method_12_code
def yX2_erase : MethodName := ⟨RX2, "erase", "(III)V"⟩
abbrev cX2_put : ByteArray := prog_4_method_13_code
def yX2_put : MethodName := ⟨RX2, "put", "(II)V"⟩
abbrev cX2_overwrite : ByteArray := prog_4_method_14_code
def yX2_overwrite : MethodName := ⟨RX2, "overwrite", "(III)V"⟩
abbrev cX2_openCells : ByteArray := prog_4_method_15_code
def yX2_openCells : MethodName := ⟨RX2, "openCells", "(III)V"⟩
abbrev cX2_closeCells : ByteArray := prog_4_method_16_code
def yX2_closeCells : MethodName := ⟨RX2, "closeCells", "(III)V"⟩
def RX3 : String := "PouredScreen$Sheet"
def TX3 : u_T := fun k => match k with
  | 0 => ("PouredScreen$Sheet", "rows", "[LPouredScreen$Row;", true)
  | 1 => ("PouredScreen$Sheet", "cursor", "LPouredScreen$Place;", true)
  | 2 => ("PouredScreen$Sheet", "kept", "[LPouredScreen$Place;", true)
  | 3 => ("PouredScreen$Sheet", "keptCount", "I", false)
  | 4 => ("PouredScreen$Sheet", "history", "I", false)
  | 5 => ("PouredScreen$Sheet", "width", "I", false)
  | 6 => ("PouredScreen$Sheet", "height", "I", false)
  | 7 => ("PouredScreen$Sheet", "first", "I", false)
  | _ => ("PouredScreen$Sheet", "last", "I", false)
def tyX3 : Nat → FieldType := fun k => match k with
  | 0 => .array (.object "PouredScreen$Row")
  | 1 => .object "PouredScreen$Place"
  | 2 => .array (.object "PouredScreen$Place")
  | 3 => .int
  | 4 => .int
  | 5 => .int
  | 6 => .int
  | 7 => .int
  | _ => .int
abbrev wsX30 : List Cond := u_ws RX3 TX3 9
theorem nmX3 : ∀ a, a < 9 → ∀ b, b < 9 → a ≠ b → (TX3 a).2.1 ≠ (TX3 b).2.1 := by decide +kernel
theorem tyX3_ok : ∀ k, k < 9 → parseFieldDescriptor (TX3 k).2.2.1 = some (tyX3 k) := by decide +kernel
abbrev cX3_init : ByteArray := prog_5_method_1_code
def yX3_init : MethodName := ⟨RX3, "<init>", "()V"⟩
abbrev cX3_copyFrom : ByteArray := prog_5_method_2_code
def yX3_copyFrom : MethodName := ⟨RX3, "copyFrom", "(LPouredScreen$Sheet;)V"⟩
abbrev cX3_clear : ByteArray := prog_5_method_3_code
def yX3_clear : MethodName := ⟨RX3, "clear", "(II)V"⟩
abbrev cX3_rowAt : ByteArray := prog_5_method_4_code
def yX3_rowAt : MethodName := ⟨RX3, "rowAt", "(I)LPouredScreen$Row;"⟩
abbrev cX3_screenRow : ByteArray := prog_5_method_5_code
def yX3_screenRow : MethodName := ⟨RX3, "screenRow", "(I)LPouredScreen$Row;"⟩
abbrev cX3_hasCell : ByteArray := prog_5_method_6_code
def yX3_hasCell : MethodName := ⟨RX3, "hasCell", "(II)Z"⟩
abbrev cX3_isCursorInRegion : ByteArray := prog_5_method_7_code
def yX3_isCursorInRegion : MethodName := ⟨RX3, "isCursorInRegion", "()Z"⟩
abbrev cX3_keptPlace : ByteArray := prog_5_method_8_code
def yX3_keptPlace : MethodName := ⟨RX3, "keptPlace", "(I)LPouredScreen$Place;"⟩
abbrev cX3_keepCursor : ByteArray := prog_5_method_9_code
def yX3_keepCursor : MethodName := ⟨RX3, "keepCursor", "()V"⟩
abbrev cX3_takeCursorBack : ByteArray := prog_5_method_10_code
def yX3_takeCursorBack : MethodName := ⟨RX3, "takeCursorBack", "()V"⟩
abbrev cX3_taken : ByteArray := prog_5_method_11_code
def yX3_taken : MethodName := ⟨RX3, "taken", "()I"⟩
abbrev cX3_write : ByteArray := prog_5_method_12_code
def yX3_write : MethodName := ⟨RX3, "write", "(I)V"⟩
abbrev cX3_goOn : ByteArray := prog_5_method_13_code
def yX3_goOn : MethodName := ⟨RX3, "goOn", "()Z"⟩
abbrev cX3_lineFeed : ByteArray := prog_5_method_14_code
def yX3_lineFeed : MethodName := ⟨RX3, "lineFeed", "()Z"⟩
abbrev cX3_pushTopRow : ByteArray := prog_5_method_15_code
def yX3_pushTopRow : MethodName := ⟨RX3, "pushTopRow", "()V"⟩
abbrev cX3_eraseInRow : ByteArray := prog_5_method_16_code
def yX3_eraseInRow : MethodName := ⟨RX3, "eraseInRow", "(I)V"⟩
abbrev cX3_eraseRows : ByteArray := prog_5_method_17_code
def yX3_eraseRows : MethodName := ⟨RX3, "eraseRows", "(II)V"⟩
abbrev cX3_openRows : ByteArray := prog_5_method_18_code
def yX3_openRows : MethodName := ⟨RX3, "openRows", "(I)I"⟩
abbrev cX3_closeRows : ByteArray := prog_5_method_19_code
def yX3_closeRows : MethodName := ⟨RX3, "closeRows", "(I)I"⟩
abbrev cX3_takeRow : ByteArray := prog_5_method_20_code
def yX3_takeRow : MethodName := ⟨RX3, "takeRow", "(I)V"⟩
abbrev cX3_unmarkAbove : ByteArray := prog_5_method_21_code
def yX3_unmarkAbove : MethodName := ⟨RX3, "unmarkAbove", "(I)V"⟩
abbrev cX3_carryBlank : ByteArray := prog_5_method_22_code
def yX3_carryBlank : MethodName := ⟨RX3, "carryBlank", "(II)V"⟩
abbrev cX3_countedRows : ByteArray := prog_5_method_23_code
def yX3_countedRows : MethodName := ⟨RX3, "countedRows", "()I"⟩
abbrev cX3_endsLine : ByteArray := prog_5_method_24_code
def yX3_endsLine : MethodName := ⟨RX3, "endsLine", "(II)Z"⟩
abbrev cX3_linesBefore : ByteArray := prog_5_method_25_code
def yX3_linesBefore : MethodName := ⟨RX3, "linesBefore", "(I)I"⟩
abbrev cX3_lines : ByteArray := prog_5_method_26_code
def yX3_lines : MethodName := ⟨RX3, "lines", "()I"⟩
abbrev cX3_startOfLine : ByteArray := prog_5_method_27_code
def yX3_startOfLine : MethodName := ⟨RX3, "startOfLine", "(I)I"⟩
abbrev cX3_startOf : ByteArray := prog_5_method_28_code
def yX3_startOf : MethodName := ⟨RX3, "startOf", "(I)I"⟩
abbrev cX3_endOf : ByteArray := prog_5_method_29_code
def yX3_endOf : MethodName := ⟨RX3, "endOf", "(I)I"⟩
abbrev cX3_cellsOfLine : ByteArray := prog_5_method_30_code
def yX3_cellsOfLine : MethodName := ⟨RX3, "cellsOfLine", "(IZ)I"⟩
abbrev cX3_signsOfLine : ByteArray := prog_5_method_31_code
def yX3_signsOfLine : MethodName := ⟨RX3, "signsOfLine", "(II)I"⟩
abbrev cX3_lineOf : ByteArray := prog_5_method_32_code
def yX3_lineOf : MethodName := ⟨RX3, "lineOf", "(LPouredScreen$Place;)I"⟩
abbrev cX3_markOf : ByteArray := prog_5_method_33_code
def yX3_markOf : MethodName := ⟨RX3, "markOf", "(LPouredScreen$Place;)I"⟩
def RX4 : String := "PouredScreen"
def TX4 : u_T := fun k => match k with
  | 0 => ("PouredScreen", "sheet", "LPouredScreen$Sheet;", true)
  | 1 => ("PouredScreen", "remembered", "[LPouredScreen$Sheet;", true)
  | 2 => ("PouredScreen", "pouring", "LPouredScreen$Pouring;", true)
  | 3 => ("PouredScreen", "nextState", "I", false)
  | _ => ("PouredScreen", "states", "I", false)
def tyX4 : Nat → FieldType := fun k => match k with
  | 0 => .object "PouredScreen$Sheet"
  | 1 => .array (.object "PouredScreen$Sheet")
  | 2 => .object "PouredScreen$Pouring"
  | 3 => .int
  | _ => .int
abbrev wsX40 : List Cond := u_ws RX4 TX4 5
theorem nmX4 : ∀ a, a < 5 → ∀ b, b < 5 → a ≠ b → (TX4 a).2.1 ≠ (TX4 b).2.1 := by decide +kernel
theorem tyX4_ok : ∀ k, k < 5 → parseFieldDescriptor (TX4 k).2.2.1 = some (tyX4 k) := by decide +kernel
abbrev cX4_init : ByteArray := prog_1_method_1_code
def yX4_init : MethodName := ⟨RX4, "<init>", "()V"⟩
abbrev cX4_feed : ByteArray := prog_1_method_2_code
def yX4_feed : MethodName := ⟨RX4, "feed", "(I)I"⟩
abbrev cX4_moveTo : ByteArray := prog_1_method_3_code
def yX4_moveTo : MethodName := ⟨RX4, "moveTo", "(II)I"⟩
abbrev cX4_setRegion : ByteArray := prog_1_method_4_code
def yX4_setRegion : MethodName := ⟨RX4, "setRegion", "(II)I"⟩
abbrev cX4_eraseLine : ByteArray := prog_1_method_5_code
def yX4_eraseLine : MethodName := ⟨RX4, "eraseLine", "(I)I"⟩
abbrev cX4_eraseScreen : ByteArray := prog_1_method_6_code
def yX4_eraseScreen : MethodName := ⟨RX4, "eraseScreen", "(I)I"⟩
abbrev cX4_insertRows : ByteArray := prog_1_method_7_code
def yX4_insertRows : MethodName := ⟨RX4, "insertRows", "(I)I"⟩
abbrev cX4_deleteRows : ByteArray := prog_1_method_8_code
def yX4_deleteRows : MethodName := ⟨RX4, "deleteRows", "(I)I"⟩
abbrev cX4_insertCells : ByteArray := prog_1_method_9_code
def yX4_insertCells : MethodName := ⟨RX4, "insertCells", "(I)I"⟩
abbrev cX4_deleteCells : ByteArray := prog_1_method_10_code
def yX4_deleteCells : MethodName := ⟨RX4, "deleteCells", "(I)I"⟩
abbrev cX4_keep : ByteArray := prog_1_method_11_code
def yX4_keep : MethodName := ⟨RX4, "keep", "()I"⟩
abbrev cX4_back : ByteArray := prog_1_method_12_code
def yX4_back : MethodName := ⟨RX4, "back", "()I"⟩
abbrev cX4_resize : ByteArray := prog_1_method_13_code
def yX4_resize : MethodName := ⟨RX4, "resize", "(II)I"⟩
abbrev cX4_cell : ByteArray := prog_1_method_14_code
def yX4_cell : MethodName := ⟨RX4, "cell", "(II)I"⟩
abbrev cX4_row : ByteArray := prog_1_method_15_code
def yX4_row : MethodName := ⟨RX4, "row", "(II)I"⟩
abbrev cX4_line : ByteArray := prog_1_method_16_code
def yX4_line : MethodName := ⟨RX4, "line", "(II)I"⟩
abbrev cX4_sign : ByteArray := prog_1_method_17_code
def yX4_sign : MethodName := ⟨RX4, "sign", "(II)I"⟩
abbrev cX4_cursor : ByteArray := prog_1_method_18_code
def yX4_cursor : MethodName := ⟨RX4, "cursor", "(II)I"⟩
abbrev cX4_ifWidth : ByteArray := prog_1_method_19_code
def yX4_ifWidth : MethodName := ⟨RX4, "ifWidth", "(I)I"⟩
abbrev cX4_widthFor : ByteArray := prog_1_method_20_code
def yX4_widthFor : MethodName := ⟨RX4, "widthFor", "(I)I"⟩
abbrev cX4_told : ByteArray := prog_1_method_21_code
def yX4_told : MethodName := ⟨RX4, "told", "(I)I"⟩
abbrev cX4_isControl : ByteArray := prog_1_method_29_code
def yX4_isControl : MethodName := ⟨RX4, "isControl", "(I)Z"⟩
abbrev cX4_isWidth : ByteArray := prog_1_method_30_code
def yX4_isWidth : MethodName := ⟨RX4, "isWidth", "(I)Z"⟩
abbrev cX4_sizeOf : ByteArray := prog_1_method_31_code
def yX4_sizeOf : MethodName := ⟨RX4, "sizeOf", "(I)I"⟩
abbrev cX4_obey : ByteArray := prog_1_method_32_code
def yX4_obey : MethodName := ⟨RX4, "obey", "(I)V"⟩
abbrev cX4_stateAt : ByteArray := prog_1_method_33_code
def yX4_stateAt : MethodName := ⟨RX4, "stateAt", "(I)LPouredScreen$Sheet;"⟩
abbrev cX4_remember : ByteArray := prog_1_method_34_code
def yX4_remember : MethodName := ⟨RX4, "remember", "()LPouredScreen$Sheet;"⟩
def RX5 : String := "PouredScreenModel"
def TX5 : u_T := fun k => match k with
  | _ => ("", "", "", false)
def tyX5 : Nat → FieldType := fun k => match k with
  | _ => .int
abbrev wsX50 : List Cond := u_ws RX5 TX5 0
theorem nmX5 : ∀ a, a < 0 → ∀ b, b < 0 → a ≠ b → (TX5 a).2.1 ≠ (TX5 b).2.1 := by decide +kernel
theorem tyX5_ok : ∀ k, k < 0 → parseFieldDescriptor (TX5 k).2.2.1 = some (tyX5 k) := by decide +kernel

def RL : String := "PouredScreenLaw"
abbrev cL_cell : ByteArray := method_2_code
def yL_cell : MethodName := ⟨RL, "cell", "([II)I"⟩
abbrev cL_acts : ByteArray := method_3_code
def yL_acts : MethodName := ⟨RL, "acts", "(LPouredScreen;I)V"⟩
abbrev cL_cells : ByteArray := method_4_code
def yL_cells : MethodName := ⟨RL, "cells", "(LPouredScreen;)Z"⟩
abbrev cL_lines : ByteArray := method_5_code
def yL_lines : MethodName := ⟨RL, "lines", "(LPouredScreen;)Z"⟩
abbrev cL_marks : ByteArray := method_6_code
def yL_marks : MethodName := ⟨RL, "marks", "(LPouredScreen;)Z"⟩
abbrev cL_isSecond : ByteArray := method_7_code
def yL_isSecond : MethodName := ⟨RL, "isSecond", "(LPouredScreen;II)Z"⟩
abbrev cL_whole : ByteArray := method_8_code
def yL_whole : MethodName := ⟨RL, "whole", "(LPouredScreen;)Z"⟩
abbrev cL_size : ByteArray := method_9_code
def yL_size : MethodName := ⟨RL, "size", "(LPouredScreen;I)I"⟩
abbrev cL_lineHash : ByteArray := method_10_code
def yL_lineHash : MethodName := ⟨RL, "lineHash", "(LPouredScreen;)I"⟩
abbrev cL_pours : ByteArray := method_11_code
def yL_pours : MethodName := ⟨RL, "pours", "(LPouredScreen;I)Z"⟩
abbrev cL_law : ByteArray := code
def yL_law : MethodName := ⟨RL, "law", "([I)Z"⟩

abbrev vwCl : List vw_C := [(RX0, TX0, 3), (RX1, TX1, 13), (RX2, TX2, 3), (RX3, TX3, 9), (RX4, TX4, 5)]
/-! the words of the tables that stay, for every method -/
def z_WG : List Cond := lw_tbl.filter goodWord
theorem z_tab (i : Nat) {w : Cond} (h : tables_1[i]? = some w) (hg : goodWord w = true) : w ∈ z_WG := List.mem_filter.mpr ⟨List.mem_append_right _ (List.mem_of_getElem? h), hg⟩
theorem z_sel (i : Nat) {q : MethodName × Nat} (h : lw_privs[i]? = some q) (hg : goodWord (Cond.selects q.1.cls q.1 q.1) = true) : Cond.selects q.1.cls q.1 q.1 ∈ z_WG := List.mem_filter.mpr ⟨List.mem_append_left _ (List.mem_map.mpr ⟨q, List.mem_of_getElem? h, rfl⟩), hg⟩
def z_nest : Cond → Bool
  | .fieldLinkNest .. => true
  | .methodLinkNest .. => true
  | .arrayOver (.object _) => true
  | _ => false
def z_WN : List Cond := tables_1.filter z_nest
theorem z_nst (i : Nat) {w : Cond} (h : tables_1[i]? = some w) (hg : z_nest w = true) : w ∈ z_WN := List.mem_filter.mpr ⟨List.mem_of_getElem? h, hg⟩
theorem z_good : ∀ w ∈ z_WG, goodWord w = true := fun w h => (List.mem_filter.mp h).2
theorem z_in : ∀ w ∈ z_WG, w ∈ lw_tbl := fun w h => (List.mem_filter.mp h).1
/-- a method: its name, code, locals, what it returns, its room, what else is known of the start -/
abbrev z_M : Type := MethodName × ByteArray × Nat × Option FieldType × Room × (State → Nat → Prop)
abbrev z_my (M : z_M) : MethodName := M.1
abbrev z_mc (M : z_M) : ByteArray := M.2.1
abbrev z_mn (M : z_M) : Nat := M.2.2.1
abbrev z_mr (M : z_M) : Option FieldType := M.2.2.2.1
abbrev z_mR (M : z_M) : Room := M.2.2.2.2.1
abbrev z_mE (M : z_M) : State → Nat → Prop := M.2.2.2.2.2
def z_D (len : Nat) (M : z_M) (pc n : Nat) (i : Instr) : Prop := decode (z_mc M) pc = .ok (i, len) ∧ pc + len = n
def z_J (M : z_M) (pc n tgt : Nat) (off : Int) (i : Instr) : Prop := decode (z_mc M) pc = .ok (i, 3) ∧ pc + 3 = n ∧ (pc : Int) + off = (tgt : Int)
/-- a field's entry: field k of class ci -/
def z_F (own : String) (idx ci k : Nat) (C : String) (T : u_T) (N : Nat) : Prop := vwCl[ci]? = some (C, T, N) ∧ k < N ∧ (Cond.fieldLink own idx (T k).1 (T k).2.1 (T k).2.2.1 ∈ z_WG ∨ ∃ host, Cond.fieldLinkNest own idx (T k).1 (T k).2.1 (T k).2.2.1 host ∈ z_WN)
/-- a method's entry -/
def z_LB (own : String) (idx : Nat) (y : MethodName) (b : ByteArray) (nL : Nat) (r : Option FieldType) (n : Nat) : Prop :=
  (Cond.methodLink own idx y ∈ z_WG ∨ ∃ host, Cond.methodLinkNest own idx y host ∈ z_WN) ∧ Cond.code y b nL r ∈ z_WG ∧ Cond.initialized y.cls ∈ z_WG ∧ (y.cls ≠ "java/lang/invoke/MethodHandle" ∧ y.cls ≠ "java/lang/invoke/VarHandle" ∧ (parseMethodDescriptor y.desc).map (fun d => d.parameters.length) = some n)
def z_LV (own : String) (idx : Nat) (y : MethodName) (b : ByteArray) (nL : Nat) (r : Option FieldType) (n : Nat) : Prop := z_LB own idx y b nL r n ∧ Cond.instanceMethod y ∈ z_WG ∧ Cond.selects y.cls y y ∈ z_WG
def z_LS (own : String) (idx : Nat) (y : MethodName) (b : ByteArray) (nL : Nat) (r : Option FieldType) (n : Nat) : Prop := z_LB own idx y b nL r n ∧ Cond.static y ∈ z_WG
def z_LI (own : String) (idx : Nat) (y : MethodName) (b : ByteArray) (nL : Nat) (r : Option FieldType) (n : Nat) : Prop := z_LB own idx y b nL r n ∧ y.name = "<init>" ∧ Cond.instanceMethod y ∈ z_WG
def M_X0_init : z_M := (yX0_init, cX0_init, 1, none, { frames := 1, cells := 0, slots := 0, locals := 24 }, fun _ _ => True)
def M_X0_set : z_M := (yX0_set, cX0_set, 3, none, { frames := 0, cells := 0, slots := 0, locals := 0 }, fun _ _ => True)
def M_X0_copyFrom : z_M := (yX0_copyFrom, cX0_copyFrom, 2, none, { frames := 0, cells := 0, slots := 0, locals := 0 }, fun _ _ => True)
def M_X1_init : z_M := (yX1_init, cX1_init, 1, none, { frames := 1, cells := 0, slots := 0, locals := 24 }, fun _ _ => True)
def M_X1_begin : z_M := (yX1_begin, cX1_begin, 5, none, { frames := 2, cells := 0, slots := 0, locals := 44 }, fun _ _ => True)
def M_X1_next : z_M := (yX1_next, cX1_next, 2, (some .boolean), { frames := 2, cells := 0, slots := 0, locals := 44 }, fun _ _ => True)
def M_X1_signOf : z_M := (yX1_signOf, cX1_signOf, 5, (some .int), { frames := 4, cells := 0, slots := 0, locals := 87 }, fun _ _ => True)
def M_X1_readUpTo : z_M := (yX1_readUpTo, cX1_readUpTo, 3, (some .boolean), { frames := 3, cells := 0, slots := 0, locals := 65 }, fun _ _ => True)
def M_X1_rowsBefore : z_M := (yX1_rowsBefore, cX1_rowsBefore, 9, (some .int), { frames := 3, cells := 0, slots := 0, locals := 68 }, fun _ _ => True)
def M_X1_rowsIn : z_M := (yX1_rowsIn, cX1_rowsIn, 3, (some .int), { frames := 4, cells := 0, slots := 0, locals := 96 }, fun _ _ => True)
def M_X1_pour : z_M := (yX1_pour, cX1_pour, 10, (some .int), { frames := 5, cells := 0, slots := 0, locals := 126 }, fun _ _ => True)
def M_X1_pourLines : z_M := (yX1_pourLines, cX1_pourLines, 8, none, { frames := 4, cells := 0, slots := 0, locals := 89 }, fun _ _ => True)
def M_X1_pourLine : z_M := (yX1_pourLine, cX1_pourLine, 5, none, { frames := 3, cells := 0, slots := 0, locals := 65 }, fun _ _ => True)
def M_X1_follow : z_M := (yX1_follow, cX1_follow, 11, none, { frames := 4, cells := 0, slots := 0, locals := 96 }, fun _ _ => True)
def M_X2_init : z_M := (yX2_init, cX2_init, 1, none, { frames := 1, cells := 1, slots := 20, locals := 24 }, fun _ _ => True)
def M_X2_at : z_M := (yX2_at, cX2_at, 2, (some .int), { frames := 0, cells := 0, slots := 0, locals := 0 }, fun _ _ => True)
def M_X2_set : z_M := (yX2_set, cX2_set, 3, none, { frames := 0, cells := 0, slots := 0, locals := 0 }, fun _ _ => True)
def M_X2_clear : z_M := (yX2_clear, cX2_clear, 2, none, { frames := 0, cells := 0, slots := 0, locals := 0 }, fun _ _ => True)
def M_X2_unmark : z_M := (yX2_unmark, cX2_unmark, 1, none, { frames := 0, cells := 0, slots := 0, locals := 0 }, fun _ _ => True)
def M_X2_copyFrom : z_M := (yX2_copyFrom, cX2_copyFrom, 2, none, { frames := 1, cells := 0, slots := 0, locals := 40 }, fun _ _ => True)
def M_X2_taken : z_M := (yX2_taken, cX2_taken, 6, (some .int), { frames := 0, cells := 0, slots := 0, locals := 0 }, fun _ _ => True)
def M_X2_filled : z_M := (yX2_filled, cX2_filled, 2, (some .int), { frames := 0, cells := 0, slots := 0, locals := 0 }, fun _ _ => True)
def M_X2_isBlank : z_M := (yX2_isBlank, cX2_isBlank, 1, (some .boolean), { frames := 1, cells := 0, slots := 0, locals := 21 }, fun _ _ => True)
def M_X2_signs : z_M := (yX2_signs, cX2_signs, 6, (some .int), { frames := 0, cells := 0, slots := 0, locals := 0 }, fun _ _ => True)
def M_X2_signsBefore : z_M := (yX2_signsBefore, cX2_signsBefore, 4, (some .int), { frames := 0, cells := 0, slots := 0, locals := 0 }, fun _ _ => True)
def M_X2_erase : z_M := (yX2_erase, cX2_erase, 7, none, { frames := 1, cells := 0, slots := 0, locals := 22 }, fun _ _ => True)
def M_X2_put : z_M := (yX2_put, cX2_put, 3, none, { frames := 1, cells := 0, slots := 0, locals := 22 }, fun _ _ => True)
def M_X2_overwrite : z_M := (yX2_overwrite, cX2_overwrite, 4, none, { frames := 2, cells := 0, slots := 0, locals := 48 }, fun _ _ => True)
def M_X2_openCells : z_M := (yX2_openCells, cX2_openCells, 5, none, { frames := 1, cells := 0, slots := 0, locals := 22 }, fun _ _ => True)
def M_X2_closeCells : z_M := (yX2_closeCells, cX2_closeCells, 5, none, { frames := 2, cells := 0, slots := 0, locals := 48 }, fun _ _ => True)
def M_X3_init : z_M := (yX3_init, cX3_init, 2, none, { frames := 2, cells := 70, slots := 783, locals := 44 }, fun _ _ => True)
def M_X3_copyFrom : z_M := (yX3_copyFrom, cX3_copyFrom, 3, none, { frames := 2, cells := 0, slots := 0, locals := 61 }, fun _ _ => True)
def M_X3_clear : z_M := (yX3_clear, cX3_clear, 7, none, { frames := 1, cells := 0, slots := 0, locals := 21 }, fun _ _ => True)
def M_X3_rowAt : z_M := (yX3_rowAt, cX3_rowAt, 2, (some (.object "PouredScreen$Row")), { frames := 0, cells := 0, slots := 0, locals := 0 }, fun _ _ => True)
def M_X3_screenRow : z_M := (yX3_screenRow, cX3_screenRow, 2, (some (.object "PouredScreen$Row")), { frames := 1, cells := 0, slots := 0, locals := 21 }, fun _ _ => True)
def M_X3_hasCell : z_M := (yX3_hasCell, cX3_hasCell, 3, (some .boolean), { frames := 0, cells := 0, slots := 0, locals := 0 }, fun _ _ => True)
def M_X3_isCursorInRegion : z_M := (yX3_isCursorInRegion, cX3_isCursorInRegion, 1, (some .boolean), { frames := 0, cells := 0, slots := 0, locals := 0 }, fun _ _ => True)
def M_X3_keptPlace : z_M := (yX3_keptPlace, cX3_keptPlace, 2, (some (.object "PouredScreen$Place")), { frames := 0, cells := 0, slots := 0, locals := 0 }, fun _ _ => True)
def M_X3_keepCursor : z_M := (yX3_keepCursor, cX3_keepCursor, 1, none, { frames := 1, cells := 0, slots := 0, locals := 22 }, fun _ _ => True)
def M_X3_takeCursorBack : z_M := (yX3_takeCursorBack, cX3_takeCursorBack, 1, none, { frames := 1, cells := 0, slots := 0, locals := 21 }, fun _ _ => True)
def M_X3_taken : z_M := (yX3_taken, cX3_taken, 3, (some .int), { frames := 2, cells := 0, slots := 0, locals := 42 }, fun _ _ => True)
def M_X3_write : z_M := (yX3_write, cX3_write, 2, none, { frames := 5, cells := 0, slots := 0, locals := 108 }, fun _ _ => True)
def M_X3_goOn : z_M := (yX3_goOn, cX3_goOn, 2, (some .boolean), { frames := 4, cells := 0, slots := 0, locals := 87 }, fun _ _ => True)
def M_X3_lineFeed : z_M := (yX3_lineFeed, cX3_lineFeed, 2, (some .boolean), { frames := 3, cells := 0, slots := 0, locals := 66 }, fun _ _ => True)
def M_X3_pushTopRow : z_M := (yX3_pushTopRow, cX3_pushTopRow, 2, none, { frames := 2, cells := 0, slots := 0, locals := 45 }, fun _ _ => True)
def M_X3_eraseInRow : z_M := (yX3_eraseInRow, cX3_eraseInRow, 4, none, { frames := 2, cells := 0, slots := 0, locals := 48 }, fun _ _ => True)
def M_X3_eraseRows : z_M := (yX3_eraseRows, cX3_eraseRows, 4, none, { frames := 2, cells := 0, slots := 0, locals := 48 }, fun _ _ => True)
def M_X3_openRows : z_M := (yX3_openRows, cX3_openRows, 4, (some .int), { frames := 2, cells := 0, slots := 0, locals := 45 }, fun _ _ => True)
def M_X3_closeRows : z_M := (yX3_closeRows, cX3_closeRows, 4, (some .int), { frames := 3, cells := 0, slots := 0, locals := 66 }, fun _ _ => True)
def M_X3_takeRow : z_M := (yX3_takeRow, cX3_takeRow, 2, none, { frames := 2, cells := 0, slots := 0, locals := 45 }, fun _ _ => True)
def M_X3_unmarkAbove : z_M := (yX3_unmarkAbove, cX3_unmarkAbove, 2, none, { frames := 1, cells := 0, slots := 0, locals := 21 }, fun _ _ => True)
def M_X3_carryBlank : z_M := (yX3_carryBlank, cX3_carryBlank, 5, none, { frames := 1, cells := 0, slots := 0, locals := 21 }, fun _ _ => True)
def M_X3_countedRows : z_M := (yX3_countedRows, cX3_countedRows, 3, (some .int), { frames := 1, cells := 0, slots := 0, locals := 24 }, fun _ _ => True)
def M_X3_endsLine : z_M := (yX3_endsLine, cX3_endsLine, 3, (some .boolean), { frames := 1, cells := 0, slots := 0, locals := 21 }, fun _ _ => True)
def M_X3_linesBefore : z_M := (yX3_linesBefore, cX3_linesBefore, 5, (some .int), { frames := 2, cells := 0, slots := 0, locals := 46 }, fun _ _ => True)
def M_X3_lines : z_M := (yX3_lines, cX3_lines, 1, (some .int), { frames := 3, cells := 0, slots := 0, locals := 70 }, fun _ _ => True)
def M_X3_startOfLine : z_M := (yX3_startOfLine, cX3_startOfLine, 5, (some .int), { frames := 2, cells := 0, slots := 0, locals := 46 }, fun _ _ => True)
def M_X3_startOf : z_M := (yX3_startOf, cX3_startOf, 3, (some .int), { frames := 1, cells := 0, slots := 0, locals := 21 }, fun _ _ => True)
def M_X3_endOf : z_M := (yX3_endOf, cX3_endOf, 4, (some .int), { frames := 2, cells := 0, slots := 0, locals := 46 }, fun _ _ => True)
def M_X3_cellsOfLine : z_M := (yX3_cellsOfLine, cX3_cellsOfLine, 4, (some .int), { frames := 1, cells := 0, slots := 0, locals := 21 }, fun _ _ => True)
def M_X3_signsOfLine : z_M := (yX3_signsOfLine, cX3_signsOfLine, 5, (some .int), { frames := 2, cells := 0, slots := 0, locals := 44 }, fun _ _ => True)
def M_X3_lineOf : z_M := (yX3_lineOf, cX3_lineOf, 2, (some .int), { frames := 3, cells := 0, slots := 0, locals := 70 }, fun _ _ => True)
def M_X3_markOf : z_M := (yX3_markOf, cX3_markOf, 7, (some .int), { frames := 2, cells := 0, slots := 0, locals := 46 }, fun _ _ => True)
def M_X4_init : z_M := (yX4_init, cX4_init, 2, none, { frames := 3, cells := 641, slots := 7149, locals := 65 }, fun _ _ => True)
def M_X4_feed : z_M := (yX4_feed, cX4_feed, 3, (some .int), { frames := 6, cells := 0, slots := 0, locals := 129 }, fun _ _ => True)
def M_X4_moveTo : z_M := (yX4_moveTo, cX4_moveTo, 4, (some .int), { frames := 4, cells := 0, slots := 0, locals := 104 }, fun _ _ => True)
def M_X4_setRegion : z_M := (yX4_setRegion, cX4_setRegion, 3, (some .int), { frames := 4, cells := 0, slots := 0, locals := 104 }, fun _ _ => True)
def M_X4_eraseLine : z_M := (yX4_eraseLine, cX4_eraseLine, 3, (some .int), { frames := 4, cells := 0, slots := 0, locals := 104 }, fun _ _ => True)
def M_X4_eraseScreen : z_M := (yX4_eraseScreen, cX4_eraseScreen, 3, (some .int), { frames := 4, cells := 0, slots := 0, locals := 104 }, fun _ _ => True)
def M_X4_insertRows : z_M := (yX4_insertRows, cX4_insertRows, 2, (some .int), { frames := 4, cells := 0, slots := 0, locals := 104 }, fun _ _ => True)
def M_X4_deleteRows : z_M := (yX4_deleteRows, cX4_deleteRows, 2, (some .int), { frames := 4, cells := 0, slots := 0, locals := 104 }, fun _ _ => True)
def M_X4_insertCells : z_M := (yX4_insertCells, cX4_insertCells, 4, (some .int), { frames := 4, cells := 0, slots := 0, locals := 104 }, fun _ _ => True)
def M_X4_deleteCells : z_M := (yX4_deleteCells, cX4_deleteCells, 4, (some .int), { frames := 4, cells := 0, slots := 0, locals := 104 }, fun _ _ => True)
def M_X4_keep : z_M := (yX4_keep, cX4_keep, 1, (some .int), { frames := 4, cells := 0, slots := 0, locals := 104 }, fun _ _ => True)
def M_X4_back : z_M := (yX4_back, cX4_back, 1, (some .int), { frames := 4, cells := 0, slots := 0, locals := 104 }, fun _ _ => True)
def M_X4_resize : z_M := (yX4_resize, cX4_resize, 4, (some .int), { frames := 6, cells := 0, slots := 0, locals := 155 }, fun _ _ => True)
def M_X4_cell : z_M := (yX4_cell, cX4_cell, 3, (some .int), { frames := 2, cells := 0, slots := 0, locals := 42 }, fun _ _ => True)
def M_X4_row : z_M := (yX4_row, cX4_row, 4, (some .int), { frames := 2, cells := 0, slots := 0, locals := 42 }, fun _ _ => True)
def M_X4_line : z_M := (yX4_line, cX4_line, 5, (some .int), { frames := 3, cells := 0, slots := 0, locals := 70 }, fun _ _ => True)
def M_X4_sign : z_M := (yX4_sign, cX4_sign, 4, (some .int), { frames := 5, cells := 0, slots := 0, locals := 111 }, fun _ _ => True)
def M_X4_cursor : z_M := (yX4_cursor, cX4_cursor, 4, (some .int), { frames := 4, cells := 0, slots := 0, locals := 91 }, fun _ _ => True)
def M_X4_ifWidth : z_M := (yX4_ifWidth, cX4_ifWidth, 2, (some .int), { frames := 5, cells := 0, slots := 0, locals := 118 }, fun _ _ => True)
def M_X4_widthFor : z_M := (yX4_widthFor, cX4_widthFor, 3, (some .int), { frames := 5, cells := 0, slots := 0, locals := 118 }, fun _ _ => True)
def M_X4_told : z_M := (yX4_told, cX4_told, 2, (some .int), { frames := 4, cells := 0, slots := 0, locals := 90 }, fun _ _ => True)
def M_X4_isControl : z_M := (yX4_isControl, cX4_isControl, 1, (some .boolean), { frames := 0, cells := 0, slots := 0, locals := 0 }, fun _ _ => True)
def M_X4_isWidth : z_M := (yX4_isWidth, cX4_isWidth, 1, (some .boolean), { frames := 0, cells := 0, slots := 0, locals := 0 }, fun _ _ => True)
def M_X4_sizeOf : z_M := (yX4_sizeOf, cX4_sizeOf, 1, (some .int), { frames := 0, cells := 0, slots := 0, locals := 0 }, fun _ _ => True)
def M_X4_obey : z_M := (yX4_obey, cX4_obey, 3, none, { frames := 4, cells := 0, slots := 0, locals := 87 }, fun _ _ => True)
def M_X4_stateAt : z_M := (yX4_stateAt, cX4_stateAt, 2, (some (.object "PouredScreen$Sheet")), { frames := 0, cells := 0, slots := 0, locals := 0 }, fun _ _ => True)
def M_X4_remember : z_M := (yX4_remember, cX4_remember, 2, (some (.object "PouredScreen$Sheet")), { frames := 3, cells := 0, slots := 0, locals := 83 }, fun _ _ => True)
def M_L_cell : z_M := (yL_cell, cL_cell, 2, (some .int), { frames := 0, cells := 0, slots := 0, locals := 0 }, fun _ _ => True)
def M_L_acts : z_M := (yL_acts, cL_acts, 5, none, { frames := 7, cells := 0, slots := 0, locals := 178 }, fun _ _ => True)
def M_L_cells : z_M := (yL_cells, cL_cells, 8, (some .boolean), { frames := 5, cells := 0, slots := 0, locals := 111 }, fun _ _ => True)
def M_L_lines : z_M := (yL_lines, cL_lines, 10, (some .boolean), { frames := 6, cells := 0, slots := 0, locals := 134 }, fun _ _ => True)
def M_L_marks : z_M := (yL_marks, cL_marks, 11, (some .boolean), { frames := 6, cells := 0, slots := 0, locals := 134 }, fun _ _ => True)
def M_L_isSecond : z_M := (yL_isSecond, cL_isSecond, 5, (some .boolean), { frames := 3, cells := 0, slots := 0, locals := 64 }, fun _ _ => True)
def M_L_whole : z_M := (yL_whole, cL_whole, 1, (some .boolean), { frames := 7, cells := 0, slots := 0, locals := 164 }, fun _ _ => True)
def M_L_size : z_M := (yL_size, cL_size, 3, (some .int), { frames := 6, cells := 0, slots := 0, locals := 134 }, fun _ _ => True)
def M_L_lineHash : z_M := (yL_lineHash, cL_lineHash, 6, (some .int), { frames := 7, cells := 0, slots := 0, locals := 156 }, fun _ _ => True)
def M_L_pours : z_M := (yL_pours, cL_pours, 14, (some .boolean), { frames := 8, cells := 0, slots := 0, locals := 184 }, fun _ _ => True)
def M_L_law : z_M := (yL_law, cL_law, 5, ret, room_1, fun _ _ => True)
theorem f_RX4_12 : z_F RX4 12 4 0 RX4 TX4 5 := ⟨rfl, by decide, Or.inl (z_tab 161 (by decide +kernel) rfl)⟩
theorem f_RX4_16 : z_F RX4 16 4 1 RX4 TX4 5 := ⟨rfl, by decide, Or.inl (z_tab 162 (by decide +kernel) rfl)⟩
theorem f_RX4_23 : z_F RX4 23 4 2 RX4 TX4 5 := ⟨rfl, by decide, Or.inl (z_tab 163 (by decide +kernel) rfl)⟩
theorem f_RX4_27 : z_F RX4 27 4 3 RX4 TX4 5 := ⟨rfl, by decide, Or.inl (z_tab 164 (by decide +kernel) rfl)⟩
theorem f_RX4_31 : z_F RX4 31 4 4 RX4 TX4 5 := ⟨rfl, by decide, Or.inl (z_tab 165 (by decide +kernel) rfl)⟩
theorem f_RX4_49 : z_F RX4 49 3 4 RX3 TX3 9 := ⟨rfl, by decide, Or.inr ⟨"PouredScreen", z_nst 84 (by decide +kernel) rfl⟩⟩
theorem f_RX4_56 : z_F RX4 56 3 5 RX3 TX3 9 := ⟨rfl, by decide, Or.inr ⟨"PouredScreen", z_nst 87 (by decide +kernel) rfl⟩⟩
theorem f_RX4_59 : z_F RX4 59 3 1 RX3 TX3 9 := ⟨rfl, by decide, Or.inr ⟨"PouredScreen", z_nst 77 (by decide +kernel) rfl⟩⟩
theorem f_RX4_63 : z_F RX4 63 0 0 RX0 TX0 3 := ⟨rfl, by decide, Or.inr ⟨"PouredScreen", z_nst 31 (by decide +kernel) rfl⟩⟩
theorem f_RX4_68 : z_F RX4 68 0 1 RX0 TX0 3 := ⟨rfl, by decide, Or.inr ⟨"PouredScreen", z_nst 35 (by decide +kernel) rfl⟩⟩
theorem f_RX4_75 : z_F RX4 75 3 6 RX3 TX3 9 := ⟨rfl, by decide, Or.inr ⟨"PouredScreen", z_nst 90 (by decide +kernel) rfl⟩⟩
theorem f_RX4_78 : z_F RX4 78 3 7 RX3 TX3 9 := ⟨rfl, by decide, Or.inr ⟨"PouredScreen", z_nst 92 (by decide +kernel) rfl⟩⟩
theorem f_RX4_81 : z_F RX4 81 3 8 RX3 TX3 9 := ⟨rfl, by decide, Or.inr ⟨"PouredScreen", z_nst 94 (by decide +kernel) rfl⟩⟩
theorem f_RX4_91 : z_F RX4 91 0 2 RX0 TX0 3 := ⟨rfl, by decide, Or.inr ⟨"PouredScreen", z_nst 38 (by decide +kernel) rfl⟩⟩
theorem f_RX4_129 : z_F RX4 129 3 3 RX3 TX3 9 := ⟨rfl, by decide, Or.inr ⟨"PouredScreen", z_nst 82 (by decide +kernel) rfl⟩⟩
theorem f_RX4_151 : z_F RX4 151 2 1 RX2 TX2 3 := ⟨rfl, by decide, Or.inr ⟨"PouredScreen", z_nst 62 (by decide +kernel) rfl⟩⟩
theorem f_RX4_154 : z_F RX4 154 2 2 RX2 TX2 3 := ⟨rfl, by decide, Or.inr ⟨"PouredScreen", z_nst 66 (by decide +kernel) rfl⟩⟩
theorem f_RX0_7 : z_F RX0 7 0 0 RX0 TX0 3 := ⟨rfl, by decide, Or.inl (z_tab 30 (by decide +kernel) rfl)⟩
theorem f_RX0_13 : z_F RX0 13 0 1 RX0 TX0 3 := ⟨rfl, by decide, Or.inl (z_tab 34 (by decide +kernel) rfl)⟩
theorem f_RX0_16 : z_F RX0 16 0 2 RX0 TX0 3 := ⟨rfl, by decide, Or.inl (z_tab 37 (by decide +kernel) rfl)⟩
theorem f_RX1_9 : z_F RX1 9 1 0 RX1 TX1 13 := ⟨rfl, by decide, Or.inl (z_tab 121 (by decide +kernel) rfl)⟩
theorem f_RX1_15 : z_F RX1 15 1 1 RX1 TX1 13 := ⟨rfl, by decide, Or.inl (z_tab 122 (by decide +kernel) rfl)⟩
theorem f_RX1_19 : z_F RX1 19 1 2 RX1 TX1 13 := ⟨rfl, by decide, Or.inl (z_tab 123 (by decide +kernel) rfl)⟩
theorem f_RX1_22 : z_F RX1 22 1 3 RX1 TX1 13 := ⟨rfl, by decide, Or.inl (z_tab 124 (by decide +kernel) rfl)⟩
theorem f_RX1_25 : z_F RX1 25 1 4 RX1 TX1 13 := ⟨rfl, by decide, Or.inl (z_tab 125 (by decide +kernel) rfl)⟩
theorem f_RX1_28 : z_F RX1 28 1 5 RX1 TX1 13 := ⟨rfl, by decide, Or.inl (z_tab 126 (by decide +kernel) rfl)⟩
theorem f_RX1_31 : z_F RX1 31 1 6 RX1 TX1 13 := ⟨rfl, by decide, Or.inl (z_tab 127 (by decide +kernel) rfl)⟩
theorem f_RX1_34 : z_F RX1 34 1 7 RX1 TX1 13 := ⟨rfl, by decide, Or.inl (z_tab 128 (by decide +kernel) rfl)⟩
theorem f_RX1_37 : z_F RX1 37 1 8 RX1 TX1 13 := ⟨rfl, by decide, Or.inl (z_tab 129 (by decide +kernel) rfl)⟩
theorem f_RX1_40 : z_F RX1 40 1 9 RX1 TX1 13 := ⟨rfl, by decide, Or.inl (z_tab 130 (by decide +kernel) rfl)⟩
theorem f_RX1_43 : z_F RX1 43 1 10 RX1 TX1 13 := ⟨rfl, by decide, Or.inl (z_tab 131 (by decide +kernel) rfl)⟩
theorem f_RX1_46 : z_F RX1 46 1 11 RX1 TX1 13 := ⟨rfl, by decide, Or.inl (z_tab 132 (by decide +kernel) rfl)⟩
theorem f_RX1_50 : z_F RX1 50 1 12 RX1 TX1 13 := ⟨rfl, by decide, Or.inl (z_tab 133 (by decide +kernel) rfl)⟩
theorem f_RX1_72 : z_F RX1 72 3 5 RX3 TX3 9 := ⟨rfl, by decide, Or.inr ⟨"PouredScreen", z_nst 88 (by decide +kernel) rfl⟩⟩
theorem f_RX1_114 : z_F RX1 114 3 4 RX3 TX3 9 := ⟨rfl, by decide, Or.inr ⟨"PouredScreen", z_nst 85 (by decide +kernel) rfl⟩⟩
theorem f_RX1_121 : z_F RX1 121 3 1 RX3 TX3 9 := ⟨rfl, by decide, Or.inr ⟨"PouredScreen", z_nst 78 (by decide +kernel) rfl⟩⟩
theorem f_RX1_129 : z_F RX1 129 3 3 RX3 TX3 9 := ⟨rfl, by decide, Or.inr ⟨"PouredScreen", z_nst 81 (by decide +kernel) rfl⟩⟩
theorem f_RX1_136 : z_F RX1 136 0 2 RX0 TX0 3 := ⟨rfl, by decide, Or.inr ⟨"PouredScreen", z_nst 39 (by decide +kernel) rfl⟩⟩
theorem f_RX1_145 : z_F RX1 145 2 1 RX2 TX2 3 := ⟨rfl, by decide, Or.inr ⟨"PouredScreen", z_nst 60 (by decide +kernel) rfl⟩⟩
theorem f_RX1_148 : z_F RX1 148 2 2 RX2 TX2 3 := ⟨rfl, by decide, Or.inr ⟨"PouredScreen", z_nst 64 (by decide +kernel) rfl⟩⟩
theorem f_RX1_154 : z_F RX1 154 0 0 RX0 TX0 3 := ⟨rfl, by decide, Or.inr ⟨"PouredScreen", z_nst 33 (by decide +kernel) rfl⟩⟩
theorem f_RX2_9 : z_F RX2 9 2 0 RX2 TX2 3 := ⟨rfl, by decide, Or.inl (z_tab 58 (by decide +kernel) rfl)⟩
theorem f_RX2_18 : z_F RX2 18 2 1 RX2 TX2 3 := ⟨rfl, by decide, Or.inl (z_tab 59 (by decide +kernel) rfl)⟩
theorem f_RX2_22 : z_F RX2 22 2 2 RX2 TX2 3 := ⟨rfl, by decide, Or.inl (z_tab 63 (by decide +kernel) rfl)⟩
theorem f_RX3_11 : z_F RX3 11 3 0 RX3 TX3 9 := ⟨rfl, by decide, Or.inl (z_tab 75 (by decide +kernel) rfl)⟩
theorem f_RX3_20 : z_F RX3 20 3 1 RX3 TX3 9 := ⟨rfl, by decide, Or.inl (z_tab 76 (by decide +kernel) rfl)⟩
theorem f_RX3_24 : z_F RX3 24 3 2 RX3 TX3 9 := ⟨rfl, by decide, Or.inl (z_tab 79 (by decide +kernel) rfl)⟩
theorem f_RX3_28 : z_F RX3 28 3 3 RX3 TX3 9 := ⟨rfl, by decide, Or.inl (z_tab 80 (by decide +kernel) rfl)⟩
theorem f_RX3_32 : z_F RX3 32 3 4 RX3 TX3 9 := ⟨rfl, by decide, Or.inl (z_tab 83 (by decide +kernel) rfl)⟩
theorem f_RX3_35 : z_F RX3 35 3 5 RX3 TX3 9 := ⟨rfl, by decide, Or.inl (z_tab 86 (by decide +kernel) rfl)⟩
theorem f_RX3_38 : z_F RX3 38 3 6 RX3 TX3 9 := ⟨rfl, by decide, Or.inl (z_tab 89 (by decide +kernel) rfl)⟩
theorem f_RX3_41 : z_F RX3 41 3 7 RX3 TX3 9 := ⟨rfl, by decide, Or.inl (z_tab 91 (by decide +kernel) rfl)⟩
theorem f_RX3_44 : z_F RX3 44 3 8 RX3 TX3 9 := ⟨rfl, by decide, Or.inl (z_tab 93 (by decide +kernel) rfl)⟩
theorem f_RX3_66 : z_F RX3 66 0 0 RX0 TX0 3 := ⟨rfl, by decide, Or.inr ⟨"PouredScreen", z_nst 32 (by decide +kernel) rfl⟩⟩
theorem f_RX3_69 : z_F RX3 69 0 1 RX0 TX0 3 := ⟨rfl, by decide, Or.inr ⟨"PouredScreen", z_nst 36 (by decide +kernel) rfl⟩⟩
theorem f_RX3_83 : z_F RX3 83 0 2 RX0 TX0 3 := ⟨rfl, by decide, Or.inr ⟨"PouredScreen", z_nst 40 (by decide +kernel) rfl⟩⟩
theorem f_RX3_99 : z_F RX3 99 2 2 RX2 TX2 3 := ⟨rfl, by decide, Or.inr ⟨"PouredScreen", z_nst 65 (by decide +kernel) rfl⟩⟩
theorem f_RX3_105 : z_F RX3 105 2 1 RX2 TX2 3 := ⟨rfl, by decide, Or.inr ⟨"PouredScreen", z_nst 61 (by decide +kernel) rfl⟩⟩
theorem l_RX4_11 : z_LI RX4 11 yX3_init cX3_init 2 (none) 0 := ⟨⟨Or.inl (z_tab 18 (by decide +kernel) rfl), z_tab 20 (by decide +kernel) rfl, z_tab 2 (by decide +kernel) rfl, by decide +kernel, by decide +kernel, by decide +kernel⟩, rfl, z_tab 19 (by decide +kernel) rfl⟩
theorem l_RX4_22 : z_LI RX4 22 yX1_init cX1_init 1 (none) 0 := ⟨⟨Or.inr ⟨"PouredScreen", z_nst 117 (by decide +kernel) rfl⟩, z_tab 119 (by decide +kernel) rfl, z_tab 5 (by decide +kernel) rfl, by decide +kernel, by decide +kernel, by decide +kernel⟩, rfl, z_tab 118 (by decide +kernel) rfl⟩
theorem l_RX4_34 : z_LS RX4 34 yX4_isControl cX4_isControl 1 ((some .boolean)) 1 := ⟨⟨Or.inl (z_tab 181 (by decide +kernel) rfl), z_tab 183 (by decide +kernel) rfl, z_tab 1 (by decide +kernel) rfl, by decide +kernel, by decide +kernel, by decide +kernel⟩, z_tab 182 (by decide +kernel) rfl⟩
theorem l_RX4_38 : z_LV RX4 38 yX4_remember cX4_remember 2 ((some (.object "PouredScreen$Sheet"))) 0 := ⟨⟨Or.inl (z_tab 184 (by decide +kernel) rfl), z_tab 187 (by decide +kernel) rfl, z_tab 1 (by decide +kernel) rfl, by decide +kernel, by decide +kernel, by decide +kernel⟩, z_tab 186 (by decide +kernel) rfl, z_sel 0 (q := (yX4_remember, 5)) (by decide +kernel) rfl⟩
theorem l_RX4_42 : z_LV RX4 42 yX3_write cX3_write 2 (none) 1 := ⟨⟨Or.inl (z_tab 218 (by decide +kernel) rfl), z_tab 221 (by decide +kernel) rfl, z_tab 2 (by decide +kernel) rfl, by decide +kernel, by decide +kernel, by decide +kernel⟩, z_tab 219 (by decide +kernel) rfl, z_tab 220 (by decide +kernel) rfl⟩
theorem l_RX4_46 : z_LV RX4 46 yX4_obey cX4_obey 3 (none) 1 := ⟨⟨Or.inl (z_tab 280 (by decide +kernel) rfl), z_tab 283 (by decide +kernel) rfl, z_tab 1 (by decide +kernel) rfl, by decide +kernel, by decide +kernel, by decide +kernel⟩, z_tab 282 (by decide +kernel) rfl, z_sel 8 (q := (yX4_obey, 5)) (by decide +kernel) rfl⟩
theorem l_RX4_52 : z_LV RX4 52 yX3_hasCell cX3_hasCell 3 ((some .boolean)) 2 := ⟨⟨Or.inl (z_tab 417 (by decide +kernel) rfl), z_tab 420 (by decide +kernel) rfl, z_tab 2 (by decide +kernel) rfl, by decide +kernel, by decide +kernel, by decide +kernel⟩, z_tab 418 (by decide +kernel) rfl, z_tab 419 (by decide +kernel) rfl⟩
theorem l_RX4_71 : z_LV RX4 71 yX0_set cX0_set 3 (none) 2 := ⟨⟨Or.inl (z_tab 421 (by decide +kernel) rfl), z_tab 382 (by decide +kernel) rfl, z_tab 3 (by decide +kernel) rfl, by decide +kernel, by decide +kernel, by decide +kernel⟩, z_tab 380 (by decide +kernel) rfl, z_tab 381 (by decide +kernel) rfl⟩
theorem l_RX4_84 : z_LV RX4 84 yX3_taken cX3_taken 3 ((some .int)) 0 := ⟨⟨Or.inl (z_tab 405 (by decide +kernel) rfl), z_tab 408 (by decide +kernel) rfl, z_tab 2 (by decide +kernel) rfl, by decide +kernel, by decide +kernel, by decide +kernel⟩, z_tab 406 (by decide +kernel) rfl, z_tab 407 (by decide +kernel) rfl⟩
theorem l_RX4_88 : z_LV RX4 88 yX3_eraseInRow cX3_eraseInRow 4 (none) 1 := ⟨⟨Or.inl (z_tab 430 (by decide +kernel) rfl), z_tab 433 (by decide +kernel) rfl, z_tab 2 (by decide +kernel) rfl, by decide +kernel, by decide +kernel, by decide +kernel⟩, z_tab 431 (by decide +kernel) rfl, z_tab 432 (by decide +kernel) rfl⟩
theorem l_RX4_95 : z_LV RX4 95 yX3_eraseRows cX3_eraseRows 4 (none) 2 := ⟨⟨Or.inl (z_tab 439 (by decide +kernel) rfl), z_tab 442 (by decide +kernel) rfl, z_tab 2 (by decide +kernel) rfl, by decide +kernel, by decide +kernel, by decide +kernel⟩, z_tab 440 (by decide +kernel) rfl, z_tab 441 (by decide +kernel) rfl⟩
theorem l_RX4_98 : z_LV RX4 98 yX3_isCursorInRegion cX3_isCursorInRegion 1 ((some .boolean)) 0 := ⟨⟨Or.inl (z_tab 447 (by decide +kernel) rfl), z_tab 450 (by decide +kernel) rfl, z_tab 2 (by decide +kernel) rfl, by decide +kernel, by decide +kernel, by decide +kernel⟩, z_tab 448 (by decide +kernel) rfl, z_tab 449 (by decide +kernel) rfl⟩
theorem l_RX4_102 : z_LV RX4 102 yX3_openRows cX3_openRows 4 ((some .int)) 1 := ⟨⟨Or.inl (z_tab 451 (by decide +kernel) rfl), z_tab 454 (by decide +kernel) rfl, z_tab 2 (by decide +kernel) rfl, by decide +kernel, by decide +kernel, by decide +kernel⟩, z_tab 452 (by decide +kernel) rfl, z_tab 453 (by decide +kernel) rfl⟩
theorem l_RX4_106 : z_LV RX4 106 yX3_closeRows cX3_closeRows 4 ((some .int)) 1 := ⟨⟨Or.inl (z_tab 464 (by decide +kernel) rfl), z_tab 467 (by decide +kernel) rfl, z_tab 2 (by decide +kernel) rfl, by decide +kernel, by decide +kernel, by decide +kernel⟩, z_tab 465 (by decide +kernel) rfl, z_tab 466 (by decide +kernel) rfl⟩
theorem l_RX4_109 : z_LV RX4 109 yX3_screenRow cX3_screenRow 2 ((some (.object "PouredScreen$Row"))) 1 := ⟨⟨Or.inl (z_tab 472 (by decide +kernel) rfl), z_tab 254 (by decide +kernel) rfl, z_tab 2 (by decide +kernel) rfl, by decide +kernel, by decide +kernel, by decide +kernel⟩, z_tab 252 (by decide +kernel) rfl, z_tab 253 (by decide +kernel) rfl⟩
theorem l_RX4_113 : z_LV RX4 113 yX2_taken cX2_taken 6 ((some .int)) 0 := ⟨⟨Or.inl (z_tab 473 (by decide +kernel) rfl), z_tab 412 (by decide +kernel) rfl, z_tab 4 (by decide +kernel) rfl, by decide +kernel, by decide +kernel, by decide +kernel⟩, z_tab 410 (by decide +kernel) rfl, z_tab 411 (by decide +kernel) rfl⟩
theorem l_RX4_122 : z_LV RX4 122 yX2_openCells cX2_openCells 5 (none) 3 := ⟨⟨Or.inl (z_tab 474 (by decide +kernel) rfl), z_tab 477 (by decide +kernel) rfl, z_tab 4 (by decide +kernel) rfl, by decide +kernel, by decide +kernel, by decide +kernel⟩, z_tab 475 (by decide +kernel) rfl, z_tab 476 (by decide +kernel) rfl⟩
theorem l_RX4_126 : z_LV RX4 126 yX2_closeCells cX2_closeCells 5 (none) 3 := ⟨⟨Or.inl (z_tab 482 (by decide +kernel) rfl), z_tab 485 (by decide +kernel) rfl, z_tab 4 (by decide +kernel) rfl, by decide +kernel, by decide +kernel, by decide +kernel⟩, z_tab 483 (by decide +kernel) rfl, z_tab 484 (by decide +kernel) rfl⟩
theorem l_RX4_132 : z_LV RX4 132 yX3_keepCursor cX3_keepCursor 1 (none) 0 := ⟨⟨Or.inl (z_tab 490 (by decide +kernel) rfl), z_tab 493 (by decide +kernel) rfl, z_tab 2 (by decide +kernel) rfl, by decide +kernel, by decide +kernel, by decide +kernel⟩, z_tab 491 (by decide +kernel) rfl, z_tab 492 (by decide +kernel) rfl⟩
theorem l_RX4_135 : z_LV RX4 135 yX3_takeCursorBack cX3_takeCursorBack 1 (none) 0 := ⟨⟨Or.inl (z_tab 499 (by decide +kernel) rfl), z_tab 502 (by decide +kernel) rfl, z_tab 2 (by decide +kernel) rfl, by decide +kernel, by decide +kernel, by decide +kernel⟩, z_tab 500 (by decide +kernel) rfl, z_tab 501 (by decide +kernel) rfl⟩
theorem l_RX4_138 : z_LS RX4 138 yX4_isWidth cX4_isWidth 1 ((some .boolean)) 1 := ⟨⟨Or.inl (z_tab 292 (by decide +kernel) rfl), z_tab 294 (by decide +kernel) rfl, z_tab 1 (by decide +kernel) rfl, by decide +kernel, by decide +kernel, by decide +kernel⟩, z_tab 293 (by decide +kernel) rfl⟩
theorem l_RX4_141 : z_LV RX4 141 yX1_pour cX1_pour 10 ((some .int)) 4 := ⟨⟨Or.inl (z_tab 295 (by decide +kernel) rfl), z_tab 298 (by decide +kernel) rfl, z_tab 5 (by decide +kernel) rfl, by decide +kernel, by decide +kernel, by decide +kernel⟩, z_tab 296 (by decide +kernel) rfl, z_tab 297 (by decide +kernel) rfl⟩
theorem l_RX4_145 : z_LV RX4 145 yX2_at cX2_at 2 ((some .int)) 1 := ⟨⟨Or.inl (z_tab 510 (by decide +kernel) rfl), z_tab 270 (by decide +kernel) rfl, z_tab 4 (by decide +kernel) rfl, by decide +kernel, by decide +kernel, by decide +kernel⟩, z_tab 268 (by decide +kernel) rfl, z_tab 269 (by decide +kernel) rfl⟩
theorem l_RX4_157 : z_LV RX4 157 yX2_filled cX2_filled 2 ((some .int)) 0 := ⟨⟨Or.inl (z_tab 518 (by decide +kernel) rfl), z_tab 311 (by decide +kernel) rfl, z_tab 4 (by decide +kernel) rfl, by decide +kernel, by decide +kernel, by decide +kernel⟩, z_tab 309 (by decide +kernel) rfl, z_tab 310 (by decide +kernel) rfl⟩
theorem l_RX4_160 : z_LV RX4 160 yX2_signs cX2_signs 6 ((some .int)) 0 := ⟨⟨Or.inl (z_tab 519 (by decide +kernel) rfl), z_tab 522 (by decide +kernel) rfl, z_tab 4 (by decide +kernel) rfl, by decide +kernel, by decide +kernel, by decide +kernel⟩, z_tab 520 (by decide +kernel) rfl, z_tab 521 (by decide +kernel) rfl⟩
theorem l_RX4_163 : z_LV RX4 163 yX3_startOfLine cX3_startOfLine 5 ((some .int)) 1 := ⟨⟨Or.inl (z_tab 533 (by decide +kernel) rfl), z_tab 536 (by decide +kernel) rfl, z_tab 2 (by decide +kernel) rfl, by decide +kernel, by decide +kernel, by decide +kernel⟩, z_tab 534 (by decide +kernel) rfl, z_tab 535 (by decide +kernel) rfl⟩
theorem l_RX4_166 : z_LV RX4 166 yX3_endOf cX3_endOf 4 ((some .int)) 1 := ⟨⟨Or.inl (z_tab 537 (by decide +kernel) rfl), z_tab 374 (by decide +kernel) rfl, z_tab 2 (by decide +kernel) rfl, by decide +kernel, by decide +kernel, by decide +kernel⟩, z_tab 372 (by decide +kernel) rfl, z_tab 373 (by decide +kernel) rfl⟩
theorem l_RX4_169 : z_LV RX4 169 yX3_signsOfLine cX3_signsOfLine 5 ((some .int)) 2 := ⟨⟨Or.inl (z_tab 538 (by decide +kernel) rfl), z_tab 541 (by decide +kernel) rfl, z_tab 2 (by decide +kernel) rfl, by decide +kernel, by decide +kernel, by decide +kernel⟩, z_tab 539 (by decide +kernel) rfl, z_tab 540 (by decide +kernel) rfl⟩
theorem l_RX4_175 : z_LV RX4 175 yX1_signOf cX1_signOf 5 ((some .int)) 4 := ⟨⟨Or.inl (z_tab 546 (by decide +kernel) rfl), z_tab 549 (by decide +kernel) rfl, z_tab 5 (by decide +kernel) rfl, by decide +kernel, by decide +kernel, by decide +kernel⟩, z_tab 547 (by decide +kernel) rfl, z_tab 548 (by decide +kernel) rfl⟩
theorem l_RX4_179 : z_LV RX4 179 yX3_keptPlace cX3_keptPlace 2 ((some (.object "PouredScreen$Place"))) 1 := ⟨⟨Or.inl (z_tab 554 (by decide +kernel) rfl), z_tab 203 (by decide +kernel) rfl, z_tab 2 (by decide +kernel) rfl, by decide +kernel, by decide +kernel, by decide +kernel⟩, z_tab 201 (by decide +kernel) rfl, z_tab 202 (by decide +kernel) rfl⟩
theorem l_RX4_183 : z_LV RX4 183 yX3_lineOf cX3_lineOf 2 ((some .int)) 1 := ⟨⟨Or.inl (z_tab 555 (by decide +kernel) rfl), z_tab 558 (by decide +kernel) rfl, z_tab 2 (by decide +kernel) rfl, by decide +kernel, by decide +kernel, by decide +kernel⟩, z_tab 556 (by decide +kernel) rfl, z_tab 557 (by decide +kernel) rfl⟩
theorem l_RX4_187 : z_LV RX4 187 yX3_markOf cX3_markOf 7 ((some .int)) 1 := ⟨⟨Or.inl (z_tab 559 (by decide +kernel) rfl), z_tab 361 (by decide +kernel) rfl, z_tab 2 (by decide +kernel) rfl, by decide +kernel, by decide +kernel, by decide +kernel⟩, z_tab 359 (by decide +kernel) rfl, z_tab 360 (by decide +kernel) rfl⟩
theorem l_RX4_190 : z_LV RX4 190 yX1_rowsIn cX1_rowsIn 3 ((some .int)) 2 := ⟨⟨Or.inl (z_tab 579 (by decide +kernel) rfl), z_tab 302 (by decide +kernel) rfl, z_tab 5 (by decide +kernel) rfl, by decide +kernel, by decide +kernel, by decide +kernel⟩, z_tab 300 (by decide +kernel) rfl, z_tab 301 (by decide +kernel) rfl⟩
theorem l_RX4_194 : z_LV RX4 194 yX3_lines cX3_lines 1 ((some .int)) 0 := ⟨⟨Or.inl (z_tab 396 (by decide +kernel) rfl), z_tab 399 (by decide +kernel) rfl, z_tab 2 (by decide +kernel) rfl, by decide +kernel, by decide +kernel, by decide +kernel⟩, z_tab 397 (by decide +kernel) rfl, z_tab 398 (by decide +kernel) rfl⟩
theorem l_RX4_197 : z_LV RX4 197 yX3_countedRows cX3_countedRows 3 ((some .int)) 0 := ⟨⟨Or.inl (z_tab 404 (by decide +kernel) rfl), z_tab 306 (by decide +kernel) rfl, z_tab 2 (by decide +kernel) rfl, by decide +kernel, by decide +kernel, by decide +kernel⟩, z_tab 304 (by decide +kernel) rfl, z_tab 305 (by decide +kernel) rfl⟩
theorem l_RX4_200 : z_LV RX4 200 yX4_stateAt cX4_stateAt 2 ((some (.object "PouredScreen$Sheet"))) 1 := ⟨⟨Or.inl (z_tab 188 (by decide +kernel) rfl), z_tab 191 (by decide +kernel) rfl, z_tab 1 (by decide +kernel) rfl, by decide +kernel, by decide +kernel, by decide +kernel⟩, z_tab 190 (by decide +kernel) rfl, z_sel 1 (q := (yX4_stateAt, 5)) (by decide +kernel) rfl⟩
theorem l_RX4_204 : z_LV RX4 204 yX3_copyFrom cX3_copyFrom 3 (none) 1 := ⟨⟨Or.inl (z_tab 192 (by decide +kernel) rfl), z_tab 195 (by decide +kernel) rfl, z_tab 2 (by decide +kernel) rfl, by decide +kernel, by decide +kernel, by decide +kernel⟩, z_tab 193 (by decide +kernel) rfl, z_tab 194 (by decide +kernel) rfl⟩
theorem l_RX4_255 : z_LV RX4 255 yX3_lineFeed cX3_lineFeed 2 ((some .boolean)) 0 := ⟨⟨Or.inl (z_tab 287 (by decide +kernel) rfl), z_tab 229 (by decide +kernel) rfl, z_tab 2 (by decide +kernel) rfl, by decide +kernel, by decide +kernel, by decide +kernel⟩, z_tab 227 (by decide +kernel) rfl, z_tab 228 (by decide +kernel) rfl⟩
theorem l_RX1_53 : z_LV RX1 53 yX3_cellsOfLine cX3_cellsOfLine 4 ((some .int)) 2 := ⟨⟨Or.inl (z_tab 324 (by decide +kernel) rfl), z_tab 327 (by decide +kernel) rfl, z_tab 2 (by decide +kernel) rfl, by decide +kernel, by decide +kernel, by decide +kernel⟩, z_tab 325 (by decide +kernel) rfl, z_tab 326 (by decide +kernel) rfl⟩
theorem l_RX1_59 : z_LV RX1 59 yX3_rowAt cX3_rowAt 2 ((some (.object "PouredScreen$Row"))) 1 := ⟨⟨Or.inl (z_tab 332 (by decide +kernel) rfl), z_tab 207 (by decide +kernel) rfl, z_tab 2 (by decide +kernel) rfl, by decide +kernel, by decide +kernel, by decide +kernel⟩, z_tab 205 (by decide +kernel) rfl, z_tab 206 (by decide +kernel) rfl⟩
theorem l_RX1_63 : z_LV RX1 63 yX2_at cX2_at 2 ((some .int)) 1 := ⟨⟨Or.inl (z_tab 333 (by decide +kernel) rfl), z_tab 270 (by decide +kernel) rfl, z_tab 4 (by decide +kernel) rfl, by decide +kernel, by decide +kernel, by decide +kernel⟩, z_tab 268 (by decide +kernel) rfl, z_tab 269 (by decide +kernel) rfl⟩
theorem l_RX1_69 : z_LS RX1 69 yX4_sizeOf cX4_sizeOf 1 ((some .int)) 1 := ⟨⟨Or.inr ⟨"PouredScreen", z_nst 334 (by decide +kernel) rfl⟩, z_tab 257 (by decide +kernel) rfl, z_tab 1 (by decide +kernel) rfl, by decide +kernel, by decide +kernel, by decide +kernel⟩, z_tab 256 (by decide +kernel) rfl⟩
theorem l_RX1_73 : z_LV RX1 73 yX1_begin cX1_begin 5 (none) 4 := ⟨⟨Or.inl (z_tab 320 (by decide +kernel) rfl), z_tab 323 (by decide +kernel) rfl, z_tab 5 (by decide +kernel) rfl, by decide +kernel, by decide +kernel, by decide +kernel⟩, z_tab 321 (by decide +kernel) rfl, z_tab 322 (by decide +kernel) rfl⟩
theorem l_RX1_77 : z_LV RX1 77 yX1_readUpTo cX1_readUpTo 3 ((some .boolean)) 1 := ⟨⟨Or.inl (z_tab 375 (by decide +kernel) rfl), z_tab 378 (by decide +kernel) rfl, z_tab 5 (by decide +kernel) rfl, by decide +kernel, by decide +kernel, by decide +kernel⟩, z_tab 377 (by decide +kernel) rfl, z_sel 13 (q := (yX1_readUpTo, 13)) (by decide +kernel) rfl⟩
theorem l_RX1_81 : z_LV RX1 81 yX1_next cX1_next 2 ((some .boolean)) 0 := ⟨⟨Or.inl (z_tab 328 (by decide +kernel) rfl), z_tab 331 (by decide +kernel) rfl, z_tab 5 (by decide +kernel) rfl, by decide +kernel, by decide +kernel, by decide +kernel⟩, z_tab 329 (by decide +kernel) rfl, z_tab 330 (by decide +kernel) rfl⟩
theorem l_RX1_85 : z_LV RX1 85 yX3_countedRows cX3_countedRows 3 ((some .int)) 0 := ⟨⟨Or.inl (z_tab 303 (by decide +kernel) rfl), z_tab 306 (by decide +kernel) rfl, z_tab 2 (by decide +kernel) rfl, by decide +kernel, by decide +kernel, by decide +kernel⟩, z_tab 304 (by decide +kernel) rfl, z_tab 305 (by decide +kernel) rfl⟩
theorem l_RX1_89 : z_LV RX1 89 yX3_endsLine cX3_endsLine 3 ((some .boolean)) 2 := ⟨⟨Or.inl (z_tab 316 (by decide +kernel) rfl), z_tab 319 (by decide +kernel) rfl, z_tab 2 (by decide +kernel) rfl, by decide +kernel, by decide +kernel, by decide +kernel⟩, z_tab 317 (by decide +kernel) rfl, z_tab 318 (by decide +kernel) rfl⟩
theorem l_RX1_93 : z_LV RX1 93 yX1_rowsBefore cX1_rowsBefore 9 ((some .int)) 3 := ⟨⟨Or.inl (z_tab 312 (by decide +kernel) rfl), z_tab 315 (by decide +kernel) rfl, z_tab 5 (by decide +kernel) rfl, by decide +kernel, by decide +kernel, by decide +kernel⟩, z_tab 314 (by decide +kernel) rfl, z_sel 9 (q := (yX1_rowsBefore, 13)) (by decide +kernel) rfl⟩
theorem l_RX1_97 : z_LV RX1 97 yX1_rowsIn cX1_rowsIn 3 ((some .int)) 2 := ⟨⟨Or.inl (z_tab 299 (by decide +kernel) rfl), z_tab 302 (by decide +kernel) rfl, z_tab 5 (by decide +kernel) rfl, by decide +kernel, by decide +kernel, by decide +kernel⟩, z_tab 300 (by decide +kernel) rfl, z_tab 301 (by decide +kernel) rfl⟩
theorem l_RX1_107 : z_LV RX1 107 yX3_clear cX3_clear 7 (none) 2 := ⟨⟨Or.inl (z_tab 336 (by decide +kernel) rfl), z_tab 339 (by decide +kernel) rfl, z_tab 2 (by decide +kernel) rfl, by decide +kernel, by decide +kernel, by decide +kernel⟩, z_tab 337 (by decide +kernel) rfl, z_tab 338 (by decide +kernel) rfl⟩
theorem l_RX1_117 : z_LV RX1 117 yX1_pourLines cX1_pourLines 8 (none) 3 := ⟨⟨Or.inl (z_tab 341 (by decide +kernel) rfl), z_tab 344 (by decide +kernel) rfl, z_tab 5 (by decide +kernel) rfl, by decide +kernel, by decide +kernel, by decide +kernel⟩, z_tab 343 (by decide +kernel) rfl, z_sel 10 (q := (yX1_pourLines, 13)) (by decide +kernel) rfl⟩
theorem l_RX1_125 : z_LV RX1 125 yX1_follow cX1_follow 11 (none) 5 := ⟨⟨Or.inl (z_tab 350 (by decide +kernel) rfl), z_tab 353 (by decide +kernel) rfl, z_tab 5 (by decide +kernel) rfl, by decide +kernel, by decide +kernel, by decide +kernel⟩, z_tab 352 (by decide +kernel) rfl, z_sel 12 (q := (yX1_follow, 13)) (by decide +kernel) rfl⟩
theorem l_RX1_132 : z_LV RX1 132 yX3_keptPlace cX3_keptPlace 2 ((some (.object "PouredScreen$Place"))) 1 := ⟨⟨Or.inl (z_tab 383 (by decide +kernel) rfl), z_tab 203 (by decide +kernel) rfl, z_tab 2 (by decide +kernel) rfl, by decide +kernel, by decide +kernel, by decide +kernel⟩, z_tab 201 (by decide +kernel) rfl, z_tab 202 (by decide +kernel) rfl⟩
theorem l_RX1_141 : z_LV RX1 141 yX1_pourLine cX1_pourLine 5 (none) 2 := ⟨⟨Or.inl (z_tab 345 (by decide +kernel) rfl), z_tab 348 (by decide +kernel) rfl, z_tab 5 (by decide +kernel) rfl, by decide +kernel, by decide +kernel, by decide +kernel⟩, z_tab 347 (by decide +kernel) rfl, z_sel 11 (q := (yX1_pourLine, 13)) (by decide +kernel) rfl⟩
theorem l_RX1_151 : z_LV RX1 151 yX2_put cX2_put 3 (none) 2 := ⟨⟨Or.inl (z_tab 349 (by decide +kernel) rfl), z_tab 279 (by decide +kernel) rfl, z_tab 4 (by decide +kernel) rfl, by decide +kernel, by decide +kernel, by decide +kernel⟩, z_tab 277 (by decide +kernel) rfl, z_tab 278 (by decide +kernel) rfl⟩
theorem l_RX1_155 : z_LV RX1 155 yX3_startOf cX3_startOf 3 ((some .int)) 1 := ⟨⟨Or.inl (z_tab 354 (by decide +kernel) rfl), z_tab 357 (by decide +kernel) rfl, z_tab 2 (by decide +kernel) rfl, by decide +kernel, by decide +kernel, by decide +kernel⟩, z_tab 355 (by decide +kernel) rfl, z_tab 356 (by decide +kernel) rfl⟩
theorem l_RX1_158 : z_LV RX1 158 yX3_markOf cX3_markOf 7 ((some .int)) 1 := ⟨⟨Or.inl (z_tab 358 (by decide +kernel) rfl), z_tab 361 (by decide +kernel) rfl, z_tab 2 (by decide +kernel) rfl, by decide +kernel, by decide +kernel, by decide +kernel⟩, z_tab 359 (by decide +kernel) rfl, z_tab 360 (by decide +kernel) rfl⟩
theorem l_RX1_162 : z_LV RX1 162 yX3_endOf cX3_endOf 4 ((some .int)) 1 := ⟨⟨Or.inl (z_tab 371 (by decide +kernel) rfl), z_tab 374 (by decide +kernel) rfl, z_tab 2 (by decide +kernel) rfl, by decide +kernel, by decide +kernel, by decide +kernel⟩, z_tab 372 (by decide +kernel) rfl, z_tab 373 (by decide +kernel) rfl⟩
theorem l_RX1_165 : z_LV RX1 165 yX0_set cX0_set 3 (none) 2 := ⟨⟨Or.inl (z_tab 379 (by decide +kernel) rfl), z_tab 382 (by decide +kernel) rfl, z_tab 3 (by decide +kernel) rfl, by decide +kernel, by decide +kernel, by decide +kernel⟩, z_tab 380 (by decide +kernel) rfl, z_tab 381 (by decide +kernel) rfl⟩
theorem l_RX2_15 : z_LV RX2 15 yX2_clear cX2_clear 2 (none) 0 := ⟨⟨Or.inl (z_tab 54 (by decide +kernel) rfl), z_tab 57 (by decide +kernel) rfl, z_tab 4 (by decide +kernel) rfl, by decide +kernel, by decide +kernel, by decide +kernel⟩, z_tab 55 (by decide +kernel) rfl, z_tab 56 (by decide +kernel) rfl⟩
theorem l_RX2_31 : z_LV RX2 31 yX2_filled cX2_filled 2 ((some .int)) 0 := ⟨⟨Or.inl (z_tab 459 (by decide +kernel) rfl), z_tab 311 (by decide +kernel) rfl, z_tab 4 (by decide +kernel) rfl, by decide +kernel, by decide +kernel, by decide +kernel⟩, z_tab 309 (by decide +kernel) rfl, z_tab 310 (by decide +kernel) rfl⟩
theorem l_RX2_35 : z_LV RX2 35 yX2_at cX2_at 2 ((some .int)) 1 := ⟨⟨Or.inl (z_tab 267 (by decide +kernel) rfl), z_tab 270 (by decide +kernel) rfl, z_tab 4 (by decide +kernel) rfl, by decide +kernel, by decide +kernel, by decide +kernel⟩, z_tab 268 (by decide +kernel) rfl, z_tab 269 (by decide +kernel) rfl⟩
theorem l_RX2_39 : z_LV RX2 39 yX2_set cX2_set 3 (none) 2 := ⟨⟨Or.inl (z_tab 271 (by decide +kernel) rfl), z_tab 274 (by decide +kernel) rfl, z_tab 4 (by decide +kernel) rfl, by decide +kernel, by decide +kernel, by decide +kernel⟩, z_tab 273 (by decide +kernel) rfl, z_sel 7 (q := (yX2_set, 3)) (by decide +kernel) rfl⟩
theorem l_RX2_43 : z_LV RX2 43 yX2_unmark cX2_unmark 1 (none) 0 := ⟨⟨Or.inl (z_tab 275 (by decide +kernel) rfl), z_tab 237 (by decide +kernel) rfl, z_tab 4 (by decide +kernel) rfl, by decide +kernel, by decide +kernel, by decide +kernel⟩, z_tab 235 (by decide +kernel) rfl, z_tab 236 (by decide +kernel) rfl⟩
theorem l_RX2_46 : z_LS RX2 46 yX4_sizeOf cX4_sizeOf 1 ((some .int)) 1 := ⟨⟨Or.inr ⟨"PouredScreen", z_nst 262 (by decide +kernel) rfl⟩, z_tab 257 (by decide +kernel) rfl, z_tab 1 (by decide +kernel) rfl, by decide +kernel, by decide +kernel, by decide +kernel⟩, z_tab 256 (by decide +kernel) rfl⟩
theorem l_RX2_49 : z_LV RX2 49 yX2_erase cX2_erase 7 (none) 3 := ⟨⟨Or.inl (z_tab 263 (by decide +kernel) rfl), z_tab 266 (by decide +kernel) rfl, z_tab 4 (by decide +kernel) rfl, by decide +kernel, by decide +kernel, by decide +kernel⟩, z_tab 264 (by decide +kernel) rfl, z_tab 265 (by decide +kernel) rfl⟩
theorem l_RX2_53 : z_LV RX2 53 yX2_put cX2_put 3 (none) 2 := ⟨⟨Or.inl (z_tab 276 (by decide +kernel) rfl), z_tab 279 (by decide +kernel) rfl, z_tab 4 (by decide +kernel) rfl, by decide +kernel, by decide +kernel, by decide +kernel⟩, z_tab 277 (by decide +kernel) rfl, z_tab 278 (by decide +kernel) rfl⟩
theorem l_RX3_19 : z_LI RX3 19 yX0_init cX0_init 1 (none) 0 := ⟨⟨Or.inr ⟨"PouredScreen", z_nst 26 (by decide +kernel) rfl⟩, z_tab 28 (by decide +kernel) rfl, z_tab 3 (by decide +kernel) rfl, by decide +kernel, by decide +kernel, by decide +kernel⟩, rfl, z_tab 27 (by decide +kernel) rfl⟩
theorem l_RX3_47 : z_LI RX3 47 yX2_init cX2_init 1 (none) 0 := ⟨⟨Or.inl (z_tab 50 (by decide +kernel) rfl), z_tab 52 (by decide +kernel) rfl, z_tab 4 (by decide +kernel) rfl, by decide +kernel, by decide +kernel, by decide +kernel⟩, rfl, z_tab 51 (by decide +kernel) rfl⟩
theorem l_RX3_48 : z_LV RX3 48 yX0_copyFrom cX0_copyFrom 2 (none) 1 := ⟨⟨Or.inl (z_tab 196 (by decide +kernel) rfl), z_tab 199 (by decide +kernel) rfl, z_tab 3 (by decide +kernel) rfl, by decide +kernel, by decide +kernel, by decide +kernel⟩, z_tab 197 (by decide +kernel) rfl, z_tab 198 (by decide +kernel) rfl⟩
theorem l_RX3_52 : z_LV RX3 52 yX3_keptPlace cX3_keptPlace 2 ((some (.object "PouredScreen$Place"))) 1 := ⟨⟨Or.inl (z_tab 200 (by decide +kernel) rfl), z_tab 203 (by decide +kernel) rfl, z_tab 2 (by decide +kernel) rfl, by decide +kernel, by decide +kernel, by decide +kernel⟩, z_tab 201 (by decide +kernel) rfl, z_tab 202 (by decide +kernel) rfl⟩
theorem l_RX3_56 : z_LV RX3 56 yX3_rowAt cX3_rowAt 2 ((some (.object "PouredScreen$Row"))) 1 := ⟨⟨Or.inl (z_tab 204 (by decide +kernel) rfl), z_tab 207 (by decide +kernel) rfl, z_tab 2 (by decide +kernel) rfl, by decide +kernel, by decide +kernel, by decide +kernel⟩, z_tab 205 (by decide +kernel) rfl, z_tab 206 (by decide +kernel) rfl⟩
theorem l_RX3_60 : z_LV RX3 60 yX2_copyFrom cX2_copyFrom 2 (none) 1 := ⟨⟨Or.inl (z_tab 208 (by decide +kernel) rfl), z_tab 211 (by decide +kernel) rfl, z_tab 4 (by decide +kernel) rfl, by decide +kernel, by decide +kernel, by decide +kernel⟩, z_tab 209 (by decide +kernel) rfl, z_tab 210 (by decide +kernel) rfl⟩
theorem l_RX3_63 : z_LV RX3 63 yX2_clear cX2_clear 2 (none) 0 := ⟨⟨Or.inl (z_tab 242 (by decide +kernel) rfl), z_tab 57 (by decide +kernel) rfl, z_tab 4 (by decide +kernel) rfl, by decide +kernel, by decide +kernel, by decide +kernel⟩, z_tab 55 (by decide +kernel) rfl, z_tab 56 (by decide +kernel) rfl⟩
theorem l_RX3_72 : z_LV RX3 72 yX0_set cX0_set 3 (none) 2 := ⟨⟨Or.inl (z_tab 494 (by decide +kernel) rfl), z_tab 382 (by decide +kernel) rfl, z_tab 3 (by decide +kernel) rfl, by decide +kernel, by decide +kernel, by decide +kernel⟩, z_tab 380 (by decide +kernel) rfl, z_tab 381 (by decide +kernel) rfl⟩
theorem l_RX3_76 : z_LV RX3 76 yX3_screenRow cX3_screenRow 2 ((some (.object "PouredScreen$Row"))) 1 := ⟨⟨Or.inl (z_tab 251 (by decide +kernel) rfl), z_tab 254 (by decide +kernel) rfl, z_tab 2 (by decide +kernel) rfl, by decide +kernel, by decide +kernel, by decide +kernel⟩, z_tab 252 (by decide +kernel) rfl, z_tab 253 (by decide +kernel) rfl⟩
theorem l_RX3_79 : z_LV RX3 79 yX2_taken cX2_taken 6 ((some .int)) 0 := ⟨⟨Or.inl (z_tab 409 (by decide +kernel) rfl), z_tab 412 (by decide +kernel) rfl, z_tab 4 (by decide +kernel) rfl, by decide +kernel, by decide +kernel, by decide +kernel⟩, z_tab 410 (by decide +kernel) rfl, z_tab 411 (by decide +kernel) rfl⟩
theorem l_RX3_87 : z_LV RX3 87 yX3_goOn cX3_goOn 2 ((some .boolean)) 0 := ⟨⟨Or.inl (z_tab 222 (by decide +kernel) rfl), z_tab 225 (by decide +kernel) rfl, z_tab 2 (by decide +kernel) rfl, by decide +kernel, by decide +kernel, by decide +kernel⟩, z_tab 224 (by decide +kernel) rfl, z_sel 2 (q := (yX3_goOn, 9)) (by decide +kernel) rfl⟩
theorem l_RX3_91 : z_LS RX3 91 yX4_sizeOf cX4_sizeOf 1 ((some .int)) 1 := ⟨⟨Or.inr ⟨"PouredScreen", z_nst 255 (by decide +kernel) rfl⟩, z_tab 257 (by decide +kernel) rfl, z_tab 1 (by decide +kernel) rfl, by decide +kernel, by decide +kernel, by decide +kernel⟩, z_tab 256 (by decide +kernel) rfl⟩
theorem l_RX3_95 : z_LV RX3 95 yX2_overwrite cX2_overwrite 4 (none) 3 := ⟨⟨Or.inl (z_tab 258 (by decide +kernel) rfl), z_tab 261 (by decide +kernel) rfl, z_tab 4 (by decide +kernel) rfl, by decide +kernel, by decide +kernel, by decide +kernel⟩, z_tab 259 (by decide +kernel) rfl, z_tab 260 (by decide +kernel) rfl⟩
theorem l_RX3_102 : z_LV RX3 102 yX3_lineFeed cX3_lineFeed 2 ((some .boolean)) 0 := ⟨⟨Or.inl (z_tab 226 (by decide +kernel) rfl), z_tab 229 (by decide +kernel) rfl, z_tab 2 (by decide +kernel) rfl, by decide +kernel, by decide +kernel, by decide +kernel⟩, z_tab 227 (by decide +kernel) rfl, z_tab 228 (by decide +kernel) rfl⟩
theorem l_RX3_108 : z_LV RX3 108 yX3_pushTopRow cX3_pushTopRow 2 (none) 0 := ⟨⟨Or.inl (z_tab 230 (by decide +kernel) rfl), z_tab 233 (by decide +kernel) rfl, z_tab 2 (by decide +kernel) rfl, by decide +kernel, by decide +kernel, by decide +kernel⟩, z_tab 232 (by decide +kernel) rfl, z_sel 3 (q := (yX3_pushTopRow, 9)) (by decide +kernel) rfl⟩
theorem l_RX3_111 : z_LV RX3 111 yX3_takeRow cX3_takeRow 2 (none) 1 := ⟨⟨Or.inl (z_tab 243 (by decide +kernel) rfl), z_tab 246 (by decide +kernel) rfl, z_tab 2 (by decide +kernel) rfl, by decide +kernel, by decide +kernel, by decide +kernel⟩, z_tab 245 (by decide +kernel) rfl, z_sel 5 (q := (yX3_takeRow, 9)) (by decide +kernel) rfl⟩
theorem l_RX3_115 : z_LV RX3 115 yX2_unmark cX2_unmark 1 (none) 0 := ⟨⟨Or.inl (z_tab 234 (by decide +kernel) rfl), z_tab 237 (by decide +kernel) rfl, z_tab 4 (by decide +kernel) rfl, by decide +kernel, by decide +kernel, by decide +kernel⟩, z_tab 235 (by decide +kernel) rfl, z_tab 236 (by decide +kernel) rfl⟩
theorem l_RX3_118 : z_LV RX3 118 yX3_carryBlank cX3_carryBlank 5 (none) 2 := ⟨⟨Or.inl (z_tab 238 (by decide +kernel) rfl), z_tab 241 (by decide +kernel) rfl, z_tab 2 (by decide +kernel) rfl, by decide +kernel, by decide +kernel, by decide +kernel⟩, z_tab 240 (by decide +kernel) rfl, z_sel 4 (q := (yX3_carryBlank, 9)) (by decide +kernel) rfl⟩
theorem l_RX3_121 : z_LV RX3 121 yX2_erase cX2_erase 7 (none) 3 := ⟨⟨Or.inl (z_tab 434 (by decide +kernel) rfl), z_tab 266 (by decide +kernel) rfl, z_tab 4 (by decide +kernel) rfl, by decide +kernel, by decide +kernel, by decide +kernel⟩, z_tab 264 (by decide +kernel) rfl, z_tab 265 (by decide +kernel) rfl⟩
theorem l_RX3_124 : z_LV RX3 124 yX2_isBlank cX2_isBlank 1 ((some .boolean)) 0 := ⟨⟨Or.inl (z_tab 455 (by decide +kernel) rfl), z_tab 458 (by decide +kernel) rfl, z_tab 4 (by decide +kernel) rfl, by decide +kernel, by decide +kernel, by decide +kernel⟩, z_tab 456 (by decide +kernel) rfl, z_tab 457 (by decide +kernel) rfl⟩
theorem l_RX3_127 : z_LV RX3 127 yX3_unmarkAbove cX3_unmarkAbove 2 (none) 1 := ⟨⟨Or.inl (z_tab 247 (by decide +kernel) rfl), z_tab 250 (by decide +kernel) rfl, z_tab 2 (by decide +kernel) rfl, by decide +kernel, by decide +kernel, by decide +kernel⟩, z_tab 249 (by decide +kernel) rfl, z_sel 6 (q := (yX3_unmarkAbove, 9)) (by decide +kernel) rfl⟩
theorem l_RX3_136 : z_LV RX3 136 yX2_filled cX2_filled 2 ((some .int)) 0 := ⟨⟨Or.inl (z_tab 308 (by decide +kernel) rfl), z_tab 311 (by decide +kernel) rfl, z_tab 4 (by decide +kernel) rfl, by decide +kernel, by decide +kernel, by decide +kernel⟩, z_tab 309 (by decide +kernel) rfl, z_tab 310 (by decide +kernel) rfl⟩
theorem l_RX3_139 : z_LV RX3 139 yX3_countedRows cX3_countedRows 3 ((some .int)) 0 := ⟨⟨Or.inl (z_tab 368 (by decide +kernel) rfl), z_tab 306 (by decide +kernel) rfl, z_tab 2 (by decide +kernel) rfl, by decide +kernel, by decide +kernel, by decide +kernel⟩, z_tab 304 (by decide +kernel) rfl, z_tab 305 (by decide +kernel) rfl⟩
theorem l_RX3_142 : z_LV RX3 142 yX3_endsLine cX3_endsLine 3 ((some .boolean)) 2 := ⟨⟨Or.inl (z_tab 369 (by decide +kernel) rfl), z_tab 319 (by decide +kernel) rfl, z_tab 2 (by decide +kernel) rfl, by decide +kernel, by decide +kernel, by decide +kernel⟩, z_tab 317 (by decide +kernel) rfl, z_tab 318 (by decide +kernel) rfl⟩
theorem l_RX3_146 : z_LV RX3 146 yX3_linesBefore cX3_linesBefore 5 ((some .int)) 1 := ⟨⟨Or.inl (z_tab 400 (by decide +kernel) rfl), z_tab 403 (by decide +kernel) rfl, z_tab 2 (by decide +kernel) rfl, by decide +kernel, by decide +kernel, by decide +kernel⟩, z_tab 402 (by decide +kernel) rfl, z_sel 14 (q := (yX3_linesBefore, 9)) (by decide +kernel) rfl⟩
theorem l_RX3_149 : z_LV RX3 149 yX3_cellsOfLine cX3_cellsOfLine 4 ((some .int)) 2 := ⟨⟨Or.inl (z_tab 363 (by decide +kernel) rfl), z_tab 327 (by decide +kernel) rfl, z_tab 2 (by decide +kernel) rfl, by decide +kernel, by decide +kernel, by decide +kernel⟩, z_tab 325 (by decide +kernel) rfl, z_tab 326 (by decide +kernel) rfl⟩
theorem l_RX3_153 : z_LV RX3 153 yX2_signsBefore cX2_signsBefore 4 ((some .int)) 1 := ⟨⟨Or.inl (z_tab 364 (by decide +kernel) rfl), z_tab 367 (by decide +kernel) rfl, z_tab 4 (by decide +kernel) rfl, by decide +kernel, by decide +kernel, by decide +kernel⟩, z_tab 365 (by decide +kernel) rfl, z_tab 366 (by decide +kernel) rfl⟩
theorem l_RX3_156 : z_LV RX3 156 yX3_startOf cX3_startOf 3 ((some .int)) 1 := ⟨⟨Or.inl (z_tab 362 (by decide +kernel) rfl), z_tab 357 (by decide +kernel) rfl, z_tab 2 (by decide +kernel) rfl, by decide +kernel, by decide +kernel, by decide +kernel⟩, z_tab 355 (by decide +kernel) rfl, z_tab 356 (by decide +kernel) rfl⟩
theorem l_RL_9 : z_LV RL 9 yX4_told cX4_told 2 ((some .int)) 1 := ⟨⟨Or.inl (z_tab 392 (by decide +kernel) rfl), z_tab 395 (by decide +kernel) rfl, z_tab 1 (by decide +kernel) rfl, by decide +kernel, by decide +kernel, by decide +kernel⟩, z_tab 393 (by decide +kernel) rfl, z_tab 394 (by decide +kernel) rfl⟩
theorem l_RL_15 : z_LV RL 15 yX4_feed cX4_feed 3 ((some .int)) 1 := ⟨⟨Or.inl (z_tab 177 (by decide +kernel) rfl), z_tab 180 (by decide +kernel) rfl, z_tab 1 (by decide +kernel) rfl, by decide +kernel, by decide +kernel, by decide +kernel⟩, z_tab 178 (by decide +kernel) rfl, z_tab 179 (by decide +kernel) rfl⟩
theorem l_RL_18 : z_LV RL 18 yX4_moveTo cX4_moveTo 4 ((some .int)) 2 := ⟨⟨Or.inl (z_tab 413 (by decide +kernel) rfl), z_tab 416 (by decide +kernel) rfl, z_tab 1 (by decide +kernel) rfl, by decide +kernel, by decide +kernel, by decide +kernel⟩, z_tab 414 (by decide +kernel) rfl, z_tab 415 (by decide +kernel) rfl⟩
theorem l_RL_22 : z_LV RL 22 yX4_setRegion cX4_setRegion 3 ((some .int)) 2 := ⟨⟨Or.inl (z_tab 422 (by decide +kernel) rfl), z_tab 425 (by decide +kernel) rfl, z_tab 1 (by decide +kernel) rfl, by decide +kernel, by decide +kernel, by decide +kernel⟩, z_tab 423 (by decide +kernel) rfl, z_tab 424 (by decide +kernel) rfl⟩
theorem l_RL_25 : z_LV RL 25 yX4_eraseLine cX4_eraseLine 3 ((some .int)) 1 := ⟨⟨Or.inl (z_tab 426 (by decide +kernel) rfl), z_tab 429 (by decide +kernel) rfl, z_tab 1 (by decide +kernel) rfl, by decide +kernel, by decide +kernel, by decide +kernel⟩, z_tab 427 (by decide +kernel) rfl, z_tab 428 (by decide +kernel) rfl⟩
theorem l_RL_28 : z_LV RL 28 yX4_eraseScreen cX4_eraseScreen 3 ((some .int)) 1 := ⟨⟨Or.inl (z_tab 435 (by decide +kernel) rfl), z_tab 438 (by decide +kernel) rfl, z_tab 1 (by decide +kernel) rfl, by decide +kernel, by decide +kernel, by decide +kernel⟩, z_tab 436 (by decide +kernel) rfl, z_tab 437 (by decide +kernel) rfl⟩
theorem l_RL_31 : z_LV RL 31 yX4_insertRows cX4_insertRows 2 ((some .int)) 1 := ⟨⟨Or.inl (z_tab 443 (by decide +kernel) rfl), z_tab 446 (by decide +kernel) rfl, z_tab 1 (by decide +kernel) rfl, by decide +kernel, by decide +kernel, by decide +kernel⟩, z_tab 444 (by decide +kernel) rfl, z_tab 445 (by decide +kernel) rfl⟩
theorem l_RL_34 : z_LV RL 34 yX4_deleteRows cX4_deleteRows 2 ((some .int)) 1 := ⟨⟨Or.inl (z_tab 460 (by decide +kernel) rfl), z_tab 463 (by decide +kernel) rfl, z_tab 1 (by decide +kernel) rfl, by decide +kernel, by decide +kernel, by decide +kernel⟩, z_tab 461 (by decide +kernel) rfl, z_tab 462 (by decide +kernel) rfl⟩
theorem l_RL_37 : z_LV RL 37 yX4_insertCells cX4_insertCells 4 ((some .int)) 1 := ⟨⟨Or.inl (z_tab 468 (by decide +kernel) rfl), z_tab 471 (by decide +kernel) rfl, z_tab 1 (by decide +kernel) rfl, by decide +kernel, by decide +kernel, by decide +kernel⟩, z_tab 469 (by decide +kernel) rfl, z_tab 470 (by decide +kernel) rfl⟩
theorem l_RL_40 : z_LV RL 40 yX4_deleteCells cX4_deleteCells 4 ((some .int)) 1 := ⟨⟨Or.inl (z_tab 478 (by decide +kernel) rfl), z_tab 481 (by decide +kernel) rfl, z_tab 1 (by decide +kernel) rfl, by decide +kernel, by decide +kernel, by decide +kernel⟩, z_tab 479 (by decide +kernel) rfl, z_tab 480 (by decide +kernel) rfl⟩
theorem l_RL_43 : z_LV RL 43 yX4_resize cX4_resize 4 ((some .int)) 2 := ⟨⟨Or.inl (z_tab 288 (by decide +kernel) rfl), z_tab 291 (by decide +kernel) rfl, z_tab 1 (by decide +kernel) rfl, by decide +kernel, by decide +kernel, by decide +kernel⟩, z_tab 289 (by decide +kernel) rfl, z_tab 290 (by decide +kernel) rfl⟩
theorem l_RL_46 : z_LV RL 46 yX4_keep cX4_keep 1 ((some .int)) 0 := ⟨⟨Or.inl (z_tab 486 (by decide +kernel) rfl), z_tab 489 (by decide +kernel) rfl, z_tab 1 (by decide +kernel) rfl, by decide +kernel, by decide +kernel, by decide +kernel⟩, z_tab 487 (by decide +kernel) rfl, z_tab 488 (by decide +kernel) rfl⟩
theorem l_RL_50 : z_LV RL 50 yX4_back cX4_back 1 ((some .int)) 0 := ⟨⟨Or.inl (z_tab 495 (by decide +kernel) rfl), z_tab 498 (by decide +kernel) rfl, z_tab 1 (by decide +kernel) rfl, by decide +kernel, by decide +kernel, by decide +kernel⟩, z_tab 496 (by decide +kernel) rfl, z_tab 497 (by decide +kernel) rfl⟩
theorem l_RL_53 : z_LV RL 53 yX4_cell cX4_cell 3 ((some .int)) 2 := ⟨⟨Or.inl (z_tab 506 (by decide +kernel) rfl), z_tab 509 (by decide +kernel) rfl, z_tab 1 (by decide +kernel) rfl, by decide +kernel, by decide +kernel, by decide +kernel⟩, z_tab 507 (by decide +kernel) rfl, z_tab 508 (by decide +kernel) rfl⟩
theorem l_RL_56 : z_LV RL 56 yX4_row cX4_row 4 ((some .int)) 2 := ⟨⟨Or.inl (z_tab 514 (by decide +kernel) rfl), z_tab 517 (by decide +kernel) rfl, z_tab 1 (by decide +kernel) rfl, by decide +kernel, by decide +kernel, by decide +kernel⟩, z_tab 515 (by decide +kernel) rfl, z_tab 516 (by decide +kernel) rfl⟩
theorem l_RL_59 : z_LV RL 59 yX4_line cX4_line 5 ((some .int)) 2 := ⟨⟨Or.inl (z_tab 529 (by decide +kernel) rfl), z_tab 532 (by decide +kernel) rfl, z_tab 1 (by decide +kernel) rfl, by decide +kernel, by decide +kernel, by decide +kernel⟩, z_tab 530 (by decide +kernel) rfl, z_tab 531 (by decide +kernel) rfl⟩
theorem l_RL_62 : z_LV RL 62 yX4_sign cX4_sign 4 ((some .int)) 2 := ⟨⟨Or.inl (z_tab 542 (by decide +kernel) rfl), z_tab 545 (by decide +kernel) rfl, z_tab 1 (by decide +kernel) rfl, by decide +kernel, by decide +kernel, by decide +kernel⟩, z_tab 543 (by decide +kernel) rfl, z_tab 544 (by decide +kernel) rfl⟩
theorem l_RL_65 : z_LV RL 65 yX4_cursor cX4_cursor 4 ((some .int)) 2 := ⟨⟨Or.inl (z_tab 550 (by decide +kernel) rfl), z_tab 553 (by decide +kernel) rfl, z_tab 1 (by decide +kernel) rfl, by decide +kernel, by decide +kernel, by decide +kernel⟩, z_tab 551 (by decide +kernel) rfl, z_tab 552 (by decide +kernel) rfl⟩
theorem l_RL_68 : z_LS RL 68 yL_isSecond cL_isSecond 5 ((some .boolean)) 3 := ⟨⟨Or.inl (z_tab 563 (by decide +kernel) rfl), z_tab 565 (by decide +kernel) rfl, z_tab 0 (by decide +kernel) rfl, by decide +kernel, by decide +kernel, by decide +kernel⟩, z_tab 564 (by decide +kernel) rfl⟩
theorem l_RL_74 : z_LS RL 74 yL_cells cL_cells 8 ((some .boolean)) 1 := ⟨⟨Or.inl (z_tab 503 (by decide +kernel) rfl), z_tab 505 (by decide +kernel) rfl, z_tab 0 (by decide +kernel) rfl, by decide +kernel, by decide +kernel, by decide +kernel⟩, z_tab 504 (by decide +kernel) rfl⟩
theorem l_RL_78 : z_LS RL 78 yL_lines cL_lines 10 ((some .boolean)) 1 := ⟨⟨Or.inl (z_tab 526 (by decide +kernel) rfl), z_tab 528 (by decide +kernel) rfl, z_tab 0 (by decide +kernel) rfl, by decide +kernel, by decide +kernel, by decide +kernel⟩, z_tab 527 (by decide +kernel) rfl⟩
theorem l_RL_81 : z_LS RL 81 yL_marks cL_marks 11 ((some .boolean)) 1 := ⟨⟨Or.inl (z_tab 560 (by decide +kernel) rfl), z_tab 562 (by decide +kernel) rfl, z_tab 0 (by decide +kernel) rfl, by decide +kernel, by decide +kernel, by decide +kernel⟩, z_tab 561 (by decide +kernel) rfl⟩
theorem l_RL_84 : z_LS RL 84 yL_size cL_size 3 ((some .int)) 2 := ⟨⟨Or.inl (z_tab 572 (by decide +kernel) rfl), z_tab 574 (by decide +kernel) rfl, z_tab 0 (by decide +kernel) rfl, by decide +kernel, by decide +kernel, by decide +kernel⟩, z_tab 573 (by decide +kernel) rfl⟩
theorem l_RL_88 : z_LS RL 88 yL_lineHash cL_lineHash 6 ((some .int)) 1 := ⟨⟨Or.inl (z_tab 569 (by decide +kernel) rfl), z_tab 571 (by decide +kernel) rfl, z_tab 0 (by decide +kernel) rfl, by decide +kernel, by decide +kernel, by decide +kernel⟩, z_tab 570 (by decide +kernel) rfl⟩
theorem l_RL_92 : z_LV RL 92 yX4_ifWidth cX4_ifWidth 2 ((some .int)) 1 := ⟨⟨Or.inl (z_tab 575 (by decide +kernel) rfl), z_tab 578 (by decide +kernel) rfl, z_tab 1 (by decide +kernel) rfl, by decide +kernel, by decide +kernel, by decide +kernel⟩, z_tab 576 (by decide +kernel) rfl, z_tab 577 (by decide +kernel) rfl⟩
theorem l_RL_95 : z_LS RL 95 yL_whole cL_whole 1 ((some .boolean)) 1 := ⟨⟨Or.inl (z_tab 523 (by decide +kernel) rfl), z_tab 525 (by decide +kernel) rfl, z_tab 0 (by decide +kernel) rfl, by decide +kernel, by decide +kernel, by decide +kernel⟩, z_tab 524 (by decide +kernel) rfl⟩
theorem l_RL_98 : z_LV RL 98 yX4_widthFor cX4_widthFor 3 ((some .int)) 1 := ⟨⟨Or.inl (z_tab 580 (by decide +kernel) rfl), z_tab 583 (by decide +kernel) rfl, z_tab 1 (by decide +kernel) rfl, by decide +kernel, by decide +kernel, by decide +kernel⟩, z_tab 581 (by decide +kernel) rfl, z_tab 582 (by decide +kernel) rfl⟩
theorem l_RL_101 : z_LI RL 101 yX4_init cX4_init 2 (none) 0 := ⟨⟨Or.inl (z_tab 10 (by decide +kernel) rfl), z_tab 12 (by decide +kernel) rfl, z_tab 1 (by decide +kernel) rfl, by decide +kernel, by decide +kernel, by decide +kernel⟩, rfl, z_tab 11 (by decide +kernel) rfl⟩
theorem l_RL_102 : z_LS RL 102 yL_cell cL_cell 2 ((some .int)) 2 := ⟨⟨Or.inl (z_tab 384 (by decide +kernel) rfl), z_tab 386 (by decide +kernel) rfl, z_tab 0 (by decide +kernel) rfl, by decide +kernel, by decide +kernel, by decide +kernel⟩, z_tab 385 (by decide +kernel) rfl⟩
theorem l_RL_105 : z_LS RL 105 yL_acts cL_acts 5 (none) 2 := ⟨⟨Or.inl (z_tab 389 (by decide +kernel) rfl), z_tab 391 (by decide +kernel) rfl, z_tab 0 (by decide +kernel) rfl, by decide +kernel, by decide +kernel, by decide +kernel⟩, z_tab 390 (by decide +kernel) rfl⟩
theorem l_RL_109 : z_LS RL 109 yL_pours cL_pours 14 ((some .boolean)) 2 := ⟨⟨Or.inl (z_tab 566 (by decide +kernel) rfl), z_tab 568 (by decide +kernel) rfl, z_tab 0 (by decide +kernel) rfl, by decide +kernel, by decide +kernel, by decide +kernel⟩, z_tab 567 (by decide +kernel) rfl⟩
