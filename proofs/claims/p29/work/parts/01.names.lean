-- ===== PART A: goes FIRST, ahead of the names: the tables' words, and 'selects' of the private methods out of them =====
/-- a private method of a class that the tables say can be made, by its rows of tables_1 -/
def lw_okq (q : MethodName × Nat) : Prop := (q.1.cls ≠ "java/lang/invoke/MethodHandle" ∧ q.1.cls ≠ "java/lang/invoke/VarHandle") ∧ Cond.instantiable q.1.cls q.2 ∈ tables_1 ∧ Cond.privateMethod q.1 ∈ tables_1 ∧ Cond.instanceMethod q.1 ∈ tables_1
theorem lw_p0 : lw_okq (⟨"java/lang/Throwable", "fillInStackTrace", "(I)Ljava/lang/Throwable;"⟩, 6) := ⟨⟨by decide +kernel, by decide +kernel⟩, List.mem_of_getElem? (i := 184) (by decide +kernel), List.mem_of_getElem? (i := 182) (by decide +kernel), List.mem_of_getElem? (i := 183) (by decide +kernel)⟩
theorem lw_p1 : lw_okq (⟨"LentRoom$Text", "fits", "(CI)Z"⟩, 2) := ⟨⟨by decide +kernel, by decide +kernel⟩, List.mem_of_getElem? (i := 26) (by decide +kernel), List.mem_of_getElem? (i := 301) (by decide +kernel), List.mem_of_getElem? (i := 302) (by decide +kernel)⟩
theorem lw_p2 : lw_okq (⟨"LentRoom", "obeyText", "(I)Z"⟩, 8) := ⟨⟨by decide +kernel, by decide +kernel⟩, List.mem_of_getElem? (i := 18) (by decide +kernel), List.mem_of_getElem? (i := 348) (by decide +kernel), List.mem_of_getElem? (i := 349) (by decide +kernel)⟩
theorem lw_p3 : lw_okq (⟨"LentRoom$Device", "recallLoan", "(I)V"⟩, 11) := ⟨⟨by decide +kernel, by decide +kernel⟩, List.mem_of_getElem? (i := 41) (by decide +kernel), List.mem_of_getElem? (i := 401) (by decide +kernel), List.mem_of_getElem? (i := 402) (by decide +kernel)⟩
theorem lw_p4 : lw_okq (⟨"LentRoom$Device", "greatestBorrower", "(I)I"⟩, 11) := ⟨⟨by decide +kernel, by decide +kernel⟩, List.mem_of_getElem? (i := 41) (by decide +kernel), List.mem_of_getElem? (i := 405) (by decide +kernel), List.mem_of_getElem? (i := 406) (by decide +kernel)⟩
theorem lw_p5 : lw_okq (⟨"LentRoom$Device", "idlestBut", "(II)I"⟩, 11) := ⟨⟨by decide +kernel, by decide +kernel⟩, List.mem_of_getElem? (i := 41) (by decide +kernel), List.mem_of_getElem? (i := 409) (by decide +kernel), List.mem_of_getElem? (i := 410) (by decide +kernel)⟩
theorem lw_p6 : lw_okq (⟨"LentRoom$Device", "loseOldest", "(I)V"⟩, 11) := ⟨⟨by decide +kernel, by decide +kernel⟩, List.mem_of_getElem? (i := 41) (by decide +kernel), List.mem_of_getElem? (i := 413) (by decide +kernel), List.mem_of_getElem? (i := 414) (by decide +kernel)⟩
theorem lw_p7 : lw_okq (⟨"LentRoom$Device", "oldestAfter", "(II)I"⟩, 11) := ⟨⟨by decide +kernel, by decide +kernel⟩, List.mem_of_getElem? (i := 41) (by decide +kernel), List.mem_of_getElem? (i := 417) (by decide +kernel), List.mem_of_getElem? (i := 418) (by decide +kernel)⟩
theorem lw_p8 : lw_okq (⟨"LentRoom$Device", "greatestLender", "(I)I"⟩, 11) := ⟨⟨by decide +kernel, by decide +kernel⟩, List.mem_of_getElem? (i := 41) (by decide +kernel), List.mem_of_getElem? (i := 425) (by decide +kernel), List.mem_of_getElem? (i := 426) (by decide +kernel)⟩
theorem lw_p9 : lw_okq (⟨"LentRoom", "needSpace", "(I)V"⟩, 8) := ⟨⟨by decide +kernel, by decide +kernel⟩, List.mem_of_getElem? (i := 18) (by decide +kernel), List.mem_of_getElem? (i := 481) (by decide +kernel), List.mem_of_getElem? (i := 482) (by decide +kernel)⟩
theorem lw_p10 : lw_okq (⟨"LentRoom", "needPage", "(II)V"⟩, 8) := ⟨⟨by decide +kernel, by decide +kernel⟩, List.mem_of_getElem? (i := 18) (by decide +kernel), List.mem_of_getElem? (i := 529) (by decide +kernel), List.mem_of_getElem? (i := 530) (by decide +kernel)⟩
theorem lw_p11 : lw_okq (⟨"LentRoom", "growGuess", "(LLentRoom$Device;II)I"⟩, 8) := ⟨⟨by decide +kernel, by decide +kernel⟩, List.mem_of_getElem? (i := 18) (by decide +kernel), List.mem_of_getElem? (i := 637) (by decide +kernel), List.mem_of_getElem? (i := 638) (by decide +kernel)⟩
theorem lw_p12 : lw_okq (⟨"LentRoom", "obeyGroup", "(I)Z"⟩, 8) := ⟨⟨by decide +kernel, by decide +kernel⟩, List.mem_of_getElem? (i := 18) (by decide +kernel), List.mem_of_getElem? (i := 722) (by decide +kernel), List.mem_of_getElem? (i := 723) (by decide +kernel)⟩
theorem lw_p13 : lw_okq (⟨"LentRoom", "obeyForSpace", "(III)Z"⟩, 8) := ⟨⟨by decide +kernel, by decide +kernel⟩, List.mem_of_getElem? (i := 18) (by decide +kernel), List.mem_of_getElem? (i := 726) (by decide +kernel), List.mem_of_getElem? (i := 727) (by decide +kernel)⟩
theorem lw_p14 : lw_okq (⟨"LentRoom", "takeTurn", "(I)V"⟩, 8) := ⟨⟨by decide +kernel, by decide +kernel⟩, List.mem_of_getElem? (i := 18) (by decide +kernel), List.mem_of_getElem? (i := 741) (by decide +kernel), List.mem_of_getElem? (i := 742) (by decide +kernel)⟩
def lw_privs_1 : List (MethodName × Nat) := [(⟨"java/lang/Throwable", "fillInStackTrace", "(I)Ljava/lang/Throwable;"⟩, 6), (⟨"LentRoom$Text", "fits", "(CI)Z"⟩, 2), (⟨"LentRoom", "obeyText", "(I)Z"⟩, 8), (⟨"LentRoom$Device", "recallLoan", "(I)V"⟩, 11), (⟨"LentRoom$Device", "greatestBorrower", "(I)I"⟩, 11), (⟨"LentRoom$Device", "idlestBut", "(II)I"⟩, 11), (⟨"LentRoom$Device", "loseOldest", "(I)V"⟩, 11), (⟨"LentRoom$Device", "oldestAfter", "(II)I"⟩, 11), (⟨"LentRoom$Device", "greatestLender", "(I)I"⟩, 11), (⟨"LentRoom", "needSpace", "(I)V"⟩, 8), (⟨"LentRoom", "needPage", "(II)V"⟩, 8), (⟨"LentRoom", "growGuess", "(LLentRoom$Device;II)I"⟩, 8), (⟨"LentRoom", "obeyGroup", "(I)Z"⟩, 8), (⟨"LentRoom", "obeyForSpace", "(III)Z"⟩, 8), (⟨"LentRoom", "takeTurn", "(I)V"⟩, 8)]
theorem lw_r1 : ∀ q ∈ lw_privs_1, lw_okq q := List.forall_mem_cons.mpr ⟨lw_p0, List.forall_mem_cons.mpr ⟨lw_p1, List.forall_mem_cons.mpr ⟨lw_p2, List.forall_mem_cons.mpr ⟨lw_p3, List.forall_mem_cons.mpr ⟨lw_p4, List.forall_mem_cons.mpr ⟨lw_p5, List.forall_mem_cons.mpr ⟨lw_p6, List.forall_mem_cons.mpr ⟨lw_p7, List.forall_mem_cons.mpr ⟨lw_p8, List.forall_mem_cons.mpr ⟨lw_p9, List.forall_mem_cons.mpr ⟨lw_p10, List.forall_mem_cons.mpr ⟨lw_p11, List.forall_mem_cons.mpr ⟨lw_p12, List.forall_mem_cons.mpr ⟨lw_p13, List.forall_mem_cons.mpr ⟨lw_p14, fun _ h => absurd h List.not_mem_nil⟩⟩⟩⟩⟩⟩⟩⟩⟩⟩⟩⟩⟩⟩⟩
def lw_privs : List (MethodName × Nat) := lw_privs_1
def lw_tbl : List Cond := k2_sels lw_privs ++ tables_1
theorem lw_privs_ok : ∀ q ∈ lw_privs, lw_okq q := lw_r1
def RX0 : String := "LentRoom$Device"
def TX0 : u_T := fun k => match k with
  | 0 => ("LentRoom$Device", "spaces", "I", false)
  | 1 => ("LentRoom$Device", "clock", "I", false)
  | 2 => ("LentRoom$Device", "floor", "[I", true)
  | 3 => ("LentRoom$Device", "ceiling", "[I", true)
  | 4 => ("LentRoom$Device", "own", "[I", true)
  | 5 => ("LentRoom$Device", "common", "[I", true)
  | 6 => ("LentRoom$Device", "loan", "[[I", true)
  | 7 => ("LentRoom$Device", "written", "[[I", true)
  | 8 => ("LentRoom$Device", "recalls", "[I", true)
  | 9 => ("LentRoom$Device", "lost", "[I", true)
  | _ => ("LentRoom$Device", "refused", "[I", true)
def tyX0 : Nat → FieldType := fun k => match k with
  | 0 => .int
  | 1 => .int
  | 2 => .array .int
  | 3 => .array .int
  | 4 => .array .int
  | 5 => .array .int
  | 6 => .array (.array .int)
  | 7 => .array (.array .int)
  | 8 => .array .int
  | 9 => .array .int
  | _ => .array .int
theorem nmX0 : ∀ a, a < 11 → ∀ b, b < 11 → a ≠ b → (TX0 a).2.1 ≠ (TX0 b).2.1 := by decide +kernel
theorem tyX0_ok : ∀ k, k < 11 → parseFieldDescriptor (TX0 k).2.2.1 = some (tyX0 k) := by decide +kernel
abbrev cX0_init : ByteArray := prog_2_method_1_code
def yX0_init : MethodName := ⟨RX0, "<init>", "()V"⟩
abbrev cX0_become : ByteArray := prog_2_method_2_code
def yX0_become : MethodName := ⟨RX0, "become", "(LLentRoom$Device;)V"⟩
abbrev cX0_copyRow : ByteArray := prog_2_method_3_code
def yX0_copyRow : MethodName := ⟨RX0, "copyRow", "([I[I)V"⟩
abbrev cX0_sum : ByteArray := prog_2_method_4_code
def yX0_sum : MethodName := ⟨RX0, "sum", "([I)I"⟩
abbrev cX0_hasSpace : ByteArray := prog_2_method_5_code
def yX0_hasSpace : MethodName := ⟨RX0, "hasSpace", "(I)Z"⟩
abbrev cX0_hasPage : ByteArray := prog_2_method_6_code
def yX0_hasPage : MethodName := ⟨RX0, "hasPage", "(II)Z"⟩
abbrev cX0_isWritten : ByteArray := prog_2_method_7_code
def yX0_isWritten : MethodName := ⟨RX0, "isWritten", "(II)Z"⟩
abbrev cX0_pagesOf : ByteArray := prog_2_method_8_code
def yX0_pagesOf : MethodName := ⟨RX0, "pagesOf", "(I)I"⟩
abbrev cX0_pagesOfAll : ByteArray := prog_2_method_9_code
def yX0_pagesOfAll : MethodName := ⟨RX0, "pagesOfAll", "()I"⟩
abbrev cX0_idleOf : ByteArray := prog_2_method_10_code
def yX0_idleOf : MethodName := ⟨RX0, "idleOf", "(I)I"⟩
abbrev cX0_lendsOf : ByteArray := prog_2_method_11_code
def yX0_lendsOf : MethodName := ⟨RX0, "lendsOf", "(I)I"⟩
abbrev cX0_commonRoom : ByteArray := prog_2_method_12_code
def yX0_commonRoom : MethodName := ⟨RX0, "commonRoom", "()I"⟩
abbrev cX0_freeCommonRoom : ByteArray := prog_2_method_13_code
def yX0_freeCommonRoom : MethodName := ⟨RX0, "freeCommonRoom", "()I"⟩
abbrev cX0_loansOfAll : ByteArray := prog_2_method_14_code
def yX0_loansOfAll : MethodName := ⟨RX0, "loansOfAll", "()I"⟩
abbrev cX0_lostByAll : ByteArray := prog_2_method_15_code
def yX0_lostByAll : MethodName := ⟨RX0, "lostByAll", "()I"⟩
abbrev cX0_noiseOf : ByteArray := prog_2_method_16_code
def yX0_noiseOf : MethodName := ⟨RX0, "noiseOf", "(I)I"⟩
abbrev cX0_firstLoserSince : ByteArray := prog_2_method_17_code
def yX0_firstLoserSince : MethodName := ⟨RX0, "firstLoserSince", "(LLentRoom$Device;)I"⟩
abbrev cX0_numberOfAll : ByteArray := prog_2_method_18_code
def yX0_numberOfAll : MethodName := ⟨RX0, "numberOfAll", "(I)I"⟩
abbrev cX0_sizeOf : ByteArray := prog_2_method_19_code
def yX0_sizeOf : MethodName := ⟨RX0, "sizeOf", "(II)I"⟩
abbrev cX0_countOf : ByteArray := prog_2_method_20_code
def yX0_countOf : MethodName := ⟨RX0, "countOf", "(II)I"⟩
abbrev cX0_pageByAge : ByteArray := prog_2_method_21_code
def yX0_pageByAge : MethodName := ⟨RX0, "pageByAge", "(II)I"⟩
abbrev cX0_oldestAfter : ByteArray := prog_2_method_22_code
def yX0_oldestAfter : MethodName := ⟨RX0, "oldestAfter", "(II)I"⟩
abbrev cX0_areBounds : ByteArray := prog_2_method_23_code
def yX0_areBounds : MethodName := ⟨RX0, "areBounds", "(II)Z"⟩
abbrev cX0_hasRoomForSpace : ByteArray := prog_2_method_24_code
def yX0_hasRoomForSpace : MethodName := ⟨RX0, "hasRoomForSpace", "(I)Z"⟩
abbrev cX0_addSpace : ByteArray := prog_2_method_25_code
def yX0_addSpace : MethodName := ⟨RX0, "addSpace", "(II)I"⟩
abbrev cX0_smallestFloor : ByteArray := prog_2_method_26_code
def yX0_smallestFloor : MethodName := ⟨RX0, "smallestFloor", "(I)I"⟩
abbrev cX0_greatestFloor : ByteArray := prog_2_method_27_code
def yX0_greatestFloor : MethodName := ⟨RX0, "greatestFloor", "(I)I"⟩
abbrev cX0_takesFloor : ByteArray := prog_2_method_28_code
def yX0_takesFloor : MethodName := ⟨RX0, "takesFloor", "(II)Z"⟩
abbrev cX0_changeFloor : ByteArray := prog_2_method_29_code
def yX0_changeFloor : MethodName := ⟨RX0, "changeFloor", "(II)Z"⟩
abbrev cX0_takesCeiling : ByteArray := prog_2_method_30_code
def yX0_takesCeiling : MethodName := ⟨RX0, "takesCeiling", "(II)Z"⟩
abbrev cX0_changeCeiling : ByteArray := prog_2_method_31_code
def yX0_changeCeiling : MethodName := ⟨RX0, "changeCeiling", "(II)Z"⟩
abbrev cX0_putPage : ByteArray := prog_2_method_32_code
def yX0_putPage : MethodName := ⟨RX0, "putPage", "(II)I"⟩
abbrev cX0_dropPage : ByteArray := prog_2_method_33_code
def yX0_dropPage : MethodName := ⟨RX0, "dropPage", "(II)Z"⟩
abbrev cX0_takeBlock : ByteArray := prog_2_method_34_code
def yX0_takeBlock : MethodName := ⟨RX0, "takeBlock", "(I)I"⟩
abbrev cX0_recallLoan : ByteArray := prog_2_method_35_code
def yX0_recallLoan : MethodName := ⟨RX0, "recallLoan", "(I)V"⟩
abbrev cX0_loseOldest : ByteArray := prog_2_method_36_code
def yX0_loseOldest : MethodName := ⟨RX0, "loseOldest", "(I)V"⟩
abbrev cX0_greatestBorrower : ByteArray := prog_2_method_37_code
def yX0_greatestBorrower : MethodName := ⟨RX0, "greatestBorrower", "(I)I"⟩
abbrev cX0_greatestLender : ByteArray := prog_2_method_38_code
def yX0_greatestLender : MethodName := ⟨RX0, "greatestLender", "(I)I"⟩
abbrev cX0_idlestBut : ByteArray := prog_2_method_39_code
def yX0_idlestBut : MethodName := ⟨RX0, "idlestBut", "(II)I"⟩
def RX1 : String := "LentRoom$History"
def TX1 : u_T := fun k => match k with
  | 0 => ("LentRoom$History", "states", "[LLentRoom$Device;", true)
  | 1 => ("LentRoom$History", "first", "I", false)
  | _ => ("LentRoom$History", "count", "I", false)
def tyX1 : Nat → FieldType := fun k => match k with
  | 0 => .array (.object "LentRoom$Device")
  | 1 => .int
  | _ => .int
theorem nmX1 : ∀ a, a < 3 → ∀ b, b < 3 → a ≠ b → (TX1 a).2.1 ≠ (TX1 b).2.1 := by decide +kernel
theorem tyX1_ok : ∀ k, k < 3 → parseFieldDescriptor (TX1 k).2.2.1 = some (tyX1 k) := by decide +kernel
abbrev cX1_init : ByteArray := prog_3_method_1_code
def yX1_init : MethodName := ⟨RX1, "<init>", "()V"⟩
abbrev cX1_isEmpty : ByteArray := prog_3_method_2_code
def yX1_isEmpty : MethodName := ⟨RX1, "isEmpty", "()Z"⟩
abbrev cX1_forgetAll : ByteArray := prog_3_method_3_code
def yX1_forgetAll : MethodName := ⟨RX1, "forgetAll", "()V"⟩
abbrev cX1_remember : ByteArray := prog_3_method_4_code
def yX1_remember : MethodName := ⟨RX1, "remember", "(LLentRoom$Device;)V"⟩
abbrev cX1_takeBack : ByteArray := prog_3_method_5_code
def yX1_takeBack : MethodName := ⟨RX1, "takeBack", "(LLentRoom$Device;)I"⟩
def RX2 : String := "LentRoom$Text"
def TX2 : u_T := fun k => match k with
  | 0 => ("LentRoom$Text", "length", "I", false)
  | _ => ("LentRoom$Text", "signs", "[C", true)
def tyX2 : Nat → FieldType := fun k => match k with
  | 0 => .int
  | _ => .array .char
theorem nmX2 : ∀ a, a < 2 → ∀ b, b < 2 → a ≠ b → (TX2 a).2.1 ≠ (TX2 b).2.1 := by decide +kernel
theorem tyX2_ok : ∀ k, k < 2 → parseFieldDescriptor (TX2 k).2.2.1 = some (tyX2 k) := by decide +kernel
abbrev cX2_init : ByteArray := prog_4_method_1_code
def yX2_init : MethodName := ⟨RX2, "<init>", "()V"⟩
abbrev cX2_isFull : ByteArray := prog_4_method_2_code
def yX2_isFull : MethodName := ⟨RX2, "isFull", "()Z"⟩
abbrev cX2_add : ByteArray := prog_4_method_3_code
def yX2_add : MethodName := ⟨RX2, "add", "(C)I"⟩
abbrev cX2_sign : ByteArray := prog_4_method_5_code
def yX2_sign : MethodName := ⟨RX2, "sign", "(I)C"⟩
abbrev cX2_isDigit : ByteArray := prog_4_method_6_code
def yX2_isDigit : MethodName := ⟨RX2, "isDigit", "(I)Z"⟩
abbrev cX2_number : ByteArray := prog_4_method_7_code
def yX2_number : MethodName := ⟨RX2, "number", "(II)I"⟩
abbrev cX2_firstError : ByteArray := prog_4_method_8_code
def yX2_firstError : MethodName := ⟨RX2, "firstError", "()I"⟩
abbrev cX2_placesBehind : ByteArray := prog_4_method_9_code
def yX2_placesBehind : MethodName := ⟨RX2, "placesBehind", "(C)Ljava/lang/String;"⟩
abbrev cX2_fits : ByteArray := prog_4_method_10_code
def yX2_fits : MethodName := ⟨RX2, "fits", "(CI)Z"⟩
def RX3 : String := "LentRoom"
def TX3 : u_T := fun k => match k with
  | 0 => ("LentRoom", "text", "LLentRoom$Text;", true)
  | 1 => ("LentRoom", "device", "LLentRoom$Device;", true)
  | 2 => ("LentRoom", "history", "LLentRoom$History;", true)
  | 3 => ("LentRoom", "slots", "[LLentRoom$Device;", true)
  | 4 => ("LentRoom", "filled", "[Z", true)
  | 5 => ("LentRoom", "blank", "LLentRoom$Device;", true)
  | 6 => ("LentRoom", "trial", "LLentRoom$Device;", true)
  | _ => ("LentRoom", "guess", "LLentRoom$Device;", true)
def tyX3 : Nat → FieldType := fun k => match k with
  | 0 => .object "LentRoom$Text"
  | 1 => .object "LentRoom$Device"
  | 2 => .object "LentRoom$History"
  | 3 => .array (.object "LentRoom$Device")
  | 4 => .array .boolean
  | 5 => .object "LentRoom$Device"
  | 6 => .object "LentRoom$Device"
  | _ => .object "LentRoom$Device"
theorem nmX3 : ∀ a, a < 8 → ∀ b, b < 8 → a ≠ b → (TX3 a).2.1 ≠ (TX3 b).2.1 := by decide +kernel
theorem tyX3_ok : ∀ k, k < 8 → parseFieldDescriptor (TX3 k).2.2.1 = some (tyX3 k) := by decide +kernel
abbrev cX3_init : ByteArray := prog_1_method_1_code
def yX3_init : MethodName := ⟨RX3, "<init>", "()V"⟩
abbrev cX3_append : ByteArray := prog_1_method_2_code
def yX3_append : MethodName := ⟨RX3, "append", "(I)I"⟩
abbrev cX3_load : ByteArray := prog_1_method_5_code
def yX3_load : MethodName := ⟨RX3, "load", "()I"⟩
abbrev cX3_obeyText : ByteArray := prog_1_method_6_code
def yX3_obeyText : MethodName := ⟨RX3, "obeyText", "(I)Z"⟩
abbrev cX3_about : ByteArray := prog_1_method_7_code
def yX3_about : MethodName := ⟨RX3, "about", "(I)I"⟩
abbrev cX3_space : ByteArray := prog_1_method_8_code
def yX3_space : MethodName := ⟨RX3, "space", "(II)I"⟩
abbrev cX3_loans : ByteArray := prog_1_method_9_code
def yX3_loans : MethodName := ⟨RX3, "loans", "(II)I"⟩
abbrev cX3_time : ByteArray := prog_1_method_10_code
def yX3_time : MethodName := ⟨RX3, "time", "(II)I"⟩
abbrev cX3_oldest : ByteArray := prog_1_method_11_code
def yX3_oldest : MethodName := ⟨RX3, "oldest", "(II)I"⟩
abbrev cX3_make : ByteArray := prog_1_method_12_code
def yX3_make : MethodName := ⟨RX3, "make", "(II)I"⟩
abbrev cX3_write : ByteArray := prog_1_method_13_code
def yX3_write : MethodName := ⟨RX3, "write", "(II)I"⟩
abbrev cX3_trim : ByteArray := prog_1_method_14_code
def yX3_trim : MethodName := ⟨RX3, "trim", "(II)I"⟩
abbrev cX3_setFloor : ByteArray := prog_1_method_15_code
def yX3_setFloor : MethodName := ⟨RX3, "setFloor", "(II)I"⟩
abbrev cX3_setCeiling : ByteArray := prog_1_method_16_code
def yX3_setCeiling : MethodName := ⟨RX3, "setCeiling", "(II)I"⟩
abbrev cX3_undo : ByteArray := prog_1_method_17_code
def yX3_undo : MethodName := ⟨RX3, "undo", "()I"⟩
abbrev cX3_would : ByteArray := prog_1_method_18_code
def yX3_would : MethodName := ⟨RX3, "would", "(II)I"⟩
abbrev cX3_room : ByteArray := prog_1_method_19_code
def yX3_room : MethodName := ⟨RX3, "room", "(I)I"⟩
abbrev cX3_harm : ByteArray := prog_1_method_20_code
def yX3_harm : MethodName := ⟨RX3, "harm", "(II)I"⟩
abbrev cX3_victim : ByteArray := prog_1_method_21_code
def yX3_victim : MethodName := ⟨RX3, "victim", "(I)I"⟩
abbrev cX3_noisy : ByteArray := prog_1_method_22_code
def yX3_noisy : MethodName := ⟨RX3, "noisy", "()I"⟩
abbrev cX3_mostFloor : ByteArray := prog_1_method_23_code
def yX3_mostFloor : MethodName := ⟨RX3, "mostFloor", "(I)I"⟩
abbrev cX3_leastFloor : ByteArray := prog_1_method_24_code
def yX3_leastFloor : MethodName := ⟨RX3, "leastFloor", "(I)I"⟩
abbrev cX3_growGuess : ByteArray := prog_1_method_25_code
def yX3_growGuess : MethodName := ⟨RX3, "growGuess", "(LLentRoom$Device;II)I"⟩
abbrev cX3_runScript : ByteArray := prog_1_method_26_code
def yX3_runScript : MethodName := ⟨RX3, "runScript", "(IJ)I"⟩
abbrev cX3_withoutGroups : ByteArray := prog_1_method_27_code
def yX3_withoutGroups : MethodName := ⟨RX3, "withoutGroups", "(JI)J"⟩
abbrev cX3_obeyGroup : ByteArray := prog_1_method_28_code
def yX3_obeyGroup : MethodName := ⟨RX3, "obeyGroup", "(I)Z"⟩
abbrev cX3_obeyForSpace : ByteArray := prog_1_method_29_code
def yX3_obeyForSpace : MethodName := ⟨RX3, "obeyForSpace", "(III)Z"⟩
abbrev cX3_simulate : ByteArray := prog_1_method_30_code
def yX3_simulate : MethodName := ⟨RX3, "simulate", "(JI)I"⟩
abbrev cX3_takeTurn : ByteArray := prog_1_method_31_code
def yX3_takeTurn : MethodName := ⟨RX3, "takeTurn", "(I)V"⟩
abbrev cX3_save : ByteArray := prog_1_method_32_code
def yX3_save : MethodName := ⟨RX3, "save", "(I)I"⟩
abbrev cX3_restore : ByteArray := prog_1_method_33_code
def yX3_restore : MethodName := ⟨RX3, "restore", "(I)I"⟩
abbrev cX3_needSpace : ByteArray := prog_1_method_34_code
def yX3_needSpace : MethodName := ⟨RX3, "needSpace", "(I)V"⟩
abbrev cX3_needPage : ByteArray := prog_1_method_35_code
def yX3_needPage : MethodName := ⟨RX3, "needPage", "(II)V"⟩
abbrev cX3_needSlot : ByteArray := prog_1_method_36_code
def yX3_needSlot : MethodName := ⟨RX3, "needSlot", "(I)V"⟩
def RX4 : String := "LentRoomModel"
def TX4 : u_T := fun k => match k with
  | _ => ("", "", "", false)
def tyX4 : Nat → FieldType := fun k => match k with
  | _ => .int
theorem nmX4 : ∀ a, a < 0 → ∀ b, b < 0 → a ≠ b → (TX4 a).2.1 ≠ (TX4 b).2.1 := by decide +kernel
theorem tyX4_ok : ∀ k, k < 0 → parseFieldDescriptor (TX4 k).2.2.1 = some (tyX4 k) := by decide +kernel
def RJ9 : String := "java/lang/Math"
abbrev cJ9_max_7cf53 : ByteArray := prog_11_method_65_code
def yJ9_max_7cf53 : MethodName := ⟨RJ9, "max", "(II)I"⟩
abbrev cJ9_min_7cf53 : ByteArray := prog_11_method_69_code
def yJ9_min_7cf53 : MethodName := ⟨RJ9, "min", "(II)I"⟩
def RJ0 : String := "java/lang/String"
abbrev cJ0_length_8abf5 : ByteArray := prog_13_method_54_code
def yJ0_length_8abf5 : MethodName := ⟨RJ0, "length", "()I"⟩
abbrev cJ0_isEmpty_aae02 : ByteArray := prog_13_method_55_code
def yJ0_isEmpty_aae02 : MethodName := ⟨RJ0, "isEmpty", "()Z"⟩
abbrev cJ0_charAt_5068e : ByteArray := prog_13_method_56_code
def yJ0_charAt_5068e : MethodName := ⟨RJ0, "charAt", "(I)C"⟩
abbrev cJ0_coder_7d493 : ByteArray := prog_13_method_152_code
def yJ0_coder_7d493 : MethodName := ⟨RJ0, "coder", "()B"⟩
abbrev cJ0_isLatin1_aae02 : ByteArray := prog_13_method_154_code
def yJ0_isLatin1_aae02 : MethodName := ⟨RJ0, "isLatin1", "()Z"⟩
abbrev cJ0_checkIndex_df160 : ByteArray := prog_13_method_155_code
def yJ0_checkIndex_df160 : MethodName := ⟨RJ0, "checkIndex", "(II)V"⟩
def RJ1 : String := "java/lang/StringLatin1"
abbrev cJ1_charAt_3b067 : ByteArray := prog_14_method_2_code
def yJ1_charAt_3b067 : MethodName := ⟨RJ1, "charAt", "([BI)C"⟩
def RJ2 : String := "java/lang/StringUTF16"
abbrev cJ2_getChar_3b067 : ByteArray := prog_15_method_5_code
def yJ2_getChar_3b067 : MethodName := ⟨RJ2, "getChar", "([BI)C"⟩
abbrev cJ2_length_9d52b : ByteArray := prog_15_method_6_code
def yJ2_length_9d52b : MethodName := ⟨RJ2, "length", "([B)I"⟩
abbrev cJ2_charAt_3b067 : ByteArray := prog_15_method_83_code
def yJ2_charAt_3b067 : MethodName := ⟨RJ2, "charAt", "([BI)C"⟩
abbrev cJ2_checkIndex_2214a : ByteArray := prog_15_method_91_code
def yJ2_checkIndex_2214a : MethodName := ⟨RJ2, "checkIndex", "(I[B)V"⟩
def RJ10 : String := "java/lang/System"
def RJ3 : String := "jdk/internal/util/Preconditions"
abbrev cJ3_checkIndex_8e157 : ByteArray := prog_18_method_11_code
def yJ3_checkIndex_8e157 : MethodName := ⟨RJ3, "checkIndex", "(IILjava/util/function/BiFunction;)I"⟩
def RL : String := "LentRoomLaw"
abbrev cL_tryScript : ByteArray := method_2_code
def yL_tryScript : MethodName := ⟨RL, "tryScript", "(LLentRoom;IJ)I"⟩
abbrev cL_trySimulate : ByteArray := method_3_code
def yL_trySimulate : MethodName := ⟨RL, "trySimulate", "(LLentRoom;JI)I"⟩
abbrev cL_tryAppend : ByteArray := method_4_code
def yL_tryAppend : MethodName := ⟨RL, "tryAppend", "(LLentRoom;I)I"⟩
abbrev cL_tryLoad : ByteArray := method_5_code
def yL_tryLoad : MethodName := ⟨RL, "tryLoad", "(LLentRoom;)I"⟩
abbrev cL_tryAbout : ByteArray := method_6_code
def yL_tryAbout : MethodName := ⟨RL, "tryAbout", "(LLentRoom;I)I"⟩
abbrev cL_trySpace : ByteArray := method_7_code
def yL_trySpace : MethodName := ⟨RL, "trySpace", "(LLentRoom;II)I"⟩
abbrev cL_tryLoans : ByteArray := method_8_code
def yL_tryLoans : MethodName := ⟨RL, "tryLoans", "(LLentRoom;II)I"⟩
abbrev cL_tryTime : ByteArray := method_9_code
def yL_tryTime : MethodName := ⟨RL, "tryTime", "(LLentRoom;II)I"⟩
abbrev cL_tryOldest : ByteArray := method_10_code
def yL_tryOldest : MethodName := ⟨RL, "tryOldest", "(LLentRoom;II)I"⟩
abbrev cL_tryMake : ByteArray := method_11_code
def yL_tryMake : MethodName := ⟨RL, "tryMake", "(LLentRoom;II)I"⟩
abbrev cL_tryWrite : ByteArray := method_12_code
def yL_tryWrite : MethodName := ⟨RL, "tryWrite", "(LLentRoom;II)I"⟩
abbrev cL_tryTrim : ByteArray := method_13_code
def yL_tryTrim : MethodName := ⟨RL, "tryTrim", "(LLentRoom;II)I"⟩
abbrev cL_tryFloor : ByteArray := method_14_code
def yL_tryFloor : MethodName := ⟨RL, "tryFloor", "(LLentRoom;II)I"⟩
abbrev cL_tryCeiling : ByteArray := method_15_code
def yL_tryCeiling : MethodName := ⟨RL, "tryCeiling", "(LLentRoom;II)I"⟩
abbrev cL_tryUndo : ByteArray := method_16_code
def yL_tryUndo : MethodName := ⟨RL, "tryUndo", "(LLentRoom;)I"⟩
abbrev cL_tryWould : ByteArray := method_17_code
def yL_tryWould : MethodName := ⟨RL, "tryWould", "(LLentRoom;II)I"⟩
abbrev cL_tryRoom : ByteArray := method_18_code
def yL_tryRoom : MethodName := ⟨RL, "tryRoom", "(LLentRoom;I)I"⟩
abbrev cL_tryHarm : ByteArray := method_19_code
def yL_tryHarm : MethodName := ⟨RL, "tryHarm", "(LLentRoom;II)I"⟩
abbrev cL_tryVictim : ByteArray := method_20_code
def yL_tryVictim : MethodName := ⟨RL, "tryVictim", "(LLentRoom;I)I"⟩
abbrev cL_tryMost : ByteArray := method_21_code
def yL_tryMost : MethodName := ⟨RL, "tryMost", "(LLentRoom;I)I"⟩
abbrev cL_tryLeast : ByteArray := method_22_code
def yL_tryLeast : MethodName := ⟨RL, "tryLeast", "(LLentRoom;I)I"⟩
abbrev cL_tryKeep : ByteArray := method_23_code
def yL_tryKeep : MethodName := ⟨RL, "tryKeep", "(LLentRoom;I)I"⟩
abbrev cL_tryBack : ByteArray := method_24_code
def yL_tryBack : MethodName := ⟨RL, "tryBack", "(LLentRoom;I)I"⟩
abbrev cL_call : ByteArray := method_25_code
def yL_call : MethodName := ⟨RL, "call", "(LLentRoom;IIII)I"⟩
abbrev cL_cell : ByteArray := method_26_code
def yL_cell : MethodName := ⟨RL, "cell", "([II)I"⟩
abbrev cL_thrown : ByteArray := method_27_code
def yL_thrown : MethodName := ⟨RL, "thrown", "(I)Z"⟩
abbrev cL_refuses : ByteArray := method_28_code
def yL_refuses : MethodName := ⟨RL, "refuses", "(LLentRoom;I)Z"⟩
abbrev cL_holds : ByteArray := method_29_code
def yL_holds : MethodName := ⟨RL, "holds", "(LLentRoom;I)Z"⟩
abbrev cL_wouldTake : ByteArray := method_30_code
def yL_wouldTake : MethodName := ⟨RL, "wouldTake", "(LLentRoom;I)Z"⟩
abbrev cL_act : ByteArray := method_31_code
def yL_act : MethodName := ⟨RL, "act", "(LLentRoom;I)I"⟩
abbrev cL_alike : ByteArray := method_32_code
def yL_alike : MethodName := ⟨RL, "alike", "(LLentRoom;LLentRoom;I)Z"⟩
abbrev cL_law : ByteArray := code
def yL_law : MethodName := ⟨RL, "law", "([I)Z"⟩
abbrev vwCl : List vw_C := [(RX0, TX0, 11), (RX1, TX1, 3), (RX2, TX2, 2), (RX3, TX3, 8)]
def AL : List Cond := lw_tbl.filter goodWord
theorem al_in {w : Cond} (i : Nat) (h : lw_tbl[i]? = some w) (g : goodWord w = true) : w ∈ AL := List.mem_filter.mpr ⟨List.mem_of_getElem? h, g⟩
theorem al_good {w : Cond} (h : w ∈ AL) : (w.onTables && w.keeps) = true ∨ ∃ ty, w = .arrayClass ty := good_of_word (List.mem_filter.mp h).2
theorem al_hts {args : Array Value} {s : State} (h : ∀ w ∈ lw_tbl, w.before args s = true) : ∀ w ∈ AL, w.before args s = true := fun w hw => h w (List.mem_filter.mp hw).1
theorem al_t1 {w : Cond} (i : Nat) (h : tables_1_1[i]? = some w) (g : goodWord w = true) : w ∈ AL := List.mem_filter.mpr ⟨List.mem_append_right _ (List.mem_append_left _ (List.mem_of_getElem? h)), g⟩
theorem al_t2 {w : Cond} (i : Nat) (h : tables_1_2[i]? = some w) (g : goodWord w = true) : w ∈ AL := List.mem_filter.mpr ⟨List.mem_append_right _ (List.mem_append_right _ (List.mem_append_left _ (List.mem_of_getElem? h))), g⟩
theorem al_t3 {w : Cond} (i : Nat) (h : tables_1_3[i]? = some w) (g : goodWord w = true) : w ∈ AL := List.mem_filter.mpr ⟨List.mem_append_right _ (List.mem_append_right _ (List.mem_append_right _ (List.mem_append_left _ (List.mem_of_getElem? h)))), g⟩
theorem al_t4 {w : Cond} (i : Nat) (h : tables_1_4[i]? = some w) (g : goodWord w = true) : w ∈ AL := List.mem_filter.mpr ⟨List.mem_append_right _ (List.mem_append_right _ (List.mem_append_right _ (List.mem_append_right _ (List.mem_of_getElem? h)))), g⟩
theorem q_1 : Cond.selects "java/lang/Throwable" ⟨"java/lang/Throwable", "fillInStackTrace", "(I)Ljava/lang/Throwable;"⟩ ⟨"java/lang/Throwable", "fillInStackTrace", "(I)Ljava/lang/Throwable;"⟩ ∈ AL := al_in 0 (by decide +kernel) rfl
theorem q_0 : Cond.selects "LentRoom$Text" yX2_fits yX2_fits ∈ AL := al_in 1 (by decide +kernel) rfl
theorem q_2 : Cond.selects "LentRoom" yX3_obeyText yX3_obeyText ∈ AL := al_in 2 (by decide +kernel) rfl
theorem q_3 : Cond.selects "LentRoom$Device" yX0_recallLoan yX0_recallLoan ∈ AL := al_in 3 (by decide +kernel) rfl
theorem q_4 : Cond.selects "LentRoom$Device" yX0_greatestBorrower yX0_greatestBorrower ∈ AL := al_in 4 (by decide +kernel) rfl
theorem q_5 : Cond.selects "LentRoom$Device" yX0_idlestBut yX0_idlestBut ∈ AL := al_in 5 (by decide +kernel) rfl
theorem q_6 : Cond.selects "LentRoom$Device" yX0_loseOldest yX0_loseOldest ∈ AL := al_in 6 (by decide +kernel) rfl
theorem q_7 : Cond.selects "LentRoom$Device" yX0_oldestAfter yX0_oldestAfter ∈ AL := al_in 7 (by decide +kernel) rfl
theorem q_8 : Cond.selects "LentRoom$Device" yX0_greatestLender yX0_greatestLender ∈ AL := al_in 8 (by decide +kernel) rfl
theorem q_9 : Cond.selects "LentRoom" yX3_needSpace yX3_needSpace ∈ AL := al_in 9 (by decide +kernel) rfl
theorem q_10 : Cond.selects "LentRoom" yX3_needPage yX3_needPage ∈ AL := al_in 10 (by decide +kernel) rfl
theorem q_11 : Cond.selects "LentRoom" yX3_growGuess yX3_growGuess ∈ AL := al_in 11 (by decide +kernel) rfl
theorem q_12 : Cond.selects "LentRoom" yX3_obeyGroup yX3_obeyGroup ∈ AL := al_in 12 (by decide +kernel) rfl
theorem q_13 : Cond.selects "LentRoom" yX3_obeyForSpace yX3_obeyForSpace ∈ AL := al_in 13 (by decide +kernel) rfl
theorem q_14 : Cond.selects "LentRoom" yX3_takeTurn yX3_takeTurn ∈ AL := al_in 14 (by decide +kernel) rfl
theorem q_29 : Cond.initialized "LentRoomLaw" ∈ AL := al_t1 0 (by decide +kernel) rfl
theorem q_30 : Cond.initialized "LentRoom" ∈ AL := al_t1 1 (by decide +kernel) rfl
theorem q_31 : Cond.initialized "LentRoom$Text" ∈ AL := al_t1 2 (by decide +kernel) rfl
theorem q_32 : Cond.initialized "LentRoom$Device" ∈ AL := al_t1 3 (by decide +kernel) rfl
theorem q_33 : Cond.initialized "LentRoom$History" ∈ AL := al_t1 4 (by decide +kernel) rfl
theorem q_35 : Cond.initialized "java/lang/Throwable" ∈ AL := al_t1 5 (by decide +kernel) rfl
theorem q_36 : Cond.initialized "java/lang/Exception" ∈ AL := al_t1 6 (by decide +kernel) rfl
theorem q_37 : Cond.initialized "java/lang/RuntimeException" ∈ AL := al_t1 7 (by decide +kernel) rfl
theorem q_38 : Cond.initialized "java/lang/IllegalArgumentException" ∈ AL := al_t1 8 (by decide +kernel) rfl
theorem q_39 : Cond.initialized "java/lang/IllegalStateException" ∈ AL := al_t1 9 (by decide +kernel) rfl
theorem q_40 : Cond.initialized "java/lang/String" ∈ AL := al_t1 10 (by decide +kernel) rfl
theorem q_41 : Cond.initialized "java/lang/StringLatin1" ∈ AL := al_t1 11 (by decide +kernel) rfl
theorem q_42 : Cond.initialized "jdk/internal/util/Preconditions" ∈ AL := al_t1 12 (by decide +kernel) rfl
theorem q_43 : Cond.initialized "java/lang/StringUTF16" ∈ AL := al_t1 13 (by decide +kernel) rfl
theorem q_44 : Cond.initialized "java/lang/Math" ∈ AL := al_t1 14 (by decide +kernel) rfl
theorem q_45 : Cond.initialized "java/lang/System" ∈ AL := al_t1 15 (by decide +kernel) rfl
theorem q_46 : Cond.initialized "java/lang/IndexOutOfBoundsException" ∈ AL := al_t1 16 (by decide +kernel) rfl
theorem q_47 : Cond.classLink "LentRoomLaw" 8 "LentRoom" ∈ AL := al_t1 17 (by decide +kernel) rfl
theorem q_48 : Cond.instantiable "LentRoom" 8 ∈ AL := al_t1 18 (by decide +kernel) rfl
theorem q_5034 : Cond.methodLink "LentRoomLaw" 183 yX3_init ∈ AL := al_t1 19 (by decide +kernel) rfl
theorem q_50 : Cond.instanceMethod yX3_init ∈ AL := al_t1 20 (by decide +kernel) rfl
set_option maxRecDepth 100000 in
theorem q_51 : Cond.code yX3_init cX3_init 2 (Option.none : Option Jvm.ClassFile.FieldType) ∈ AL := al_t1 21 rfl rfl
theorem q_52 : Cond.methodLink "LentRoom" 1 ⟨"java/lang/Object", "<init>", "()V"⟩ ∈ AL := al_t1 22 (by decide +kernel) rfl
theorem q_53 : Cond.instanceMethod ⟨"java/lang/Object", "<init>", "()V"⟩ ∈ AL := al_t1 23 (by decide +kernel) rfl
set_option maxRecDepth 100000 in
theorem q_54 : Cond.code ⟨"java/lang/Object", "<init>", "()V"⟩ object_method_1_code 1 (Option.none : Option Jvm.ClassFile.FieldType) ∈ AL := al_t1 24 rfl rfl
theorem q_55 : Cond.classLink "LentRoom" 7 "LentRoom$Text" ∈ AL := al_t1 25 (by decide +kernel) rfl
theorem q_56 : Cond.instantiable "LentRoom$Text" 2 ∈ AL := al_t1 26 (by decide +kernel) rfl
theorem q_58 : Cond.instanceMethod yX2_init ∈ AL := al_t1 28 (by decide +kernel) rfl
set_option maxRecDepth 100000 in
theorem q_59 : Cond.code yX2_init cX2_init 1 (Option.none : Option Jvm.ClassFile.FieldType) ∈ AL := al_t1 29 rfl rfl
theorem q_60 : Cond.methodLink "LentRoom$Text" 3 ⟨"java/lang/Object", "<init>", "()V"⟩ ∈ AL := al_t1 30 (by decide +kernel) rfl
theorem q_61 : Cond.fieldLink "LentRoom$Text" 15 "LentRoom$Text" "length" "I" ∈ AL := al_t1 31 (by decide +kernel) rfl
theorem q_62 : Cond.fieldLink "LentRoom" 83 "LentRoom$Text" "length" "I" ∈ AL := al_t1 32 (by decide +kernel) rfl
theorem q_63 : Cond.fieldLink "LentRoom$Text" 9 "LentRoom$Text" "signs" "[C" ∈ AL := al_t1 33 (by decide +kernel) rfl
theorem q_64 : Cond.lays "LentRoom$Text" "LentRoom$Text" "length" "I" ∈ AL := al_t1 34 (by decide +kernel) rfl
theorem q_66 : Cond.laysFinal "LentRoom$Text" "LentRoom$Text" "signs" "[C" ∈ AL := al_t1 36 (by decide +kernel) rfl
theorem q_68 : Cond.superclass "LentRoom$Text" "java/lang/Object" ∈ AL := al_t1 38 (by decide +kernel) rfl
theorem q_69 : Cond.arrayClass Jvm.ClassFile.FieldType.char ∈ AL := al_t1 39 (by decide +kernel) rfl
theorem q_70 : Cond.classLink "LentRoom" 16 "LentRoom$Device" ∈ AL := al_t1 40 (by decide +kernel) rfl
theorem q_71 : Cond.instantiable "LentRoom$Device" 11 ∈ AL := al_t1 41 (by decide +kernel) rfl
theorem q_73 : Cond.instanceMethod yX0_init ∈ AL := al_t1 43 (by decide +kernel) rfl
set_option maxRecDepth 100000 in
theorem q_74 : Cond.code yX0_init cX0_init 1 (Option.none : Option Jvm.ClassFile.FieldType) ∈ AL := al_t1 44 rfl rfl
theorem q_75 : Cond.methodLink "LentRoom$Device" 3 ⟨"java/lang/Object", "<init>", "()V"⟩ ∈ AL := al_t1 45 (by decide +kernel) rfl
theorem q_76 : Cond.classLink "LentRoom$Device" 24 "[[I" ∈ AL := al_t1 46 (by decide +kernel) rfl
theorem q_78 : Cond.fieldLink "LentRoom$Device" 41 "LentRoom$Device" "spaces" "I" ∈ AL := al_t1 48 (by decide +kernel) rfl
theorem q_79 : Cond.fieldLink "LentRoom" 214 "LentRoom$Device" "spaces" "I" ∈ AL := al_t1 49 (by decide +kernel) rfl
theorem q_80 : Cond.fieldLink "LentRoom$Device" 45 "LentRoom$Device" "clock" "I" ∈ AL := al_t1 50 (by decide +kernel) rfl
theorem q_81 : Cond.fieldLink "LentRoom$Device" 9 "LentRoom$Device" "floor" "[I" ∈ AL := al_t1 51 (by decide +kernel) rfl
theorem q_82 : Cond.fieldLink "LentRoom" 175 "LentRoom$Device" "floor" "[I" ∈ AL := al_t1 52 (by decide +kernel) rfl
theorem q_83 : Cond.fieldLink "LentRoom$Device" 15 "LentRoom$Device" "ceiling" "[I" ∈ AL := al_t1 53 (by decide +kernel) rfl
theorem q_84 : Cond.fieldLink "LentRoom" 184 "LentRoom$Device" "ceiling" "[I" ∈ AL := al_t1 54 (by decide +kernel) rfl
theorem q_85 : Cond.fieldLink "LentRoom$Device" 18 "LentRoom$Device" "own" "[I" ∈ AL := al_t1 55 (by decide +kernel) rfl
theorem q_86 : Cond.fieldLink "LentRoom$Device" 21 "LentRoom$Device" "common" "[I" ∈ AL := al_t1 56 (by decide +kernel) rfl
theorem q_87 : Cond.fieldLink "LentRoom$Device" 26 "LentRoom$Device" "loan" "[[I" ∈ AL := al_t1 57 (by decide +kernel) rfl
theorem q_88 : Cond.fieldLink "LentRoom" 131 "LentRoom$Device" "loan" "[[I" ∈ AL := al_t1 58 (by decide +kernel) rfl
theorem q_89 : Cond.fieldLink "LentRoom$Device" 29 "LentRoom$Device" "written" "[[I" ∈ AL := al_t1 59 (by decide +kernel) rfl
theorem q_90 : Cond.fieldLink "LentRoom" 142 "LentRoom$Device" "written" "[[I" ∈ AL := al_t1 60 (by decide +kernel) rfl
theorem q_91 : Cond.fieldLink "LentRoom$Device" 32 "LentRoom$Device" "recalls" "[I" ∈ AL := al_t1 61 (by decide +kernel) rfl
theorem q_92 : Cond.fieldLink "LentRoom$Device" 35 "LentRoom$Device" "lost" "[I" ∈ AL := al_t1 62 (by decide +kernel) rfl
theorem q_93 : Cond.fieldLink "LentRoom$Device" 38 "LentRoom$Device" "refused" "[I" ∈ AL := al_t1 63 (by decide +kernel) rfl
theorem q_94 : Cond.lays "LentRoom$Device" "LentRoom$Device" "spaces" "I" ∈ AL := al_t1 64 (by decide +kernel) rfl
theorem q_96 : Cond.lays "LentRoom$Device" "LentRoom$Device" "clock" "I" ∈ AL := al_t1 66 (by decide +kernel) rfl
theorem q_98 : Cond.laysFinal "LentRoom$Device" "LentRoom$Device" "floor" "[I" ∈ AL := al_t1 68 (by decide +kernel) rfl
theorem q_100 : Cond.laysFinal "LentRoom$Device" "LentRoom$Device" "ceiling" "[I" ∈ AL := al_t1 70 (by decide +kernel) rfl
theorem q_102 : Cond.laysFinal "LentRoom$Device" "LentRoom$Device" "own" "[I" ∈ AL := al_t1 72 (by decide +kernel) rfl
theorem q_104 : Cond.laysFinal "LentRoom$Device" "LentRoom$Device" "common" "[I" ∈ AL := al_t1 74 (by decide +kernel) rfl
theorem q_106 : Cond.laysFinal "LentRoom$Device" "LentRoom$Device" "loan" "[[I" ∈ AL := al_t1 76 (by decide +kernel) rfl
theorem q_108 : Cond.laysFinal "LentRoom$Device" "LentRoom$Device" "written" "[[I" ∈ AL := al_t1 78 (by decide +kernel) rfl
theorem q_110 : Cond.laysFinal "LentRoom$Device" "LentRoom$Device" "recalls" "[I" ∈ AL := al_t1 80 (by decide +kernel) rfl
theorem q_112 : Cond.laysFinal "LentRoom$Device" "LentRoom$Device" "lost" "[I" ∈ AL := al_t1 82 (by decide +kernel) rfl
theorem q_114 : Cond.laysFinal "LentRoom$Device" "LentRoom$Device" "refused" "[I" ∈ AL := al_t1 84 (by decide +kernel) rfl
theorem q_116 : Cond.superclass "LentRoom$Device" "java/lang/Object" ∈ AL := al_t1 86 (by decide +kernel) rfl
theorem q_117 : Cond.arrayClass Jvm.ClassFile.FieldType.int ∈ AL := al_t1 87 (by decide +kernel) rfl
theorem q_118 : Cond.classLink "LentRoom" 23 "LentRoom$History" ∈ AL := al_t1 88 (by decide +kernel) rfl
theorem q_119 : Cond.instantiable "LentRoom$History" 3 ∈ AL := al_t1 89 (by decide +kernel) rfl
theorem q_120 : Cond.methodLink "LentRoom" 25 yX1_init ∈ AL := al_t1 90 (by decide +kernel) rfl
theorem q_121 : Cond.instanceMethod yX1_init ∈ AL := al_t1 91 (by decide +kernel) rfl
set_option maxRecDepth 100000 in
theorem q_122 : Cond.code yX1_init cX1_init 2 (Option.none : Option Jvm.ClassFile.FieldType) ∈ AL := al_t1 92 rfl rfl
theorem q_123 : Cond.methodLink "LentRoom$History" 3 ⟨"java/lang/Object", "<init>", "()V"⟩ ∈ AL := al_t1 93 (by decide +kernel) rfl
theorem q_124 : Cond.classLink "LentRoom$History" 9 "LentRoom$Device" ∈ AL := al_t1 94 (by decide +kernel) rfl
theorem q_127 : Cond.fieldLink "LentRoom$History" 11 "LentRoom$History" "states" "[LLentRoom$Device;" ∈ AL := al_t1 97 (by decide +kernel) rfl
theorem q_128 : Cond.fieldLink "LentRoom$History" 22 "LentRoom$History" "first" "I" ∈ AL := al_t1 98 (by decide +kernel) rfl
theorem q_129 : Cond.fieldLink "LentRoom$History" 18 "LentRoom$History" "count" "I" ∈ AL := al_t1 99 (by decide +kernel) rfl
theorem q_130 : Cond.laysFinal "LentRoom$History" "LentRoom$History" "states" "[LLentRoom$Device;" ∈ AL := al_t1 100 (by decide +kernel) rfl
theorem q_132 : Cond.lays "LentRoom$History" "LentRoom$History" "first" "I" ∈ AL := al_t1 102 (by decide +kernel) rfl
theorem q_134 : Cond.lays "LentRoom$History" "LentRoom$History" "count" "I" ∈ AL := al_t1 104 (by decide +kernel) rfl
theorem q_136 : Cond.superclass "LentRoom$History" "java/lang/Object" ∈ AL := al_t1 106 (by decide +kernel) rfl
theorem q_137 : Cond.fieldLink "LentRoom" 10 "LentRoom" "text" "LLentRoom$Text;" ∈ AL := al_t1 107 (by decide +kernel) rfl
theorem q_138 : Cond.fieldLink "LentRoom" 19 "LentRoom" "device" "LLentRoom$Device;" ∈ AL := al_t1 108 (by decide +kernel) rfl
theorem q_139 : Cond.fieldLink "LentRoom" 26 "LentRoom" "history" "LLentRoom$History;" ∈ AL := al_t1 109 (by decide +kernel) rfl
theorem q_140 : Cond.fieldLink "LentRoom" 30 "LentRoom" "slots" "[LLentRoom$Device;" ∈ AL := al_t1 110 (by decide +kernel) rfl
theorem q_141 : Cond.fieldLink "LentRoom" 34 "LentRoom" "filled" "[Z" ∈ AL := al_t1 111 (by decide +kernel) rfl
theorem q_142 : Cond.fieldLink "LentRoom" 38 "LentRoom" "blank" "LLentRoom$Device;" ∈ AL := al_t1 112 (by decide +kernel) rfl
theorem q_143 : Cond.fieldLink "LentRoom" 41 "LentRoom" "trial" "LLentRoom$Device;" ∈ AL := al_t1 113 (by decide +kernel) rfl
theorem q_144 : Cond.fieldLink "LentRoom" 44 "LentRoom" "guess" "LLentRoom$Device;" ∈ AL := al_t1 114 (by decide +kernel) rfl
theorem q_145 : Cond.laysFinal "LentRoom" "LentRoom" "text" "LLentRoom$Text;" ∈ AL := al_t1 115 (by decide +kernel) rfl
theorem q_147 : Cond.laysFinal "LentRoom" "LentRoom" "device" "LLentRoom$Device;" ∈ AL := al_t1 117 (by decide +kernel) rfl
theorem q_149 : Cond.laysFinal "LentRoom" "LentRoom" "history" "LLentRoom$History;" ∈ AL := al_t1 119 (by decide +kernel) rfl
theorem q_151 : Cond.laysFinal "LentRoom" "LentRoom" "slots" "[LLentRoom$Device;" ∈ AL := al_t1 121 (by decide +kernel) rfl
theorem q_153 : Cond.laysFinal "LentRoom" "LentRoom" "filled" "[Z" ∈ AL := al_t1 123 (by decide +kernel) rfl
theorem q_155 : Cond.laysFinal "LentRoom" "LentRoom" "blank" "LLentRoom$Device;" ∈ AL := al_t1 125 (by decide +kernel) rfl
theorem q_157 : Cond.laysFinal "LentRoom" "LentRoom" "trial" "LLentRoom$Device;" ∈ AL := al_t1 127 (by decide +kernel) rfl
theorem q_159 : Cond.laysFinal "LentRoom" "LentRoom" "guess" "LLentRoom$Device;" ∈ AL := al_t1 129 (by decide +kernel) rfl
theorem q_161 : Cond.superclass "LentRoom" "java/lang/Object" ∈ AL := al_t1 131 (by decide +kernel) rfl
theorem q_162 : Cond.arrayClass Jvm.ClassFile.FieldType.boolean ∈ AL := al_t1 132 (by decide +kernel) rfl
theorem q_5148 : Cond.methodLink "LentRoomLaw" 162 yL_call ∈ AL := al_t1 133 (by decide +kernel) rfl
theorem q_5149 : Cond.static yL_call ∈ AL := al_t1 134 (by decide +kernel) rfl
set_option maxRecDepth 100000 in
theorem q_5150 : Cond.code yL_call cL_call 5 (Option.some Jvm.ClassFile.FieldType.int) ∈ AL := al_t1 135 rfl rfl
theorem q_5151 : Cond.methodLink "LentRoomLaw" 92 yL_tryAppend ∈ AL := al_t1 136 (by decide +kernel) rfl
theorem q_5152 : Cond.static yL_tryAppend ∈ AL := al_t1 137 (by decide +kernel) rfl
set_option maxRecDepth 100000 in
theorem q_5153 : Cond.codeWith yL_tryAppend cL_tryAppend 3 (Option.some Jvm.ClassFile.FieldType.int) [((0 : Nat), (5 : Nat), (6 : Nat), (13 : Nat)), ((0 : Nat), (5 : Nat), (10 : Nat), (24 : Nat))] ∈ AL := al_t1 138 rfl rfl
theorem q_268 : Cond.classLink "LentRoomLaw" 13 "java/lang/IllegalArgumentException" ∈ AL := al_t1 139 (by decide +kernel) rfl
theorem q_5155 : Cond.classLink "LentRoomLaw" 24 "java/lang/IllegalStateException" ∈ AL := al_t1 140 (by decide +kernel) rfl
theorem q_5156 : Cond.methodLink "LentRoomLaw" 20 yX3_append ∈ AL := al_t1 141 (by decide +kernel) rfl
theorem q_271 : Cond.instanceMethod yX3_append ∈ AL := al_t1 142 (by decide +kernel) rfl
theorem q_272 : Cond.selects "LentRoom" yX3_append yX3_append ∈ AL := al_t1 143 (by decide +kernel) rfl
set_option maxRecDepth 100000 in
theorem q_273 : Cond.code yX3_append cX3_append 2 (Option.some Jvm.ClassFile.FieldType.int) ∈ AL := al_t1 144 rfl rfl
theorem q_274 : Cond.classLink "LentRoom" 47 "java/lang/IllegalArgumentException" ∈ AL := al_t1 145 (by decide +kernel) rfl
theorem q_275 : Cond.instantiable "java/lang/IllegalArgumentException" 6 ∈ AL := al_t1 146 (by decide +kernel) rfl
theorem q_283 : Cond.selects "java/lang/IllegalArgumentException" ⟨"java/lang/Throwable", "fillInStackTrace", "(I)Ljava/lang/Throwable;"⟩ ⟨"java/lang/Throwable", "fillInStackTrace", "(I)Ljava/lang/Throwable;"⟩ ∈ AL := al_t1 154 (by decide +kernel) rfl
theorem q_284 : Cond.selects "java/lang/IllegalArgumentException" ⟨"java/lang/Throwable", "fillInStackTrace", "()Ljava/lang/Throwable;"⟩ ⟨"java/lang/Throwable", "fillInStackTrace", "()Ljava/lang/Throwable;"⟩ ∈ AL := al_t1 155 (by decide +kernel) rfl
theorem q_285 : Cond.lays "java/lang/IllegalArgumentException" "java/lang/Throwable" "cause" "Ljava/lang/Throwable;" ∈ AL := al_t1 156 (by decide +kernel) rfl
theorem q_286 : Cond.lays "java/lang/Throwable" "java/lang/Throwable" "cause" "Ljava/lang/Throwable;" ∈ AL := al_t1 157 (by decide +kernel) rfl
theorem q_287 : Cond.lays "java/lang/IllegalArgumentException" "java/lang/Throwable" "stackTrace" "[Ljava/lang/StackTraceElement;" ∈ AL := al_t1 158 (by decide +kernel) rfl
theorem q_288 : Cond.lays "java/lang/Throwable" "java/lang/Throwable" "stackTrace" "[Ljava/lang/StackTraceElement;" ∈ AL := al_t1 159 (by decide +kernel) rfl
theorem q_289 : Cond.lays "java/lang/IllegalArgumentException" "java/lang/Throwable" "suppressedExceptions" "Ljava/util/List;" ∈ AL := al_t1 160 (by decide +kernel) rfl
theorem q_290 : Cond.lays "java/lang/Throwable" "java/lang/Throwable" "suppressedExceptions" "Ljava/util/List;" ∈ AL := al_t1 161 (by decide +kernel) rfl
theorem q_291 : Cond.lays "java/lang/IllegalArgumentException" "java/lang/Throwable" "detailMessage" "Ljava/lang/String;" ∈ AL := al_t1 162 (by decide +kernel) rfl
theorem q_292 : Cond.lays "java/lang/Throwable" "java/lang/Throwable" "detailMessage" "Ljava/lang/String;" ∈ AL := al_t1 163 (by decide +kernel) rfl
theorem q_293 : Cond.lays "java/lang/IllegalArgumentException" "java/lang/Throwable" "backtrace" "Ljava/lang/Object;" ∈ AL := al_t1 164 (by decide +kernel) rfl
theorem q_294 : Cond.lays "java/lang/Throwable" "java/lang/Throwable" "backtrace" "Ljava/lang/Object;" ∈ AL := al_t1 165 (by decide +kernel) rfl
theorem q_295 : Cond.fieldLink "java/lang/Throwable" 198 "java/lang/Throwable" "backtrace" "Ljava/lang/Object;" ∈ AL := al_t1 166 (by decide +kernel) rfl
theorem q_296 : Cond.superclass "java/lang/Throwable" "java/lang/Object" ∈ AL := al_t1 167 (by decide +kernel) rfl
theorem q_297 : Cond.instanceMethod ⟨"java/lang/Throwable", "<init>", "()V"⟩ ∈ AL := al_t1 168 (by decide +kernel) rfl
set_option maxRecDepth 100000 in
theorem q_298 : Cond.code ⟨"java/lang/Throwable", "<init>", "()V"⟩ prog_17_method_1_code 1 (Option.none : Option Jvm.ClassFile.FieldType) ∈ AL := al_t1 169 rfl rfl
theorem q_299 : Cond.methodLink "java/lang/Throwable" 1 ⟨"java/lang/Object", "<init>", "()V"⟩ ∈ AL := al_t1 170 (by decide +kernel) rfl
theorem q_300 : Cond.fieldLink "java/lang/Throwable" 13 "java/lang/Throwable" "UNASSIGNED_STACK" "[Ljava/lang/StackTraceElement;" ∈ AL := al_t1 171 (by decide +kernel) rfl
theorem q_302 : Cond.fieldLink "java/lang/Throwable" 20 "java/lang/Throwable" "SUPPRESSED_SENTINEL" "Ljava/util/List;" ∈ AL := al_t1 173 (by decide +kernel) rfl
theorem q_304 : Cond.methodLink "java/lang/Throwable" 27 ⟨"java/lang/Throwable", "fillInStackTrace", "()Ljava/lang/Throwable;"⟩ ∈ AL := al_t1 175 (by decide +kernel) rfl
theorem q_305 : Cond.instanceMethod ⟨"java/lang/Throwable", "fillInStackTrace", "()Ljava/lang/Throwable;"⟩ ∈ AL := al_t1 176 (by decide +kernel) rfl
theorem q_306 : Cond.sameMethod "java/lang/Throwable" "java/lang/Throwable" "fillInStackTrace" "()Ljava/lang/Throwable;" ∈ AL := al_t1 177 (by decide +kernel) rfl
theorem q_307 : Cond.selects "java/lang/IllegalStateException" ⟨"java/lang/Throwable", "fillInStackTrace", "()Ljava/lang/Throwable;"⟩ ⟨"java/lang/Throwable", "fillInStackTrace", "()Ljava/lang/Throwable;"⟩ ∈ AL := al_t1 178 (by decide +kernel) rfl
theorem q_308 : Cond.selects "java/lang/IndexOutOfBoundsException" ⟨"java/lang/Throwable", "fillInStackTrace", "()Ljava/lang/Throwable;"⟩ ⟨"java/lang/Throwable", "fillInStackTrace", "()Ljava/lang/Throwable;"⟩ ∈ AL := al_t1 179 (by decide +kernel) rfl
theorem q_310 : Cond.methodLink "java/lang/Throwable" 202 ⟨"java/lang/Throwable", "fillInStackTrace", "(I)Ljava/lang/Throwable;"⟩ ∈ AL := al_t1 181 (by decide +kernel) rfl
theorem q_312 : Cond.instanceMethod ⟨"java/lang/Throwable", "fillInStackTrace", "(I)Ljava/lang/Throwable;"⟩ ∈ AL := al_t1 183 (by decide +kernel) rfl
theorem q_313 : Cond.instantiable "java/lang/Throwable" 6 ∈ AL := al_t1 184 (by decide +kernel) rfl
theorem q_314 : Cond.native ⟨"java/lang/Throwable", "fillInStackTrace", "(I)Ljava/lang/Throwable;"⟩ ∈ AL := al_t1 185 (by decide +kernel) rfl
theorem q_316 : Cond.methodLink "LentRoom" 51 ⟨"java/lang/IllegalArgumentException", "<init>", "(Ljava/lang/String;)V"⟩ ∈ AL := al_t1 187 (by decide +kernel) rfl
theorem q_317 : Cond.instanceMethod ⟨"java/lang/IllegalArgumentException", "<init>", "(Ljava/lang/String;)V"⟩ ∈ AL := al_t1 188 (by decide +kernel) rfl
set_option maxRecDepth 100000 in
theorem q_318 : Cond.code ⟨"java/lang/IllegalArgumentException", "<init>", "(Ljava/lang/String;)V"⟩ prog_8_method_2_code 2 (Option.none : Option Jvm.ClassFile.FieldType) ∈ AL := al_t1 189 rfl rfl
theorem q_319 : Cond.methodLink "java/lang/IllegalArgumentException" 7 ⟨"java/lang/RuntimeException", "<init>", "(Ljava/lang/String;)V"⟩ ∈ AL := al_t1 190 (by decide +kernel) rfl
theorem q_320 : Cond.instanceMethod ⟨"java/lang/RuntimeException", "<init>", "(Ljava/lang/String;)V"⟩ ∈ AL := al_t1 191 (by decide +kernel) rfl
set_option maxRecDepth 100000 in
theorem q_321 : Cond.code ⟨"java/lang/RuntimeException", "<init>", "(Ljava/lang/String;)V"⟩ prog_12_method_2_code 2 (Option.none : Option Jvm.ClassFile.FieldType) ∈ AL := al_t1 192 rfl rfl
theorem q_322 : Cond.methodLink "java/lang/RuntimeException" 7 ⟨"java/lang/Exception", "<init>", "(Ljava/lang/String;)V"⟩ ∈ AL := al_t1 193 (by decide +kernel) rfl
theorem q_323 : Cond.instanceMethod ⟨"java/lang/Exception", "<init>", "(Ljava/lang/String;)V"⟩ ∈ AL := al_t1 194 (by decide +kernel) rfl
set_option maxRecDepth 100000 in
theorem q_324 : Cond.code ⟨"java/lang/Exception", "<init>", "(Ljava/lang/String;)V"⟩ prog_7_method_2_code 2 (Option.none : Option Jvm.ClassFile.FieldType) ∈ AL := al_t1 195 rfl rfl
theorem q_325 : Cond.methodLink "java/lang/Exception" 7 ⟨"java/lang/Throwable", "<init>", "(Ljava/lang/String;)V"⟩ ∈ AL := al_t1 196 (by decide +kernel) rfl
theorem q_326 : Cond.instanceMethod ⟨"java/lang/Throwable", "<init>", "(Ljava/lang/String;)V"⟩ ∈ AL := al_t1 197 (by decide +kernel) rfl
set_option maxRecDepth 100000 in
theorem q_327 : Cond.code ⟨"java/lang/Throwable", "<init>", "(Ljava/lang/String;)V"⟩ prog_17_method_2_code 2 (Option.none : Option Jvm.ClassFile.FieldType) ∈ AL := al_t1 198 rfl rfl
theorem q_329 : Cond.fieldLink "java/lang/Throwable" 31 "java/lang/Throwable" "detailMessage" "Ljava/lang/String;" ∈ AL := al_t1 200 (by decide +kernel) rfl
theorem q_330 : Cond.fieldLink "java/lang/Throwable" 7 "java/lang/Throwable" "cause" "Ljava/lang/Throwable;" ∈ AL := al_t1 201 (by decide +kernel) rfl
theorem q_331 : Cond.fieldLink "java/lang/Throwable" 17 "java/lang/Throwable" "stackTrace" "[Ljava/lang/StackTraceElement;" ∈ AL := al_t1 202 (by decide +kernel) rfl
theorem q_332 : Cond.fieldLink "java/lang/Throwable" 24 "java/lang/Throwable" "suppressedExceptions" "Ljava/util/List;" ∈ AL := al_t1 203 (by decide +kernel) rfl
theorem q_337 : Cond.lays "java/lang/IllegalArgumentException" "java/lang/Throwable" "depth" "I" ∈ AL := al_t1 208 (by decide +kernel) rfl
theorem q_340 : Cond.superclass "java/lang/IllegalArgumentException" "java/lang/RuntimeException" ∈ AL := al_t1 211 (by decide +kernel) rfl
theorem q_256 : Cond.arrayClass Jvm.ClassFile.FieldType.byte ∈ AL := al_t1 212 (by decide +kernel) rfl
theorem q_341 : Cond.methodLink "LentRoom" 54 yX2_isFull ∈ AL := al_t1 213 (by decide +kernel) rfl
theorem q_342 : Cond.instanceMethod yX2_isFull ∈ AL := al_t1 214 (by decide +kernel) rfl
theorem q_343 : Cond.selects "LentRoom$Text" yX2_isFull yX2_isFull ∈ AL := al_t1 215 (by decide +kernel) rfl
set_option maxRecDepth 100000 in
theorem q_344 : Cond.code yX2_isFull cX2_isFull 1 (Option.some Jvm.ClassFile.FieldType.boolean) ∈ AL := al_t1 216 rfl rfl
theorem q_345 : Cond.classLink "LentRoom" 58 "java/lang/IllegalStateException" ∈ AL := al_t1 217 (by decide +kernel) rfl
theorem q_346 : Cond.instantiable "java/lang/IllegalStateException" 6 ∈ AL := al_t1 218 (by decide +kernel) rfl
theorem q_348 : Cond.selects "java/lang/IllegalStateException" ⟨"java/lang/Throwable", "fillInStackTrace", "(I)Ljava/lang/Throwable;"⟩ ⟨"java/lang/Throwable", "fillInStackTrace", "(I)Ljava/lang/Throwable;"⟩ ∈ AL := al_t1 220 (by decide +kernel) rfl
theorem q_349 : Cond.lays "java/lang/IllegalStateException" "java/lang/Throwable" "cause" "Ljava/lang/Throwable;" ∈ AL := al_t1 221 (by decide +kernel) rfl
theorem q_350 : Cond.lays "java/lang/IllegalStateException" "java/lang/Throwable" "stackTrace" "[Ljava/lang/StackTraceElement;" ∈ AL := al_t1 222 (by decide +kernel) rfl
theorem q_351 : Cond.lays "java/lang/IllegalStateException" "java/lang/Throwable" "suppressedExceptions" "Ljava/util/List;" ∈ AL := al_t1 223 (by decide +kernel) rfl
theorem q_352 : Cond.lays "java/lang/IllegalStateException" "java/lang/Throwable" "detailMessage" "Ljava/lang/String;" ∈ AL := al_t1 224 (by decide +kernel) rfl
theorem q_353 : Cond.lays "java/lang/IllegalStateException" "java/lang/Throwable" "backtrace" "Ljava/lang/Object;" ∈ AL := al_t1 225 (by decide +kernel) rfl
theorem q_355 : Cond.methodLink "LentRoom" 62 ⟨"java/lang/IllegalStateException", "<init>", "(Ljava/lang/String;)V"⟩ ∈ AL := al_t1 227 (by decide +kernel) rfl
theorem q_356 : Cond.instanceMethod ⟨"java/lang/IllegalStateException", "<init>", "(Ljava/lang/String;)V"⟩ ∈ AL := al_t1 228 (by decide +kernel) rfl
set_option maxRecDepth 100000 in
theorem q_357 : Cond.code ⟨"java/lang/IllegalStateException", "<init>", "(Ljava/lang/String;)V"⟩ prog_9_method_2_code 2 (Option.none : Option Jvm.ClassFile.FieldType) ∈ AL := al_t1 229 rfl rfl
theorem q_358 : Cond.methodLink "java/lang/IllegalStateException" 7 ⟨"java/lang/RuntimeException", "<init>", "(Ljava/lang/String;)V"⟩ ∈ AL := al_t1 230 (by decide +kernel) rfl
theorem q_359 : Cond.lays "java/lang/IllegalStateException" "java/lang/Throwable" "depth" "I" ∈ AL := al_t1 231 (by decide +kernel) rfl
theorem q_360 : Cond.superclass "java/lang/IllegalStateException" "java/lang/RuntimeException" ∈ AL := al_t1 232 (by decide +kernel) rfl
theorem q_361 : Cond.methodLink "LentRoom" 63 yX2_add ∈ AL := al_t1 233 (by decide +kernel) rfl
theorem q_362 : Cond.instanceMethod yX2_add ∈ AL := al_t1 234 (by decide +kernel) rfl
theorem q_363 : Cond.selects "LentRoom$Text" yX2_add yX2_add ∈ AL := al_t1 235 (by decide +kernel) rfl
set_option maxRecDepth 100000 in
theorem q_364 : Cond.code yX2_add cX2_add 2 (Option.some Jvm.ClassFile.FieldType.int) ∈ AL := al_t1 236 rfl rfl
theorem q_365 : Cond.methodLink "LentRoom$Text" 19 yX2_isFull ∈ AL := al_t1 237 (by decide +kernel) rfl
theorem q_5253 : Cond.constant "LentRoomLaw" 15 (-9999002 : Int32) ∈ AL := al_t1 238 (by decide +kernel) rfl
theorem q_5254 : Cond.constant "LentRoomLaw" 26 (-9999003 : Int32) ∈ AL := al_t1 239 (by decide +kernel) rfl
theorem q_5255 : Cond.methodLink "LentRoomLaw" 98 yL_tryLoad ∈ AL := al_t2 0 (by decide +kernel) rfl
theorem q_5256 : Cond.static yL_tryLoad ∈ AL := al_t2 1 (by decide +kernel) rfl
set_option maxRecDepth 100000 in
theorem q_5257 : Cond.codeWith yL_tryLoad cL_tryLoad 2 (Option.some Jvm.ClassFile.FieldType.int) [((0 : Nat), (4 : Nat), (5 : Nat), (24 : Nat))] ∈ AL := al_t2 2 rfl rfl
theorem q_5258 : Cond.methodLink "LentRoomLaw" 27 yX3_load ∈ AL := al_t2 3 (by decide +kernel) rfl
theorem q_370 : Cond.instanceMethod yX3_load ∈ AL := al_t2 4 (by decide +kernel) rfl
theorem q_371 : Cond.selects "LentRoom" yX3_load yX3_load ∈ AL := al_t2 5 (by decide +kernel) rfl
set_option maxRecDepth 100000 in
theorem q_372 : Cond.code yX3_load cX3_load 3 (Option.some Jvm.ClassFile.FieldType.int) ∈ AL := al_t2 6 rfl rfl
theorem q_175 : Cond.methodLink "LentRoom" 71 yX2_firstError ∈ AL := al_t2 7 (by decide +kernel) rfl
theorem q_176 : Cond.instanceMethod yX2_firstError ∈ AL := al_t2 8 (by decide +kernel) rfl
theorem q_177 : Cond.selects "LentRoom$Text" yX2_firstError yX2_firstError ∈ AL := al_t2 9 (by decide +kernel) rfl
set_option maxRecDepth 100000 in
theorem q_178 : Cond.code yX2_firstError cX2_firstError 4 (Option.some Jvm.ClassFile.FieldType.int) ∈ AL := al_t2 10 rfl rfl
theorem q_180 : Cond.methodLink "LentRoom$Text" 33 yJ0_length_8abf5 ∈ AL := al_t2 12 (by decide +kernel) rfl
theorem q_181 : Cond.instanceMethod yJ0_length_8abf5 ∈ AL := al_t2 13 (by decide +kernel) rfl
theorem q_182 : Cond.selects "java/lang/String" yJ0_length_8abf5 yJ0_length_8abf5 ∈ AL := al_t2 14 (by decide +kernel) rfl
set_option maxRecDepth 100000 in
theorem q_183 : Cond.code yJ0_length_8abf5 cJ0_length_8abf5 1 (Option.some Jvm.ClassFile.FieldType.int) ∈ AL := al_t2 15 rfl rfl
theorem q_184 : Cond.methodLink "java/lang/String" 335 yJ0_coder_7d493 ∈ AL := al_t2 16 (by decide +kernel) rfl
theorem q_185 : Cond.instanceMethod yJ0_coder_7d493 ∈ AL := al_t2 17 (by decide +kernel) rfl
theorem q_186 : Cond.selects "java/lang/String" yJ0_coder_7d493 yJ0_coder_7d493 ∈ AL := al_t2 18 (by decide +kernel) rfl
set_option maxRecDepth 100000 in
theorem q_187 : Cond.code yJ0_coder_7d493 cJ0_coder_7d493 1 (Option.some Jvm.ClassFile.FieldType.byte) ∈ AL := al_t2 19 rfl rfl
theorem q_188 : Cond.fieldLink "java/lang/String" 38 "java/lang/String" "COMPACT_STRINGS" "Z" ∈ AL := al_t2 20 (by decide +kernel) rfl
theorem q_190 : Cond.methodLink "LentRoom$Text" 38 yJ0_charAt_5068e ∈ AL := al_t2 22 (by decide +kernel) rfl
theorem q_191 : Cond.instanceMethod yJ0_charAt_5068e ∈ AL := al_t2 23 (by decide +kernel) rfl
theorem q_192 : Cond.selects "java/lang/String" yJ0_charAt_5068e yJ0_charAt_5068e ∈ AL := al_t2 24 (by decide +kernel) rfl
set_option maxRecDepth 100000 in
theorem q_193 : Cond.code yJ0_charAt_5068e cJ0_charAt_5068e 2 (Option.some Jvm.ClassFile.FieldType.char) ∈ AL := al_t2 25 rfl rfl
theorem q_194 : Cond.methodLink "java/lang/String" 492 yJ0_isLatin1_aae02 ∈ AL := al_t2 26 (by decide +kernel) rfl
theorem q_195 : Cond.instanceMethod yJ0_isLatin1_aae02 ∈ AL := al_t2 27 (by decide +kernel) rfl
theorem q_196 : Cond.selects "java/lang/String" yJ0_isLatin1_aae02 yJ0_isLatin1_aae02 ∈ AL := al_t2 28 (by decide +kernel) rfl
set_option maxRecDepth 100000 in
theorem q_197 : Cond.code yJ0_isLatin1_aae02 cJ0_isLatin1_aae02 1 (Option.some Jvm.ClassFile.FieldType.boolean) ∈ AL := al_t2 29 rfl rfl
theorem q_198 : Cond.methodLink "java/lang/String" 495 yJ1_charAt_3b067 ∈ AL := al_t2 30 (by decide +kernel) rfl
theorem q_199 : Cond.static yJ1_charAt_3b067 ∈ AL := al_t2 31 (by decide +kernel) rfl
set_option maxRecDepth 100000 in
theorem q_200 : Cond.code yJ1_charAt_3b067 cJ1_charAt_3b067 2 (Option.some Jvm.ClassFile.FieldType.char) ∈ AL := al_t2 32 rfl rfl
theorem q_201 : Cond.methodLink "java/lang/StringLatin1" 9 yJ0_checkIndex_df160 ∈ AL := al_t2 33 (by decide +kernel) rfl
theorem q_202 : Cond.static yJ0_checkIndex_df160 ∈ AL := al_t2 34 (by decide +kernel) rfl
set_option maxRecDepth 100000 in
theorem q_203 : Cond.code yJ0_checkIndex_df160 cJ0_checkIndex_df160 2 (Option.none : Option Jvm.ClassFile.FieldType) ∈ AL := al_t2 35 rfl rfl
theorem q_204 : Cond.fieldLink "java/lang/String" 1053 "jdk/internal/util/Preconditions" "SIOOBE_FORMATTER" "Ljava/util/function/BiFunction;" ∈ AL := al_t2 36 (by decide +kernel) rfl
theorem q_206 : Cond.methodLink "java/lang/String" 1059 yJ3_checkIndex_8e157 ∈ AL := al_t2 38 (by decide +kernel) rfl
theorem q_207 : Cond.static yJ3_checkIndex_8e157 ∈ AL := al_t2 39 (by decide +kernel) rfl
set_option maxRecDepth 100000 in
theorem q_208 : Cond.code yJ3_checkIndex_8e157 cJ3_checkIndex_8e157 3 (Option.some Jvm.ClassFile.FieldType.int) ∈ AL := al_t2 40 rfl rfl
theorem q_209 : Cond.methodLink "java/lang/String" 498 yJ2_charAt_3b067 ∈ AL := al_t2 41 (by decide +kernel) rfl
theorem q_210 : Cond.static yJ2_charAt_3b067 ∈ AL := al_t2 42 (by decide +kernel) rfl
set_option maxRecDepth 100000 in
theorem q_211 : Cond.code yJ2_charAt_3b067 cJ2_charAt_3b067 2 (Option.some Jvm.ClassFile.FieldType.char) ∈ AL := al_t2 43 rfl rfl
theorem q_212 : Cond.methodLink "java/lang/StringUTF16" 67 yJ2_checkIndex_2214a ∈ AL := al_t2 44 (by decide +kernel) rfl
theorem q_213 : Cond.static yJ2_checkIndex_2214a ∈ AL := al_t2 45 (by decide +kernel) rfl
set_option maxRecDepth 100000 in
theorem q_214 : Cond.code yJ2_checkIndex_2214a cJ2_checkIndex_2214a 2 (Option.none : Option Jvm.ClassFile.FieldType) ∈ AL := al_t2 46 rfl rfl
theorem q_215 : Cond.methodLink "java/lang/StringUTF16" 48 yJ2_length_9d52b ∈ AL := al_t2 47 (by decide +kernel) rfl
theorem q_216 : Cond.static yJ2_length_9d52b ∈ AL := al_t2 48 (by decide +kernel) rfl
set_option maxRecDepth 100000 in
theorem q_217 : Cond.code yJ2_length_9d52b cJ2_length_9d52b 1 (Option.some Jvm.ClassFile.FieldType.int) ∈ AL := al_t2 49 rfl rfl
theorem q_218 : Cond.methodLink "java/lang/StringUTF16" 414 yJ0_checkIndex_df160 ∈ AL := al_t2 50 (by decide +kernel) rfl
theorem q_219 : Cond.methodLink "java/lang/StringUTF16" 71 yJ2_getChar_3b067 ∈ AL := al_t2 51 (by decide +kernel) rfl
theorem q_220 : Cond.static yJ2_getChar_3b067 ∈ AL := al_t2 52 (by decide +kernel) rfl
set_option maxRecDepth 100000 in
theorem q_221 : Cond.code yJ2_getChar_3b067 cJ2_getChar_3b067 2 (Option.some Jvm.ClassFile.FieldType.char) ∈ AL := al_t2 53 rfl rfl
theorem q_222 : Cond.fieldLink "java/lang/StringUTF16" 44 "java/lang/StringUTF16" "$assertionsDisabled" "Z" ∈ AL := al_t2 54 (by decide +kernel) rfl
theorem q_224 : Cond.fieldLink "java/lang/StringUTF16" 59 "java/lang/StringUTF16" "HI_BYTE_SHIFT" "I" ∈ AL := al_t2 56 (by decide +kernel) rfl
theorem q_226 : Cond.fieldLink "java/lang/StringUTF16" 63 "java/lang/StringUTF16" "LO_BYTE_SHIFT" "I" ∈ AL := al_t2 58 (by decide +kernel) rfl
theorem q_228 : Cond.methodLink "LentRoom$Text" 41 yX2_fits ∈ AL := al_t2 60 (by decide +kernel) rfl
theorem q_230 : Cond.instanceMethod yX2_fits ∈ AL := al_t2 62 (by decide +kernel) rfl
set_option maxRecDepth 100000 in
theorem q_231 : Cond.code yX2_fits cX2_fits 4 (Option.some Jvm.ClassFile.FieldType.boolean) ∈ AL := al_t2 63 rfl rfl
theorem q_232 : Cond.methodLink "LentRoom$Text" 23 yX2_sign ∈ AL := al_t2 64 (by decide +kernel) rfl
theorem q_233 : Cond.instanceMethod yX2_sign ∈ AL := al_t2 65 (by decide +kernel) rfl
theorem q_234 : Cond.selects "LentRoom$Text" yX2_sign yX2_sign ∈ AL := al_t2 66 (by decide +kernel) rfl
set_option maxRecDepth 100000 in
theorem q_235 : Cond.code yX2_sign cX2_sign 2 (Option.some Jvm.ClassFile.FieldType.char) ∈ AL := al_t2 67 rfl rfl
theorem q_236 : Cond.methodLink "LentRoom$Text" 27 yX2_isDigit ∈ AL := al_t2 68 (by decide +kernel) rfl
theorem q_237 : Cond.instanceMethod yX2_isDigit ∈ AL := al_t2 69 (by decide +kernel) rfl
theorem q_238 : Cond.selects "LentRoom$Text" yX2_isDigit yX2_isDigit ∈ AL := al_t2 70 (by decide +kernel) rfl
set_option maxRecDepth 100000 in
theorem q_239 : Cond.code yX2_isDigit cX2_isDigit 2 (Option.some Jvm.ClassFile.FieldType.boolean) ∈ AL := al_t2 71 rfl rfl
theorem q_240 : Cond.methodLink "LentRoom$Text" 62 yX2_number ∈ AL := al_t2 72 (by decide +kernel) rfl
theorem q_241 : Cond.instanceMethod yX2_number ∈ AL := al_t2 73 (by decide +kernel) rfl
theorem q_242 : Cond.selects "LentRoom$Text" yX2_number yX2_number ∈ AL := al_t2 74 (by decide +kernel) rfl
set_option maxRecDepth 100000 in
theorem q_243 : Cond.code yX2_number cX2_number 5 (Option.some Jvm.ClassFile.FieldType.int) ∈ AL := al_t2 75 rfl rfl
theorem q_244 : Cond.methodLink "LentRoom$Text" 45 yX2_placesBehind ∈ AL := al_t2 76 (by decide +kernel) rfl
theorem q_245 : Cond.static yX2_placesBehind ∈ AL := al_t2 77 (by decide +kernel) rfl
set_option maxRecDepth 100000 in
theorem q_246 : Cond.code yX2_placesBehind cX2_placesBehind 1 (Option.some (Jvm.ClassFile.FieldType.object "java/lang/String")) ∈ AL := al_t2 78 rfl rfl
theorem q_252 : Cond.methodLink "LentRoom$Text" 49 yJ0_isEmpty_aae02 ∈ AL := al_t2 84 (by decide +kernel) rfl
theorem q_253 : Cond.instanceMethod yJ0_isEmpty_aae02 ∈ AL := al_t2 85 (by decide +kernel) rfl
theorem q_254 : Cond.selects "java/lang/String" yJ0_isEmpty_aae02 yJ0_isEmpty_aae02 ∈ AL := al_t2 86 (by decide +kernel) rfl
set_option maxRecDepth 100000 in
theorem q_255 : Cond.code yJ0_isEmpty_aae02 cJ0_isEmpty_aae02 1 (Option.some Jvm.ClassFile.FieldType.boolean) ∈ AL := al_t2 87 rfl rfl
theorem q_374 : Cond.methodLink "LentRoom" 76 yX0_become ∈ AL := al_t2 89 (by decide +kernel) rfl
theorem q_375 : Cond.instanceMethod yX0_become ∈ AL := al_t2 90 (by decide +kernel) rfl
theorem q_376 : Cond.selects "LentRoom$Device" yX0_become yX0_become ∈ AL := al_t2 91 (by decide +kernel) rfl
set_option maxRecDepth 100000 in
theorem q_377 : Cond.code yX0_become cX0_become 3 (Option.none : Option Jvm.ClassFile.FieldType) ∈ AL := al_t2 92 rfl rfl
theorem q_378 : Cond.methodLink "LentRoom$Device" 48 yX0_copyRow ∈ AL := al_t2 93 (by decide +kernel) rfl
theorem q_379 : Cond.static yX0_copyRow ∈ AL := al_t2 94 (by decide +kernel) rfl
set_option maxRecDepth 100000 in
theorem q_380 : Cond.code yX0_copyRow cX0_copyRow 2 (Option.none : Option Jvm.ClassFile.FieldType) ∈ AL := al_t2 95 rfl rfl
theorem q_381 : Cond.methodLink "LentRoom$Device" 52 yJ9_min_7cf53 ∈ AL := al_t2 96 (by decide +kernel) rfl
theorem q_382 : Cond.static yJ9_min_7cf53 ∈ AL := al_t2 97 (by decide +kernel) rfl
set_option maxRecDepth 100000 in
theorem q_383 : Cond.code yJ9_min_7cf53 cJ9_min_7cf53 2 (Option.some Jvm.ClassFile.FieldType.int) ∈ AL := al_t2 98 rfl rfl
theorem q_384 : Cond.methodLink "LentRoom$Device" 58 ⟨"java/lang/System", "arraycopy", "(Ljava/lang/Object;ILjava/lang/Object;II)V"⟩ ∈ AL := al_t2 99 (by decide +kernel) rfl
theorem q_385 : Cond.static ⟨"java/lang/System", "arraycopy", "(Ljava/lang/Object;ILjava/lang/Object;II)V"⟩ ∈ AL := al_t2 100 (by decide +kernel) rfl
theorem q_386 : Cond.native ⟨"java/lang/System", "arraycopy", "(Ljava/lang/Object;ILjava/lang/Object;II)V"⟩ ∈ AL := al_t2 101 (by decide +kernel) rfl
theorem q_387 : Cond.methodLink "LentRoom" 80 yX1_forgetAll ∈ AL := al_t2 102 (by decide +kernel) rfl
theorem q_388 : Cond.instanceMethod yX1_forgetAll ∈ AL := al_t2 103 (by decide +kernel) rfl
theorem q_389 : Cond.selects "LentRoom$History" yX1_forgetAll yX1_forgetAll ∈ AL := al_t2 104 (by decide +kernel) rfl
set_option maxRecDepth 100000 in
theorem q_390 : Cond.code yX1_forgetAll cX1_forgetAll 1 (Option.none : Option Jvm.ClassFile.FieldType) ∈ AL := al_t2 105 rfl rfl
theorem q_391 : Cond.methodLink "LentRoom" 87 yX2_isDigit ∈ AL := al_t2 106 (by decide +kernel) rfl
theorem q_392 : Cond.methodLink "LentRoom" 91 yX3_obeyText ∈ AL := al_t2 107 (by decide +kernel) rfl
theorem q_394 : Cond.instanceMethod yX3_obeyText ∈ AL := al_t2 109 (by decide +kernel) rfl
set_option maxRecDepth 100000 in
theorem q_395 : Cond.code yX3_obeyText cX3_obeyText 7 (Option.some Jvm.ClassFile.FieldType.boolean) ∈ AL := al_t2 110 rfl rfl
theorem q_396 : Cond.methodLink "LentRoom" 94 yX2_number ∈ AL := al_t2 111 (by decide +kernel) rfl
theorem q_397 : Cond.methodLink "LentRoom" 98 yX2_sign ∈ AL := al_t2 112 (by decide +kernel) rfl
theorem q_398 : Cond.methodLink "LentRoom" 102 yX0_addSpace ∈ AL := al_t2 113 (by decide +kernel) rfl
theorem q_399 : Cond.instanceMethod yX0_addSpace ∈ AL := al_t2 114 (by decide +kernel) rfl
theorem q_400 : Cond.selects "LentRoom$Device" yX0_addSpace yX0_addSpace ∈ AL := al_t2 115 (by decide +kernel) rfl
set_option maxRecDepth 100000 in
theorem q_401 : Cond.code yX0_addSpace cX0_addSpace 3 (Option.some Jvm.ClassFile.FieldType.int) ∈ AL := al_t2 116 rfl rfl
theorem q_402 : Cond.methodLink "LentRoom$Device" 105 yX0_areBounds ∈ AL := al_t2 117 (by decide +kernel) rfl
theorem q_403 : Cond.instanceMethod yX0_areBounds ∈ AL := al_t2 118 (by decide +kernel) rfl
theorem q_404 : Cond.selects "LentRoom$Device" yX0_areBounds yX0_areBounds ∈ AL := al_t2 119 (by decide +kernel) rfl
set_option maxRecDepth 100000 in
theorem q_405 : Cond.code yX0_areBounds cX0_areBounds 3 (Option.some Jvm.ClassFile.FieldType.boolean) ∈ AL := al_t2 120 rfl rfl
theorem q_406 : Cond.methodLink "LentRoom$Device" 108 yX0_hasRoomForSpace ∈ AL := al_t2 121 (by decide +kernel) rfl
theorem q_407 : Cond.instanceMethod yX0_hasRoomForSpace ∈ AL := al_t2 122 (by decide +kernel) rfl
theorem q_408 : Cond.selects "LentRoom$Device" yX0_hasRoomForSpace yX0_hasRoomForSpace ∈ AL := al_t2 123 (by decide +kernel) rfl
set_option maxRecDepth 100000 in
theorem q_409 : Cond.code yX0_hasRoomForSpace cX0_hasRoomForSpace 2 (Option.some Jvm.ClassFile.FieldType.boolean) ∈ AL := al_t2 124 rfl rfl
theorem q_410 : Cond.methodLink "LentRoom$Device" 90 yX0_freeCommonRoom ∈ AL := al_t2 125 (by decide +kernel) rfl
theorem q_411 : Cond.instanceMethod yX0_freeCommonRoom ∈ AL := al_t2 126 (by decide +kernel) rfl
theorem q_412 : Cond.selects "LentRoom$Device" yX0_freeCommonRoom yX0_freeCommonRoom ∈ AL := al_t2 127 (by decide +kernel) rfl
set_option maxRecDepth 100000 in
theorem q_413 : Cond.code yX0_freeCommonRoom cX0_freeCommonRoom 1 (Option.some Jvm.ClassFile.FieldType.int) ∈ AL := al_t2 128 rfl rfl
theorem q_414 : Cond.methodLink "LentRoom$Device" 72 yX0_sum ∈ AL := al_t2 129 (by decide +kernel) rfl
theorem q_415 : Cond.static yX0_sum ∈ AL := al_t2 130 (by decide +kernel) rfl
set_option maxRecDepth 100000 in
theorem q_416 : Cond.code yX0_sum cX0_sum 6 (Option.some Jvm.ClassFile.FieldType.int) ∈ AL := al_t2 131 rfl rfl
theorem q_417 : Cond.methodLink "LentRoom" 105 yX0_putPage ∈ AL := al_t2 132 (by decide +kernel) rfl
theorem q_418 : Cond.instanceMethod yX0_putPage ∈ AL := al_t2 133 (by decide +kernel) rfl
theorem q_419 : Cond.selects "LentRoom$Device" yX0_putPage yX0_putPage ∈ AL := al_t2 134 (by decide +kernel) rfl
set_option maxRecDepth 100000 in
theorem q_420 : Cond.code yX0_putPage cX0_putPage 4 (Option.some Jvm.ClassFile.FieldType.int) ∈ AL := al_t2 135 rfl rfl
theorem q_421 : Cond.methodLink "LentRoom$Device" 68 yX0_hasPage ∈ AL := al_t2 136 (by decide +kernel) rfl
theorem q_422 : Cond.instanceMethod yX0_hasPage ∈ AL := al_t2 137 (by decide +kernel) rfl
theorem q_423 : Cond.selects "LentRoom$Device" yX0_hasPage yX0_hasPage ∈ AL := al_t2 138 (by decide +kernel) rfl
set_option maxRecDepth 100000 in
theorem q_424 : Cond.code yX0_hasPage cX0_hasPage 3 (Option.some Jvm.ClassFile.FieldType.boolean) ∈ AL := al_t2 139 rfl rfl
theorem q_425 : Cond.methodLink "LentRoom$Device" 64 yX0_hasSpace ∈ AL := al_t2 140 (by decide +kernel) rfl
theorem q_426 : Cond.instanceMethod yX0_hasSpace ∈ AL := al_t2 141 (by decide +kernel) rfl
theorem q_427 : Cond.selects "LentRoom$Device" yX0_hasSpace yX0_hasSpace ∈ AL := al_t2 142 (by decide +kernel) rfl
set_option maxRecDepth 100000 in
theorem q_428 : Cond.code yX0_hasSpace cX0_hasSpace 2 (Option.some Jvm.ClassFile.FieldType.boolean) ∈ AL := al_t2 143 rfl rfl
theorem q_429 : Cond.methodLink "LentRoom$Device" 123 yX0_isWritten ∈ AL := al_t2 144 (by decide +kernel) rfl
theorem q_430 : Cond.instanceMethod yX0_isWritten ∈ AL := al_t2 145 (by decide +kernel) rfl
theorem q_431 : Cond.selects "LentRoom$Device" yX0_isWritten yX0_isWritten ∈ AL := al_t2 146 (by decide +kernel) rfl
set_option maxRecDepth 100000 in
theorem q_432 : Cond.code yX0_isWritten cX0_isWritten 3 (Option.some Jvm.ClassFile.FieldType.boolean) ∈ AL := al_t2 147 rfl rfl
theorem q_433 : Cond.methodLink "LentRoom$Device" 126 yX0_takeBlock ∈ AL := al_t2 148 (by decide +kernel) rfl
theorem q_434 : Cond.instanceMethod yX0_takeBlock ∈ AL := al_t2 149 (by decide +kernel) rfl
theorem q_435 : Cond.selects "LentRoom$Device" yX0_takeBlock yX0_takeBlock ∈ AL := al_t2 150 (by decide +kernel) rfl
set_option maxRecDepth 100000 in
theorem q_436 : Cond.code yX0_takeBlock cX0_takeBlock 3 (Option.some Jvm.ClassFile.FieldType.int) ∈ AL := al_t2 151 rfl rfl
theorem q_437 : Cond.methodLink "LentRoom$Device" 76 yX0_pagesOf ∈ AL := al_t2 152 (by decide +kernel) rfl
theorem q_438 : Cond.instanceMethod yX0_pagesOf ∈ AL := al_t2 153 (by decide +kernel) rfl
theorem q_439 : Cond.selects "LentRoom$Device" yX0_pagesOf yX0_pagesOf ∈ AL := al_t2 154 (by decide +kernel) rfl
set_option maxRecDepth 100000 in
theorem q_440 : Cond.code yX0_pagesOf cX0_pagesOf 2 (Option.some Jvm.ClassFile.FieldType.int) ∈ AL := al_t2 155 rfl rfl
theorem q_441 : Cond.methodLink "LentRoom$Device" 80 yX0_idleOf ∈ AL := al_t2 156 (by decide +kernel) rfl
theorem q_442 : Cond.instanceMethod yX0_idleOf ∈ AL := al_t2 157 (by decide +kernel) rfl
theorem q_443 : Cond.selects "LentRoom$Device" yX0_idleOf yX0_idleOf ∈ AL := al_t2 158 (by decide +kernel) rfl
set_option maxRecDepth 100000 in
theorem q_444 : Cond.code yX0_idleOf cX0_idleOf 4 (Option.some Jvm.ClassFile.FieldType.int) ∈ AL := al_t2 159 rfl rfl
theorem q_445 : Cond.methodLink "LentRoom$Device" 132 yX0_recallLoan ∈ AL := al_t2 160 (by decide +kernel) rfl
theorem q_447 : Cond.instanceMethod yX0_recallLoan ∈ AL := al_t2 162 (by decide +kernel) rfl
set_option maxRecDepth 100000 in
theorem q_448 : Cond.code yX0_recallLoan cX0_recallLoan 4 (Option.none : Option Jvm.ClassFile.FieldType) ∈ AL := al_t2 163 rfl rfl
theorem q_449 : Cond.methodLink "LentRoom$Device" 139 yX0_greatestBorrower ∈ AL := al_t2 164 (by decide +kernel) rfl
theorem q_451 : Cond.instanceMethod yX0_greatestBorrower ∈ AL := al_t2 166 (by decide +kernel) rfl
set_option maxRecDepth 100000 in
theorem q_452 : Cond.code yX0_greatestBorrower cX0_greatestBorrower 4 (Option.some Jvm.ClassFile.FieldType.int) ∈ AL := al_t2 167 rfl rfl
theorem q_453 : Cond.methodLink "LentRoom$Device" 136 yX0_idlestBut ∈ AL := al_t2 168 (by decide +kernel) rfl
theorem q_455 : Cond.instanceMethod yX0_idlestBut ∈ AL := al_t2 170 (by decide +kernel) rfl
set_option maxRecDepth 100000 in
theorem q_456 : Cond.code yX0_idlestBut cX0_idlestBut 7 (Option.some Jvm.ClassFile.FieldType.int) ∈ AL := al_t2 171 rfl rfl
theorem q_457 : Cond.methodLink "LentRoom$Device" 142 yX0_loseOldest ∈ AL := al_t2 172 (by decide +kernel) rfl
theorem q_459 : Cond.instanceMethod yX0_loseOldest ∈ AL := al_t2 174 (by decide +kernel) rfl
set_option maxRecDepth 100000 in
theorem q_460 : Cond.code yX0_loseOldest cX0_loseOldest 3 (Option.none : Option Jvm.ClassFile.FieldType) ∈ AL := al_t2 175 rfl rfl
theorem q_461 : Cond.methodLink "LentRoom$Device" 102 yX0_oldestAfter ∈ AL := al_t2 176 (by decide +kernel) rfl
theorem q_463 : Cond.instanceMethod yX0_oldestAfter ∈ AL := al_t2 178 (by decide +kernel) rfl
set_option maxRecDepth 100000 in
theorem q_464 : Cond.code yX0_oldestAfter cX0_oldestAfter 5 (Option.some Jvm.ClassFile.FieldType.int) ∈ AL := al_t2 179 rfl rfl
theorem q_465 : Cond.methodLink "LentRoom" 108 yX0_dropPage ∈ AL := al_t2 180 (by decide +kernel) rfl
theorem q_466 : Cond.instanceMethod yX0_dropPage ∈ AL := al_t2 181 (by decide +kernel) rfl
theorem q_467 : Cond.selects "LentRoom$Device" yX0_dropPage yX0_dropPage ∈ AL := al_t2 182 (by decide +kernel) rfl
set_option maxRecDepth 100000 in
theorem q_468 : Cond.code yX0_dropPage cX0_dropPage 4 (Option.some Jvm.ClassFile.FieldType.boolean) ∈ AL := al_t2 183 rfl rfl
theorem q_469 : Cond.methodLink "LentRoom$Device" 129 yX0_greatestLender ∈ AL := al_t2 184 (by decide +kernel) rfl
theorem q_471 : Cond.instanceMethod yX0_greatestLender ∈ AL := al_t2 186 (by decide +kernel) rfl
set_option maxRecDepth 100000 in
theorem q_472 : Cond.code yX0_greatestLender cX0_greatestLender 4 (Option.some Jvm.ClassFile.FieldType.int) ∈ AL := al_t2 187 rfl rfl
theorem q_473 : Cond.methodLink "LentRoom" 112 yX0_changeFloor ∈ AL := al_t2 188 (by decide +kernel) rfl
theorem q_474 : Cond.instanceMethod yX0_changeFloor ∈ AL := al_t2 189 (by decide +kernel) rfl
theorem q_475 : Cond.selects "LentRoom$Device" yX0_changeFloor yX0_changeFloor ∈ AL := al_t2 190 (by decide +kernel) rfl
set_option maxRecDepth 100000 in
theorem q_476 : Cond.code yX0_changeFloor cX0_changeFloor 3 (Option.some Jvm.ClassFile.FieldType.boolean) ∈ AL := al_t2 191 rfl rfl
theorem q_477 : Cond.methodLink "LentRoom$Device" 117 yX0_takesFloor ∈ AL := al_t2 192 (by decide +kernel) rfl
theorem q_478 : Cond.instanceMethod yX0_takesFloor ∈ AL := al_t2 193 (by decide +kernel) rfl
theorem q_479 : Cond.selects "LentRoom$Device" yX0_takesFloor yX0_takesFloor ∈ AL := al_t2 194 (by decide +kernel) rfl
set_option maxRecDepth 100000 in
theorem q_480 : Cond.code yX0_takesFloor cX0_takesFloor 3 (Option.some Jvm.ClassFile.FieldType.boolean) ∈ AL := al_t2 195 rfl rfl
theorem q_481 : Cond.methodLink "LentRoom$Device" 111 yX0_smallestFloor ∈ AL := al_t2 196 (by decide +kernel) rfl
theorem q_482 : Cond.instanceMethod yX0_smallestFloor ∈ AL := al_t2 197 (by decide +kernel) rfl
theorem q_483 : Cond.selects "LentRoom$Device" yX0_smallestFloor yX0_smallestFloor ∈ AL := al_t2 198 (by decide +kernel) rfl
set_option maxRecDepth 100000 in
theorem q_484 : Cond.code yX0_smallestFloor cX0_smallestFloor 2 (Option.some Jvm.ClassFile.FieldType.int) ∈ AL := al_t2 199 rfl rfl
theorem q_485 : Cond.methodLink "LentRoom$Device" 114 yX0_greatestFloor ∈ AL := al_t2 200 (by decide +kernel) rfl
theorem q_486 : Cond.instanceMethod yX0_greatestFloor ∈ AL := al_t2 201 (by decide +kernel) rfl
theorem q_487 : Cond.selects "LentRoom$Device" yX0_greatestFloor yX0_greatestFloor ∈ AL := al_t2 202 (by decide +kernel) rfl
set_option maxRecDepth 100000 in
theorem q_488 : Cond.code yX0_greatestFloor cX0_greatestFloor 2 (Option.some Jvm.ClassFile.FieldType.int) ∈ AL := al_t2 203 rfl rfl
theorem q_5459 : Cond.methodLink "LentRoomLaw" 102 yL_tryAbout ∈ AL := al_t2 204 (by decide +kernel) rfl
theorem q_5460 : Cond.static yL_tryAbout ∈ AL := al_t2 205 (by decide +kernel) rfl
set_option maxRecDepth 100000 in
theorem q_5461 : Cond.codeWith yL_tryAbout cL_tryAbout 3 (Option.some Jvm.ClassFile.FieldType.int) [((0 : Nat), (5 : Nat), (6 : Nat), (13 : Nat))] ∈ AL := al_t2 206 rfl rfl
theorem q_5462 : Cond.methodLink "LentRoomLaw" 31 yX3_about ∈ AL := al_t2 207 (by decide +kernel) rfl
theorem q_493 : Cond.instanceMethod yX3_about ∈ AL := al_t2 208 (by decide +kernel) rfl
theorem q_494 : Cond.selects "LentRoom" yX3_about yX3_about ∈ AL := al_t2 209 (by decide +kernel) rfl
set_option maxRecDepth 100000 in
theorem q_495 : Cond.code yX3_about cX3_about 2 (Option.some Jvm.ClassFile.FieldType.int) ∈ AL := al_t2 210 rfl rfl
theorem q_497 : Cond.methodLink "LentRoom" 117 yX0_numberOfAll ∈ AL := al_t2 212 (by decide +kernel) rfl
theorem q_498 : Cond.instanceMethod yX0_numberOfAll ∈ AL := al_t2 213 (by decide +kernel) rfl
theorem q_499 : Cond.selects "LentRoom$Device" yX0_numberOfAll yX0_numberOfAll ∈ AL := al_t2 214 (by decide +kernel) rfl
set_option maxRecDepth 100000 in
theorem q_500 : Cond.code yX0_numberOfAll cX0_numberOfAll 2 (Option.some Jvm.ClassFile.FieldType.int) ∈ AL := al_t2 215 rfl rfl
theorem q_501 : Cond.methodLink "LentRoom$Device" 83 yX0_pagesOfAll ∈ AL := al_t2 216 (by decide +kernel) rfl
theorem q_502 : Cond.instanceMethod yX0_pagesOfAll ∈ AL := al_t2 217 (by decide +kernel) rfl
theorem q_503 : Cond.selects "LentRoom$Device" yX0_pagesOfAll yX0_pagesOfAll ∈ AL := al_t2 218 (by decide +kernel) rfl
set_option maxRecDepth 100000 in
theorem q_504 : Cond.code yX0_pagesOfAll cX0_pagesOfAll 3 (Option.some Jvm.ClassFile.FieldType.int) ∈ AL := al_t2 219 rfl rfl
theorem q_505 : Cond.methodLink "LentRoom$Device" 87 yX0_commonRoom ∈ AL := al_t2 220 (by decide +kernel) rfl
theorem q_506 : Cond.instanceMethod yX0_commonRoom ∈ AL := al_t2 221 (by decide +kernel) rfl
theorem q_507 : Cond.selects "LentRoom$Device" yX0_commonRoom yX0_commonRoom ∈ AL := al_t2 222 (by decide +kernel) rfl
set_option maxRecDepth 100000 in
theorem q_508 : Cond.code yX0_commonRoom cX0_commonRoom 1 (Option.some Jvm.ClassFile.FieldType.int) ∈ AL := al_t2 223 rfl rfl
theorem q_509 : Cond.methodLink "LentRoom$Device" 93 yX0_loansOfAll ∈ AL := al_t2 224 (by decide +kernel) rfl
theorem q_510 : Cond.instanceMethod yX0_loansOfAll ∈ AL := al_t2 225 (by decide +kernel) rfl
theorem q_511 : Cond.selects "LentRoom$Device" yX0_loansOfAll yX0_loansOfAll ∈ AL := al_t2 226 (by decide +kernel) rfl
set_option maxRecDepth 100000 in
theorem q_512 : Cond.code yX0_loansOfAll cX0_loansOfAll 3 (Option.some Jvm.ClassFile.FieldType.int) ∈ AL := al_t2 227 rfl rfl
theorem q_513 : Cond.methodLink "LentRoom$Device" 96 yX0_lostByAll ∈ AL := al_t2 228 (by decide +kernel) rfl
theorem q_514 : Cond.instanceMethod yX0_lostByAll ∈ AL := al_t2 229 (by decide +kernel) rfl
theorem q_515 : Cond.selects "LentRoom$Device" yX0_lostByAll yX0_lostByAll ∈ AL := al_t2 230 (by decide +kernel) rfl
set_option maxRecDepth 100000 in
theorem q_516 : Cond.code yX0_lostByAll cX0_lostByAll 1 (Option.some Jvm.ClassFile.FieldType.int) ∈ AL := al_t2 231 rfl rfl
theorem q_5487 : Cond.methodLink "LentRoomLaw" 105 yL_trySpace ∈ AL := al_t2 232 (by decide +kernel) rfl
theorem q_5488 : Cond.static yL_trySpace ∈ AL := al_t2 233 (by decide +kernel) rfl
set_option maxRecDepth 100000 in
theorem q_5489 : Cond.codeWith yL_trySpace cL_trySpace 4 (Option.some Jvm.ClassFile.FieldType.int) [((0 : Nat), (6 : Nat), (7 : Nat), (38 : Nat)), ((0 : Nat), (6 : Nat), (11 : Nat), (13 : Nat))] ∈ AL := al_t2 234 rfl rfl
theorem q_5490 : Cond.classLink "LentRoomLaw" 38 "java/lang/IndexOutOfBoundsException" ∈ AL := al_t2 235 (by decide +kernel) rfl
theorem q_5491 : Cond.methodLink "LentRoomLaw" 34 yX3_space ∈ AL := al_t2 236 (by decide +kernel) rfl
theorem q_522 : Cond.instanceMethod yX3_space ∈ AL := al_t2 237 (by decide +kernel) rfl
theorem q_523 : Cond.selects "LentRoom" yX3_space yX3_space ∈ AL := al_t2 238 (by decide +kernel) rfl
set_option maxRecDepth 100000 in
theorem q_524 : Cond.code yX3_space cX3_space 3 (Option.some Jvm.ClassFile.FieldType.int) ∈ AL := al_t2 239 rfl rfl
theorem q_525 : Cond.methodLink "LentRoom" 121 yX3_needSpace ∈ AL := al_t3 0 (by decide +kernel) rfl
theorem q_527 : Cond.instanceMethod yX3_needSpace ∈ AL := al_t3 2 (by decide +kernel) rfl
set_option maxRecDepth 100000 in
theorem q_528 : Cond.code yX3_needSpace cX3_needSpace 2 (Option.none : Option Jvm.ClassFile.FieldType) ∈ AL := al_t3 3 rfl rfl
theorem q_529 : Cond.methodLink "LentRoom" 239 yX0_hasSpace ∈ AL := al_t3 4 (by decide +kernel) rfl
theorem q_530 : Cond.classLink "LentRoom" 268 "java/lang/IndexOutOfBoundsException" ∈ AL := al_t3 5 (by decide +kernel) rfl
theorem q_531 : Cond.instantiable "java/lang/IndexOutOfBoundsException" 6 ∈ AL := al_t3 6 (by decide +kernel) rfl
theorem q_533 : Cond.selects "java/lang/IndexOutOfBoundsException" ⟨"java/lang/Throwable", "fillInStackTrace", "(I)Ljava/lang/Throwable;"⟩ ⟨"java/lang/Throwable", "fillInStackTrace", "(I)Ljava/lang/Throwable;"⟩ ∈ AL := al_t3 8 (by decide +kernel) rfl
theorem q_534 : Cond.lays "java/lang/IndexOutOfBoundsException" "java/lang/Throwable" "cause" "Ljava/lang/Throwable;" ∈ AL := al_t3 9 (by decide +kernel) rfl
theorem q_535 : Cond.lays "java/lang/IndexOutOfBoundsException" "java/lang/Throwable" "stackTrace" "[Ljava/lang/StackTraceElement;" ∈ AL := al_t3 10 (by decide +kernel) rfl
theorem q_536 : Cond.lays "java/lang/IndexOutOfBoundsException" "java/lang/Throwable" "suppressedExceptions" "Ljava/util/List;" ∈ AL := al_t3 11 (by decide +kernel) rfl
theorem q_537 : Cond.lays "java/lang/IndexOutOfBoundsException" "java/lang/Throwable" "detailMessage" "Ljava/lang/String;" ∈ AL := al_t3 12 (by decide +kernel) rfl
theorem q_538 : Cond.lays "java/lang/IndexOutOfBoundsException" "java/lang/Throwable" "backtrace" "Ljava/lang/Object;" ∈ AL := al_t3 13 (by decide +kernel) rfl
theorem q_540 : Cond.methodLink "LentRoom" 272 ⟨"java/lang/IndexOutOfBoundsException", "<init>", "(Ljava/lang/String;)V"⟩ ∈ AL := al_t3 15 (by decide +kernel) rfl
theorem q_541 : Cond.instanceMethod ⟨"java/lang/IndexOutOfBoundsException", "<init>", "(Ljava/lang/String;)V"⟩ ∈ AL := al_t3 16 (by decide +kernel) rfl
set_option maxRecDepth 100000 in
theorem q_542 : Cond.code ⟨"java/lang/IndexOutOfBoundsException", "<init>", "(Ljava/lang/String;)V"⟩ prog_10_method_2_code 2 (Option.none : Option Jvm.ClassFile.FieldType) ∈ AL := al_t3 17 rfl rfl
theorem q_543 : Cond.methodLink "java/lang/IndexOutOfBoundsException" 7 ⟨"java/lang/RuntimeException", "<init>", "(Ljava/lang/String;)V"⟩ ∈ AL := al_t3 18 (by decide +kernel) rfl
theorem q_544 : Cond.lays "java/lang/IndexOutOfBoundsException" "java/lang/Throwable" "depth" "I" ∈ AL := al_t3 19 (by decide +kernel) rfl
theorem q_545 : Cond.superclass "java/lang/IndexOutOfBoundsException" "java/lang/RuntimeException" ∈ AL := al_t3 20 (by decide +kernel) rfl
theorem q_546 : Cond.methodLink "LentRoom" 125 yX0_sizeOf ∈ AL := al_t3 21 (by decide +kernel) rfl
theorem q_547 : Cond.instanceMethod yX0_sizeOf ∈ AL := al_t3 22 (by decide +kernel) rfl
theorem q_548 : Cond.selects "LentRoom$Device" yX0_sizeOf yX0_sizeOf ∈ AL := al_t3 23 (by decide +kernel) rfl
set_option maxRecDepth 100000 in
theorem q_549 : Cond.code yX0_sizeOf cX0_sizeOf 3 (Option.some Jvm.ClassFile.FieldType.int) ∈ AL := al_t3 24 rfl rfl
theorem q_550 : Cond.methodLink "LentRoom$Device" 99 yX0_lendsOf ∈ AL := al_t3 25 (by decide +kernel) rfl
theorem q_551 : Cond.instanceMethod yX0_lendsOf ∈ AL := al_t3 26 (by decide +kernel) rfl
theorem q_552 : Cond.selects "LentRoom$Device" yX0_lendsOf yX0_lendsOf ∈ AL := al_t3 27 (by decide +kernel) rfl
set_option maxRecDepth 100000 in
theorem q_553 : Cond.code yX0_lendsOf cX0_lendsOf 2 (Option.some Jvm.ClassFile.FieldType.int) ∈ AL := al_t3 28 rfl rfl
theorem q_554 : Cond.methodLink "LentRoom" 128 yX0_countOf ∈ AL := al_t3 29 (by decide +kernel) rfl
theorem q_555 : Cond.instanceMethod yX0_countOf ∈ AL := al_t3 30 (by decide +kernel) rfl
theorem q_556 : Cond.selects "LentRoom$Device" yX0_countOf yX0_countOf ∈ AL := al_t3 31 (by decide +kernel) rfl
set_option maxRecDepth 100000 in
theorem q_557 : Cond.code yX0_countOf cX0_countOf 3 (Option.some Jvm.ClassFile.FieldType.int) ∈ AL := al_t3 32 rfl rfl
theorem q_5528 : Cond.constant "LentRoomLaw" 40 (-9999001 : Int32) ∈ AL := al_t3 33 (by decide +kernel) rfl
theorem q_5529 : Cond.methodLink "LentRoomLaw" 109 yL_tryLoans ∈ AL := al_t3 34 (by decide +kernel) rfl
theorem q_5530 : Cond.static yL_tryLoans ∈ AL := al_t3 35 (by decide +kernel) rfl
set_option maxRecDepth 100000 in
theorem q_5531 : Cond.codeWith yL_tryLoans cL_tryLoans 4 (Option.some Jvm.ClassFile.FieldType.int) [((0 : Nat), (6 : Nat), (7 : Nat), (38 : Nat))] ∈ AL := al_t3 36 rfl rfl
theorem q_5532 : Cond.methodLink "LentRoomLaw" 41 yX3_loans ∈ AL := al_t3 37 (by decide +kernel) rfl
theorem q_562 : Cond.instanceMethod yX3_loans ∈ AL := al_t3 38 (by decide +kernel) rfl
theorem q_563 : Cond.selects "LentRoom" yX3_loans yX3_loans ∈ AL := al_t3 39 (by decide +kernel) rfl
set_option maxRecDepth 100000 in
theorem q_564 : Cond.code yX3_loans cX3_loans 3 (Option.some Jvm.ClassFile.FieldType.int) ∈ AL := al_t3 40 rfl rfl
theorem q_5536 : Cond.methodLink "LentRoomLaw" 112 yL_tryTime ∈ AL := al_t3 41 (by decide +kernel) rfl
theorem q_5537 : Cond.static yL_tryTime ∈ AL := al_t3 42 (by decide +kernel) rfl
set_option maxRecDepth 100000 in
theorem q_5538 : Cond.codeWith yL_tryTime cL_tryTime 4 (Option.some Jvm.ClassFile.FieldType.int) [((0 : Nat), (6 : Nat), (7 : Nat), (38 : Nat))] ∈ AL := al_t3 43 rfl rfl
theorem q_5539 : Cond.methodLink "LentRoomLaw" 44 yX3_time ∈ AL := al_t3 44 (by decide +kernel) rfl
theorem q_569 : Cond.instanceMethod yX3_time ∈ AL := al_t3 45 (by decide +kernel) rfl
theorem q_570 : Cond.selects "LentRoom" yX3_time yX3_time ∈ AL := al_t3 46 (by decide +kernel) rfl
set_option maxRecDepth 100000 in
theorem q_571 : Cond.code yX3_time cX3_time 3 (Option.some Jvm.ClassFile.FieldType.int) ∈ AL := al_t3 47 rfl rfl
theorem q_572 : Cond.methodLink "LentRoom" 135 yX3_needPage ∈ AL := al_t3 48 (by decide +kernel) rfl
theorem q_574 : Cond.instanceMethod yX3_needPage ∈ AL := al_t3 50 (by decide +kernel) rfl
set_option maxRecDepth 100000 in
theorem q_575 : Cond.code yX3_needPage cX3_needPage 3 (Option.none : Option Jvm.ClassFile.FieldType) ∈ AL := al_t3 51 rfl rfl
theorem q_576 : Cond.methodLink "LentRoom" 273 yX0_hasPage ∈ AL := al_t3 52 (by decide +kernel) rfl
theorem q_578 : Cond.methodLink "LentRoom" 139 yX0_isWritten ∈ AL := al_t3 54 (by decide +kernel) rfl
theorem q_5550 : Cond.methodLink "LentRoomLaw" 115 yL_tryOldest ∈ AL := al_t3 55 (by decide +kernel) rfl
theorem q_5551 : Cond.static yL_tryOldest ∈ AL := al_t3 56 (by decide +kernel) rfl
set_option maxRecDepth 100000 in
theorem q_5552 : Cond.codeWith yL_tryOldest cL_tryOldest 4 (Option.some Jvm.ClassFile.FieldType.int) [((0 : Nat), (6 : Nat), (7 : Nat), (38 : Nat)), ((0 : Nat), (6 : Nat), (11 : Nat), (13 : Nat))] ∈ AL := al_t3 57 rfl rfl
theorem q_5553 : Cond.methodLink "LentRoomLaw" 47 yX3_oldest ∈ AL := al_t3 58 (by decide +kernel) rfl
theorem q_583 : Cond.instanceMethod yX3_oldest ∈ AL := al_t3 59 (by decide +kernel) rfl
theorem q_584 : Cond.selects "LentRoom" yX3_oldest yX3_oldest ∈ AL := al_t3 60 (by decide +kernel) rfl
set_option maxRecDepth 100000 in
theorem q_585 : Cond.code yX3_oldest cX3_oldest 3 (Option.some Jvm.ClassFile.FieldType.int) ∈ AL := al_t3 61 rfl rfl
theorem q_587 : Cond.methodLink "LentRoom" 147 yX0_pageByAge ∈ AL := al_t3 63 (by decide +kernel) rfl
theorem q_588 : Cond.instanceMethod yX0_pageByAge ∈ AL := al_t3 64 (by decide +kernel) rfl
theorem q_589 : Cond.selects "LentRoom$Device" yX0_pageByAge yX0_pageByAge ∈ AL := al_t3 65 (by decide +kernel) rfl
set_option maxRecDepth 100000 in
theorem q_590 : Cond.code yX0_pageByAge cX0_pageByAge 5 (Option.some Jvm.ClassFile.FieldType.int) ∈ AL := al_t3 66 rfl rfl
theorem q_5562 : Cond.methodLink "LentRoomLaw" 118 yL_tryMake ∈ AL := al_t3 67 (by decide +kernel) rfl
theorem q_5563 : Cond.static yL_tryMake ∈ AL := al_t3 68 (by decide +kernel) rfl
set_option maxRecDepth 100000 in
theorem q_5564 : Cond.codeWith yL_tryMake cL_tryMake 4 (Option.some Jvm.ClassFile.FieldType.int) [((0 : Nat), (6 : Nat), (7 : Nat), (13 : Nat)), ((0 : Nat), (6 : Nat), (11 : Nat), (24 : Nat))] ∈ AL := al_t3 69 rfl rfl
theorem q_5565 : Cond.methodLink "LentRoomLaw" 50 yX3_make ∈ AL := al_t3 70 (by decide +kernel) rfl
theorem q_595 : Cond.instanceMethod yX3_make ∈ AL := al_t3 71 (by decide +kernel) rfl
theorem q_596 : Cond.selects "LentRoom" yX3_make yX3_make ∈ AL := al_t3 72 (by decide +kernel) rfl
set_option maxRecDepth 100000 in
theorem q_597 : Cond.code yX3_make cX3_make 3 (Option.some Jvm.ClassFile.FieldType.int) ∈ AL := al_t3 73 rfl rfl
theorem q_598 : Cond.methodLink "LentRoom" 150 yX0_areBounds ∈ AL := al_t3 74 (by decide +kernel) rfl
theorem q_600 : Cond.methodLink "LentRoom" 155 yX0_hasRoomForSpace ∈ AL := al_t3 76 (by decide +kernel) rfl
theorem q_602 : Cond.methodLink "LentRoom" 160 yX1_remember ∈ AL := al_t3 78 (by decide +kernel) rfl
theorem q_603 : Cond.instanceMethod yX1_remember ∈ AL := al_t3 79 (by decide +kernel) rfl
theorem q_604 : Cond.selects "LentRoom$History" yX1_remember yX1_remember ∈ AL := al_t3 80 (by decide +kernel) rfl
set_option maxRecDepth 100000 in
theorem q_605 : Cond.code yX1_remember cX1_remember 2 (Option.none : Option Jvm.ClassFile.FieldType) ∈ AL := al_t3 81 rfl rfl
theorem q_606 : Cond.methodLink "LentRoom$History" 25 yX0_become ∈ AL := al_t3 82 (by decide +kernel) rfl
theorem q_5578 : Cond.methodLink "LentRoomLaw" 121 yL_tryWrite ∈ AL := al_t3 83 (by decide +kernel) rfl
theorem q_5579 : Cond.static yL_tryWrite ∈ AL := al_t3 84 (by decide +kernel) rfl
set_option maxRecDepth 100000 in
theorem q_5580 : Cond.codeWith yL_tryWrite cL_tryWrite 4 (Option.some Jvm.ClassFile.FieldType.int) [((0 : Nat), (6 : Nat), (7 : Nat), (38 : Nat))] ∈ AL := al_t3 85 rfl rfl
theorem q_5581 : Cond.methodLink "LentRoomLaw" 53 yX3_write ∈ AL := al_t3 86 (by decide +kernel) rfl
theorem q_611 : Cond.instanceMethod yX3_write ∈ AL := al_t3 87 (by decide +kernel) rfl
theorem q_612 : Cond.selects "LentRoom" yX3_write yX3_write ∈ AL := al_t3 88 (by decide +kernel) rfl
set_option maxRecDepth 100000 in
theorem q_613 : Cond.code yX3_write cX3_write 3 (Option.some Jvm.ClassFile.FieldType.int) ∈ AL := al_t3 89 rfl rfl
theorem q_5585 : Cond.methodLink "LentRoomLaw" 124 yL_tryTrim ∈ AL := al_t3 90 (by decide +kernel) rfl
theorem q_5586 : Cond.static yL_tryTrim ∈ AL := al_t3 91 (by decide +kernel) rfl
set_option maxRecDepth 100000 in
theorem q_5587 : Cond.codeWith yL_tryTrim cL_tryTrim 4 (Option.some Jvm.ClassFile.FieldType.int) [((0 : Nat), (6 : Nat), (7 : Nat), (38 : Nat)), ((0 : Nat), (6 : Nat), (11 : Nat), (24 : Nat))] ∈ AL := al_t3 92 rfl rfl
theorem q_5588 : Cond.methodLink "LentRoomLaw" 56 yX3_trim ∈ AL := al_t3 93 (by decide +kernel) rfl
theorem q_618 : Cond.instanceMethod yX3_trim ∈ AL := al_t3 94 (by decide +kernel) rfl
theorem q_619 : Cond.selects "LentRoom" yX3_trim yX3_trim ∈ AL := al_t3 95 (by decide +kernel) rfl
set_option maxRecDepth 100000 in
theorem q_620 : Cond.code yX3_trim cX3_trim 3 (Option.some Jvm.ClassFile.FieldType.int) ∈ AL := al_t3 96 rfl rfl
theorem q_622 : Cond.methodLink "LentRoom" 165 yX0_pagesOf ∈ AL := al_t3 98 (by decide +kernel) rfl
theorem q_5594 : Cond.methodLink "LentRoomLaw" 127 yL_tryFloor ∈ AL := al_t3 99 (by decide +kernel) rfl
theorem q_5595 : Cond.static yL_tryFloor ∈ AL := al_t3 100 (by decide +kernel) rfl
set_option maxRecDepth 100000 in
theorem q_5596 : Cond.codeWith yL_tryFloor cL_tryFloor 4 (Option.some Jvm.ClassFile.FieldType.int) [((0 : Nat), (6 : Nat), (7 : Nat), (38 : Nat)), ((0 : Nat), (6 : Nat), (11 : Nat), (13 : Nat)), ((0 : Nat), (6 : Nat), (15 : Nat), (24 : Nat))] ∈ AL := al_t3 101 rfl rfl
theorem q_5597 : Cond.methodLink "LentRoomLaw" 59 yX3_setFloor ∈ AL := al_t3 102 (by decide +kernel) rfl
theorem q_627 : Cond.instanceMethod yX3_setFloor ∈ AL := al_t3 103 (by decide +kernel) rfl
theorem q_628 : Cond.selects "LentRoom" yX3_setFloor yX3_setFloor ∈ AL := al_t3 104 (by decide +kernel) rfl
set_option maxRecDepth 100000 in
theorem q_629 : Cond.code yX3_setFloor cX3_setFloor 4 (Option.some Jvm.ClassFile.FieldType.int) ∈ AL := al_t3 105 rfl rfl
theorem q_631 : Cond.methodLink "LentRoom" 170 yX0_takesFloor ∈ AL := al_t3 107 (by decide +kernel) rfl
theorem q_5604 : Cond.methodLink "LentRoomLaw" 130 yL_tryCeiling ∈ AL := al_t3 109 (by decide +kernel) rfl
theorem q_5605 : Cond.static yL_tryCeiling ∈ AL := al_t3 110 (by decide +kernel) rfl
set_option maxRecDepth 100000 in
theorem q_5606 : Cond.codeWith yL_tryCeiling cL_tryCeiling 4 (Option.some Jvm.ClassFile.FieldType.int) [((0 : Nat), (6 : Nat), (7 : Nat), (38 : Nat)), ((0 : Nat), (6 : Nat), (11 : Nat), (13 : Nat))] ∈ AL := al_t3 111 rfl rfl
theorem q_5607 : Cond.methodLink "LentRoomLaw" 62 yX3_setCeiling ∈ AL := al_t3 112 (by decide +kernel) rfl
theorem q_637 : Cond.instanceMethod yX3_setCeiling ∈ AL := al_t3 113 (by decide +kernel) rfl
theorem q_638 : Cond.selects "LentRoom" yX3_setCeiling yX3_setCeiling ∈ AL := al_t3 114 (by decide +kernel) rfl
set_option maxRecDepth 100000 in
theorem q_639 : Cond.code yX3_setCeiling cX3_setCeiling 4 (Option.some Jvm.ClassFile.FieldType.int) ∈ AL := al_t3 115 rfl rfl
theorem q_640 : Cond.methodLink "LentRoom" 179 yX0_takesCeiling ∈ AL := al_t3 116 (by decide +kernel) rfl
theorem q_641 : Cond.instanceMethod yX0_takesCeiling ∈ AL := al_t3 117 (by decide +kernel) rfl
theorem q_642 : Cond.selects "LentRoom$Device" yX0_takesCeiling yX0_takesCeiling ∈ AL := al_t3 118 (by decide +kernel) rfl
set_option maxRecDepth 100000 in
theorem q_643 : Cond.code yX0_takesCeiling cX0_takesCeiling 3 (Option.some Jvm.ClassFile.FieldType.boolean) ∈ AL := al_t3 119 rfl rfl
theorem q_645 : Cond.methodLink "LentRoom" 187 yX0_changeCeiling ∈ AL := al_t3 121 (by decide +kernel) rfl
theorem q_646 : Cond.instanceMethod yX0_changeCeiling ∈ AL := al_t3 122 (by decide +kernel) rfl
theorem q_647 : Cond.selects "LentRoom$Device" yX0_changeCeiling yX0_changeCeiling ∈ AL := al_t3 123 (by decide +kernel) rfl
set_option maxRecDepth 100000 in
theorem q_648 : Cond.code yX0_changeCeiling cX0_changeCeiling 3 (Option.some Jvm.ClassFile.FieldType.boolean) ∈ AL := al_t3 124 rfl rfl
theorem q_649 : Cond.methodLink "LentRoom$Device" 120 yX0_takesCeiling ∈ AL := al_t3 125 (by decide +kernel) rfl
theorem q_5621 : Cond.methodLink "LentRoomLaw" 133 yL_tryUndo ∈ AL := al_t3 126 (by decide +kernel) rfl
theorem q_5622 : Cond.static yL_tryUndo ∈ AL := al_t3 127 (by decide +kernel) rfl
set_option maxRecDepth 100000 in
theorem q_5623 : Cond.codeWith yL_tryUndo cL_tryUndo 2 (Option.some Jvm.ClassFile.FieldType.int) [((0 : Nat), (4 : Nat), (5 : Nat), (24 : Nat))] ∈ AL := al_t3 128 rfl rfl
theorem q_5624 : Cond.methodLink "LentRoomLaw" 65 yX3_undo ∈ AL := al_t3 129 (by decide +kernel) rfl
theorem q_654 : Cond.instanceMethod yX3_undo ∈ AL := al_t3 130 (by decide +kernel) rfl
theorem q_655 : Cond.selects "LentRoom" yX3_undo yX3_undo ∈ AL := al_t3 131 (by decide +kernel) rfl
set_option maxRecDepth 100000 in
theorem q_656 : Cond.code yX3_undo cX3_undo 1 (Option.some Jvm.ClassFile.FieldType.int) ∈ AL := al_t3 132 rfl rfl
theorem q_657 : Cond.methodLink "LentRoom" 190 yX1_isEmpty ∈ AL := al_t3 133 (by decide +kernel) rfl
theorem q_658 : Cond.instanceMethod yX1_isEmpty ∈ AL := al_t3 134 (by decide +kernel) rfl
theorem q_659 : Cond.selects "LentRoom$History" yX1_isEmpty yX1_isEmpty ∈ AL := al_t3 135 (by decide +kernel) rfl
set_option maxRecDepth 100000 in
theorem q_660 : Cond.code yX1_isEmpty cX1_isEmpty 1 (Option.some Jvm.ClassFile.FieldType.boolean) ∈ AL := al_t3 136 rfl rfl
theorem q_662 : Cond.methodLink "LentRoom" 195 yX1_takeBack ∈ AL := al_t3 138 (by decide +kernel) rfl
theorem q_663 : Cond.instanceMethod yX1_takeBack ∈ AL := al_t3 139 (by decide +kernel) rfl
theorem q_664 : Cond.selects "LentRoom$History" yX1_takeBack yX1_takeBack ∈ AL := al_t3 140 (by decide +kernel) rfl
set_option maxRecDepth 100000 in
theorem q_665 : Cond.code yX1_takeBack cX1_takeBack 2 (Option.some Jvm.ClassFile.FieldType.int) ∈ AL := al_t3 141 rfl rfl
theorem q_5637 : Cond.methodLink "LentRoomLaw" 136 yL_tryWould ∈ AL := al_t3 142 (by decide +kernel) rfl
theorem q_5638 : Cond.static yL_tryWould ∈ AL := al_t3 143 (by decide +kernel) rfl
set_option maxRecDepth 100000 in
theorem q_5639 : Cond.codeWith yL_tryWould cL_tryWould 4 (Option.some Jvm.ClassFile.FieldType.int) [((0 : Nat), (6 : Nat), (7 : Nat), (38 : Nat))] ∈ AL := al_t3 144 rfl rfl
theorem q_5640 : Cond.methodLink "LentRoomLaw" 68 yX3_would ∈ AL := al_t3 145 (by decide +kernel) rfl
theorem q_670 : Cond.instanceMethod yX3_would ∈ AL := al_t3 146 (by decide +kernel) rfl
theorem q_671 : Cond.selects "LentRoom" yX3_would yX3_would ∈ AL := al_t3 147 (by decide +kernel) rfl
set_option maxRecDepth 100000 in
theorem q_672 : Cond.code yX3_would cX3_would 3 (Option.some Jvm.ClassFile.FieldType.int) ∈ AL := al_t3 148 rfl rfl
theorem q_5644 : Cond.methodLink "LentRoomLaw" 139 yL_tryRoom ∈ AL := al_t3 149 (by decide +kernel) rfl
theorem q_5645 : Cond.static yL_tryRoom ∈ AL := al_t3 150 (by decide +kernel) rfl
set_option maxRecDepth 100000 in
theorem q_5646 : Cond.codeWith yL_tryRoom cL_tryRoom 3 (Option.some Jvm.ClassFile.FieldType.int) [((0 : Nat), (5 : Nat), (6 : Nat), (38 : Nat))] ∈ AL := al_t3 151 rfl rfl
theorem q_5647 : Cond.methodLink "LentRoomLaw" 71 yX3_room ∈ AL := al_t3 152 (by decide +kernel) rfl
theorem q_677 : Cond.instanceMethod yX3_room ∈ AL := al_t3 153 (by decide +kernel) rfl
theorem q_678 : Cond.selects "LentRoom" yX3_room yX3_room ∈ AL := al_t3 154 (by decide +kernel) rfl
set_option maxRecDepth 100000 in
theorem q_679 : Cond.code yX3_room cX3_room 2 (Option.some Jvm.ClassFile.FieldType.int) ∈ AL := al_t3 155 rfl rfl
theorem q_680 : Cond.methodLink "LentRoom" 199 yX3_growGuess ∈ AL := al_t3 156 (by decide +kernel) rfl
theorem q_682 : Cond.instanceMethod yX3_growGuess ∈ AL := al_t3 158 (by decide +kernel) rfl
set_option maxRecDepth 100000 in
theorem q_683 : Cond.code yX3_growGuess cX3_growGuess 5 (Option.some Jvm.ClassFile.FieldType.int) ∈ AL := al_t3 159 rfl rfl
theorem q_684 : Cond.methodLink "LentRoom" 208 yX0_takeBlock ∈ AL := al_t3 160 (by decide +kernel) rfl
theorem q_5656 : Cond.methodLink "LentRoomLaw" 142 yL_tryHarm ∈ AL := al_t3 161 (by decide +kernel) rfl
theorem q_5657 : Cond.static yL_tryHarm ∈ AL := al_t3 162 (by decide +kernel) rfl
set_option maxRecDepth 100000 in
theorem q_5658 : Cond.codeWith yL_tryHarm cL_tryHarm 4 (Option.some Jvm.ClassFile.FieldType.int) [((0 : Nat), (6 : Nat), (7 : Nat), (38 : Nat)), ((0 : Nat), (6 : Nat), (11 : Nat), (13 : Nat))] ∈ AL := al_t3 163 rfl rfl
theorem q_5659 : Cond.methodLink "LentRoomLaw" 74 yX3_harm ∈ AL := al_t3 164 (by decide +kernel) rfl
theorem q_689 : Cond.instanceMethod yX3_harm ∈ AL := al_t3 165 (by decide +kernel) rfl
theorem q_690 : Cond.selects "LentRoom" yX3_harm yX3_harm ∈ AL := al_t3 166 (by decide +kernel) rfl
set_option maxRecDepth 100000 in
theorem q_691 : Cond.code yX3_harm cX3_harm 3 (Option.some Jvm.ClassFile.FieldType.int) ∈ AL := al_t3 167 rfl rfl
theorem q_693 : Cond.methodLink "LentRoom" 205 yX0_lostByAll ∈ AL := al_t3 169 (by decide +kernel) rfl
theorem q_5665 : Cond.methodLink "LentRoomLaw" 145 yL_tryVictim ∈ AL := al_t3 170 (by decide +kernel) rfl
theorem q_5666 : Cond.static yL_tryVictim ∈ AL := al_t3 171 (by decide +kernel) rfl
set_option maxRecDepth 100000 in
theorem q_5667 : Cond.codeWith yL_tryVictim cL_tryVictim 3 (Option.some Jvm.ClassFile.FieldType.int) [((0 : Nat), (5 : Nat), (6 : Nat), (38 : Nat))] ∈ AL := al_t3 172 rfl rfl
theorem q_5668 : Cond.methodLink "LentRoomLaw" 77 yX3_victim ∈ AL := al_t3 173 (by decide +kernel) rfl
theorem q_698 : Cond.instanceMethod yX3_victim ∈ AL := al_t3 174 (by decide +kernel) rfl
theorem q_699 : Cond.selects "LentRoom" yX3_victim yX3_victim ∈ AL := al_t3 175 (by decide +kernel) rfl
set_option maxRecDepth 100000 in
theorem q_700 : Cond.code yX3_victim cX3_victim 4 (Option.some Jvm.ClassFile.FieldType.int) ∈ AL := al_t3 176 rfl rfl
theorem q_701 : Cond.methodLink "LentRoom" 211 yX0_firstLoserSince ∈ AL := al_t3 177 (by decide +kernel) rfl
theorem q_702 : Cond.instanceMethod yX0_firstLoserSince ∈ AL := al_t3 178 (by decide +kernel) rfl
theorem q_703 : Cond.selects "LentRoom$Device" yX0_firstLoserSince yX0_firstLoserSince ∈ AL := al_t3 179 (by decide +kernel) rfl
set_option maxRecDepth 100000 in
theorem q_704 : Cond.code yX0_firstLoserSince cX0_firstLoserSince 3 (Option.some Jvm.ClassFile.FieldType.int) ∈ AL := al_t3 180 rfl rfl
theorem q_5676 : Cond.methodLink "LentRoomLaw" 148 yL_tryMost ∈ AL := al_t3 181 (by decide +kernel) rfl
theorem q_5677 : Cond.static yL_tryMost ∈ AL := al_t3 182 (by decide +kernel) rfl
set_option maxRecDepth 100000 in
theorem q_5678 : Cond.codeWith yL_tryMost cL_tryMost 3 (Option.some Jvm.ClassFile.FieldType.int) [((0 : Nat), (5 : Nat), (6 : Nat), (38 : Nat))] ∈ AL := al_t3 183 rfl rfl
theorem q_5679 : Cond.methodLink "LentRoomLaw" 80 yX3_mostFloor ∈ AL := al_t3 184 (by decide +kernel) rfl
theorem q_709 : Cond.instanceMethod yX3_mostFloor ∈ AL := al_t3 185 (by decide +kernel) rfl
theorem q_710 : Cond.selects "LentRoom" yX3_mostFloor yX3_mostFloor ∈ AL := al_t3 186 (by decide +kernel) rfl
set_option maxRecDepth 100000 in
theorem q_711 : Cond.code yX3_mostFloor cX3_mostFloor 2 (Option.some Jvm.ClassFile.FieldType.int) ∈ AL := al_t3 187 rfl rfl
theorem q_712 : Cond.methodLink "LentRoom" 220 yX0_greatestFloor ∈ AL := al_t3 188 (by decide +kernel) rfl
theorem q_5684 : Cond.methodLink "LentRoomLaw" 151 yL_tryLeast ∈ AL := al_t3 189 (by decide +kernel) rfl
theorem q_5685 : Cond.static yL_tryLeast ∈ AL := al_t3 190 (by decide +kernel) rfl
set_option maxRecDepth 100000 in
theorem q_5686 : Cond.codeWith yL_tryLeast cL_tryLeast 3 (Option.some Jvm.ClassFile.FieldType.int) [((0 : Nat), (5 : Nat), (6 : Nat), (38 : Nat))] ∈ AL := al_t3 191 rfl rfl
theorem q_5687 : Cond.methodLink "LentRoomLaw" 83 yX3_leastFloor ∈ AL := al_t3 192 (by decide +kernel) rfl
theorem q_717 : Cond.instanceMethod yX3_leastFloor ∈ AL := al_t3 193 (by decide +kernel) rfl
theorem q_718 : Cond.selects "LentRoom" yX3_leastFloor yX3_leastFloor ∈ AL := al_t3 194 (by decide +kernel) rfl
set_option maxRecDepth 100000 in
theorem q_719 : Cond.code yX3_leastFloor cX3_leastFloor 2 (Option.some Jvm.ClassFile.FieldType.int) ∈ AL := al_t3 195 rfl rfl
theorem q_720 : Cond.methodLink "LentRoom" 223 yX0_smallestFloor ∈ AL := al_t3 196 (by decide +kernel) rfl
theorem q_5692 : Cond.methodLink "LentRoomLaw" 154 yL_tryKeep ∈ AL := al_t3 197 (by decide +kernel) rfl
theorem q_5693 : Cond.static yL_tryKeep ∈ AL := al_t3 198 (by decide +kernel) rfl
set_option maxRecDepth 100000 in
theorem q_5694 : Cond.codeWith yL_tryKeep cL_tryKeep 3 (Option.some Jvm.ClassFile.FieldType.int) [((0 : Nat), (5 : Nat), (6 : Nat), (38 : Nat))] ∈ AL := al_t3 199 rfl rfl
theorem q_5695 : Cond.methodLink "LentRoomLaw" 86 yX3_save ∈ AL := al_t3 200 (by decide +kernel) rfl
theorem q_764 : Cond.instanceMethod yX3_save ∈ AL := al_t3 201 (by decide +kernel) rfl
theorem q_765 : Cond.selects "LentRoom" yX3_save yX3_save ∈ AL := al_t3 202 (by decide +kernel) rfl
set_option maxRecDepth 100000 in
theorem q_766 : Cond.code yX3_save cX3_save 2 (Option.some Jvm.ClassFile.FieldType.int) ∈ AL := al_t3 203 rfl rfl
theorem q_767 : Cond.methodLink "LentRoom" 263 yX3_needSlot ∈ AL := al_t3 204 (by decide +kernel) rfl
theorem q_768 : Cond.static yX3_needSlot ∈ AL := al_t3 205 (by decide +kernel) rfl
set_option maxRecDepth 100000 in
theorem q_769 : Cond.code yX3_needSlot cX3_needSlot 1 (Option.none : Option Jvm.ClassFile.FieldType) ∈ AL := al_t3 206 rfl rfl
theorem q_759 : Cond.methodLink "LentRoom" 255 yX0_pagesOfAll ∈ AL := al_t3 208 (by decide +kernel) rfl
theorem q_5704 : Cond.methodLink "LentRoomLaw" 157 yL_tryBack ∈ AL := al_t3 209 (by decide +kernel) rfl
theorem q_5705 : Cond.static yL_tryBack ∈ AL := al_t3 210 (by decide +kernel) rfl
set_option maxRecDepth 100000 in
theorem q_5706 : Cond.codeWith yL_tryBack cL_tryBack 3 (Option.some Jvm.ClassFile.FieldType.int) [((0 : Nat), (5 : Nat), (6 : Nat), (38 : Nat)), ((0 : Nat), (5 : Nat), (10 : Nat), (24 : Nat))] ∈ AL := al_t3 211 rfl rfl
theorem q_5707 : Cond.methodLink "LentRoomLaw" 89 yX3_restore ∈ AL := al_t3 212 (by decide +kernel) rfl
theorem q_775 : Cond.instanceMethod yX3_restore ∈ AL := al_t3 213 (by decide +kernel) rfl
theorem q_776 : Cond.selects "LentRoom" yX3_restore yX3_restore ∈ AL := al_t3 214 (by decide +kernel) rfl
set_option maxRecDepth 100000 in
theorem q_777 : Cond.code yX3_restore cX3_restore 2 (Option.some Jvm.ClassFile.FieldType.int) ∈ AL := al_t3 215 rfl rfl
theorem q_5712 : Cond.methodLink "LentRoomLaw" 184 yL_cell ∈ AL := al_t3 217 (by decide +kernel) rfl
theorem q_5713 : Cond.static yL_cell ∈ AL := al_t3 218 (by decide +kernel) rfl
set_option maxRecDepth 100000 in
theorem q_5714 : Cond.code yL_cell cL_cell 2 (Option.some Jvm.ClassFile.FieldType.int) ∈ AL := al_t3 219 rfl rfl
theorem q_5715 : Cond.constant "LentRoomLaw" 160 (15518563 : Int32) ∈ AL := al_t3 220 (by decide +kernel) rfl
theorem q_5716 : Cond.constant "LentRoomLaw" 161 (2147483647 : Int32) ∈ AL := al_t3 221 (by decide +kernel) rfl
theorem q_5717 : Cond.methodLink "LentRoomLaw" 202 yL_thrown ∈ AL := al_t3 222 (by decide +kernel) rfl
theorem q_5718 : Cond.static yL_thrown ∈ AL := al_t3 223 (by decide +kernel) rfl
set_option maxRecDepth 100000 in
theorem q_5719 : Cond.code yL_thrown cL_thrown 1 (Option.some Jvm.ClassFile.FieldType.boolean) ∈ AL := al_t3 224 rfl rfl
theorem q_5720 : Cond.methodLink "LentRoomLaw" 192 yL_refuses ∈ AL := al_t3 225 (by decide +kernel) rfl
theorem q_5721 : Cond.static yL_refuses ∈ AL := al_t3 226 (by decide +kernel) rfl
set_option maxRecDepth 100000 in
theorem q_5722 : Cond.code yL_refuses cL_refuses 4 (Option.some Jvm.ClassFile.FieldType.boolean) ∈ AL := al_t3 227 rfl rfl
theorem q_5723 : Cond.methodLink "LentRoomLaw" 166 yL_tryScript ∈ AL := al_t3 228 (by decide +kernel) rfl
theorem q_5724 : Cond.static yL_tryScript ∈ AL := al_t3 229 (by decide +kernel) rfl
set_option maxRecDepth 100000 in
theorem q_5725 : Cond.codeWith yL_tryScript cL_tryScript 5 (Option.some Jvm.ClassFile.FieldType.int) [((0 : Nat), (6 : Nat), (7 : Nat), (13 : Nat))] ∈ AL := al_t3 230 rfl rfl
theorem q_5726 : Cond.methodLink "LentRoomLaw" 7 yX3_runScript ∈ AL := al_t3 231 (by decide +kernel) rfl
theorem q_725 : Cond.instanceMethod yX3_runScript ∈ AL := al_t3 232 (by decide +kernel) rfl
theorem q_726 : Cond.selects "LentRoom" yX3_runScript yX3_runScript ∈ AL := al_t3 233 (by decide +kernel) rfl
set_option maxRecDepth 100000 in
theorem q_727 : Cond.code yX3_runScript cX3_runScript 6 (Option.some Jvm.ClassFile.FieldType.int) ∈ AL := al_t3 234 rfl rfl
theorem q_729 : Cond.methodLink "LentRoom" 228 yX3_withoutGroups ∈ AL := al_t3 236 (by decide +kernel) rfl
theorem q_730 : Cond.static yX3_withoutGroups ∈ AL := al_t3 237 (by decide +kernel) rfl
set_option maxRecDepth 100000 in
theorem q_731 : Cond.code yX3_withoutGroups cX3_withoutGroups 6 (Option.some Jvm.ClassFile.FieldType.long) ∈ AL := al_t3 238 rfl rfl
theorem q_732 : Cond.constantLong "LentRoom" 234 (100000) ∈ AL := al_t3 239 (by decide +kernel) rfl
theorem q_734 : Cond.methodLink "LentRoom" 236 yX3_obeyGroup ∈ AL := al_t4 1 (by decide +kernel) rfl
theorem q_736 : Cond.instanceMethod yX3_obeyGroup ∈ AL := al_t4 3 (by decide +kernel) rfl
set_option maxRecDepth 100000 in
theorem q_737 : Cond.code yX3_obeyGroup cX3_obeyGroup 6 (Option.some Jvm.ClassFile.FieldType.boolean) ∈ AL := al_t4 4 rfl rfl
theorem q_738 : Cond.methodLink "LentRoom" 242 yX3_obeyForSpace ∈ AL := al_t4 5 (by decide +kernel) rfl
theorem q_740 : Cond.instanceMethod yX3_obeyForSpace ∈ AL := al_t4 7 (by decide +kernel) rfl
set_option maxRecDepth 100000 in
theorem q_741 : Cond.code yX3_obeyForSpace cX3_obeyForSpace 5 (Option.some Jvm.ClassFile.FieldType.boolean) ∈ AL := al_t4 8 rfl rfl
theorem q_5744 : Cond.constantLong "LentRoomLaw" 170 (100000) ∈ AL := al_t4 9 (by decide +kernel) rfl
theorem q_5745 : Cond.methodLink "LentRoomLaw" 172 yL_trySimulate ∈ AL := al_t4 10 (by decide +kernel) rfl
theorem q_5746 : Cond.static yL_trySimulate ∈ AL := al_t4 11 (by decide +kernel) rfl
set_option maxRecDepth 100000 in
theorem q_5747 : Cond.codeWith yL_trySimulate cL_trySimulate 5 (Option.some Jvm.ClassFile.FieldType.int) [((0 : Nat), (6 : Nat), (7 : Nat), (13 : Nat))] ∈ AL := al_t4 12 rfl rfl
theorem q_5748 : Cond.methodLink "LentRoomLaw" 16 yX3_simulate ∈ AL := al_t4 13 (by decide +kernel) rfl
theorem q_746 : Cond.instanceMethod yX3_simulate ∈ AL := al_t4 14 (by decide +kernel) rfl
theorem q_747 : Cond.selects "LentRoom" yX3_simulate yX3_simulate ∈ AL := al_t4 15 (by decide +kernel) rfl
set_option maxRecDepth 100000 in
theorem q_748 : Cond.code yX3_simulate cX3_simulate 7 (Option.some Jvm.ClassFile.FieldType.int) ∈ AL := al_t4 16 rfl rfl
theorem q_750 : Cond.constantLong "LentRoom" 248 (6364136223846793005) ∈ AL := al_t4 18 (by decide +kernel) rfl
theorem q_751 : Cond.constantLong "LentRoom" 250 (1442695040888963407) ∈ AL := al_t4 19 (by decide +kernel) rfl
theorem q_752 : Cond.methodLink "LentRoom" 252 yX3_takeTurn ∈ AL := al_t4 20 (by decide +kernel) rfl
theorem q_754 : Cond.instanceMethod yX3_takeTurn ∈ AL := al_t4 22 (by decide +kernel) rfl
set_option maxRecDepth 100000 in
theorem q_755 : Cond.code yX3_takeTurn cX3_takeTurn 5 (Option.none : Option Jvm.ClassFile.FieldType) ∈ AL := al_t4 23 rfl rfl
theorem q_756 : Cond.methodLink "LentRoom" 258 yJ9_max_7cf53 ∈ AL := al_t4 24 (by decide +kernel) rfl
theorem q_757 : Cond.static yJ9_max_7cf53 ∈ AL := al_t4 25 (by decide +kernel) rfl
set_option maxRecDepth 100000 in
theorem q_758 : Cond.code yJ9_max_7cf53 cJ9_max_7cf53 2 (Option.some Jvm.ClassFile.FieldType.int) ∈ AL := al_t4 26 rfl rfl
theorem q_5762 : Cond.methodLink "LentRoomLaw" 199 yL_holds ∈ AL := al_t4 27 (by decide +kernel) rfl
theorem q_5763 : Cond.static yL_holds ∈ AL := al_t4 28 (by decide +kernel) rfl
set_option maxRecDepth 100000 in
theorem q_5764 : Cond.code yL_holds cL_holds 16 (Option.some Jvm.ClassFile.FieldType.boolean) ∈ AL := al_t4 29 rfl rfl
theorem q_5765 : Cond.methodLink "LentRoomLaw" 176 yX3_noisy ∈ AL := al_t4 30 (by decide +kernel) rfl
theorem q_258 : Cond.instanceMethod yX3_noisy ∈ AL := al_t4 31 (by decide +kernel) rfl
theorem q_259 : Cond.selects "LentRoom" yX3_noisy yX3_noisy ∈ AL := al_t4 32 (by decide +kernel) rfl
set_option maxRecDepth 100000 in
theorem q_260 : Cond.code yX3_noisy cX3_noisy 3 (Option.some Jvm.ClassFile.FieldType.int) ∈ AL := al_t4 33 rfl rfl
theorem q_261 : Cond.methodLink "LentRoom" 217 yX0_noiseOf ∈ AL := al_t4 34 (by decide +kernel) rfl
theorem q_262 : Cond.instanceMethod yX0_noiseOf ∈ AL := al_t4 35 (by decide +kernel) rfl
theorem q_263 : Cond.selects "LentRoom$Device" yX0_noiseOf yX0_noiseOf ∈ AL := al_t4 36 (by decide +kernel) rfl
set_option maxRecDepth 100000 in
theorem q_264 : Cond.code yX0_noiseOf cX0_noiseOf 2 (Option.some Jvm.ClassFile.FieldType.int) ∈ AL := al_t4 37 rfl rfl
theorem q_5773 : Cond.methodLink "LentRoomLaw" 179 yL_wouldTake ∈ AL := al_t4 38 (by decide +kernel) rfl
theorem q_5774 : Cond.static yL_wouldTake ∈ AL := al_t4 39 (by decide +kernel) rfl
set_option maxRecDepth 100000 in
theorem q_5775 : Cond.code yL_wouldTake cL_wouldTake 3 (Option.some Jvm.ClassFile.FieldType.boolean) ∈ AL := al_t4 40 rfl rfl
theorem q_5776 : Cond.methodLink "LentRoomLaw" 188 yL_act ∈ AL := al_t4 41 (by decide +kernel) rfl
theorem q_5777 : Cond.static yL_act ∈ AL := al_t4 42 (by decide +kernel) rfl
set_option maxRecDepth 100000 in
theorem q_5778 : Cond.code yL_act cL_act 5 (Option.some Jvm.ClassFile.FieldType.int) ∈ AL := al_t4 43 rfl rfl
theorem q_5779 : Cond.methodLink "LentRoomLaw" 195 yL_alike ∈ AL := al_t4 44 (by decide +kernel) rfl
theorem q_5780 : Cond.static yL_alike ∈ AL := al_t4 45 (by decide +kernel) rfl
set_option maxRecDepth 100000 in
theorem q_5781 : Cond.code yL_alike cL_alike 7 (Option.some Jvm.ClassFile.FieldType.boolean) ∈ AL := al_t4 46 rfl rfl
theorem q_5782 : Cond.constant "LentRoomLaw" 191 (100000 : Int32) ∈ AL := al_t4 47 (by decide +kernel) rfl
theorem q_1080 : Cond.sameMethod "java/lang/Throwable" "java/lang/Throwable" "fillInStackTrace" "(I)Ljava/lang/Throwable;" ∈ AL := al_t4 48 (by decide +kernel) rfl
theorem q_1081 : Cond.fieldLink "java/lang/String" 9 "java/lang/String" "value" "[B" ∈ AL := al_t4 49 (by decide +kernel) rfl
theorem q_1082 : Cond.fieldLink "java/lang/String" 15 "java/lang/String" "coder" "B" ∈ AL := al_t4 50 (by decide +kernel) rfl
theorem uin0 : ∀ w ∈ u_ws RX0 TX0 11, w ∈ AL := by decide +kernel
theorem uin1 : ∀ w ∈ u_ws RX1 TX1 3, w ∈ AL := by decide +kernel
theorem uin2 : ∀ w ∈ u_ws RX2 TX2 2, w ∈ AL := by decide +kernel
theorem uin3 : ∀ w ∈ u_ws RX3 TX3 8, w ∈ AL := by decide +kernel
