-- ===== PART A: goes FIRST, ahead of the names: the tables' words, and 'selects' of the private methods out of them =====
/-- a private method of a class that the tables say can be made, by its rows of tables_1 -/
def lw_okq (q : MethodName × Nat) : Prop := (q.1.cls ≠ "java/lang/invoke/MethodHandle" ∧ q.1.cls ≠ "java/lang/invoke/VarHandle") ∧ Cond.instantiable q.1.cls q.2 ∈ tables_1 ∧ Cond.privateMethod q.1 ∈ tables_1 ∧ Cond.instanceMethod q.1 ∈ tables_1
theorem lw_p0 : lw_okq (⟨"LentRoom$Text", "fits", "(CI)Z"⟩, 2) := ⟨⟨by decide +kernel, by decide +kernel⟩, List.mem_of_getElem? (i := 27) (by decide +kernel), List.mem_of_getElem? (i := 200) (by decide +kernel), List.mem_of_getElem? (i := 201) (by decide +kernel)⟩
theorem lw_p1 : lw_okq (⟨"java/lang/Throwable", "fillInStackTrace", "(I)Ljava/lang/Throwable;"⟩, 6) := ⟨⟨by decide +kernel, by decide +kernel⟩, List.mem_of_getElem? (i := 284) (by decide +kernel), List.mem_of_getElem? (i := 282) (by decide +kernel), List.mem_of_getElem? (i := 283) (by decide +kernel)⟩
theorem lw_p2 : lw_okq (⟨"LentRoom", "obeyText", "(I)Z"⟩, 8) := ⟨⟨by decide +kernel, by decide +kernel⟩, List.mem_of_getElem? (i := 19) (by decide +kernel), List.mem_of_getElem? (i := 364) (by decide +kernel), List.mem_of_getElem? (i := 365) (by decide +kernel)⟩
theorem lw_p3 : lw_okq (⟨"LentRoom$Device", "recallLoan", "(I)V"⟩, 11) := ⟨⟨by decide +kernel, by decide +kernel⟩, List.mem_of_getElem? (i := 42) (by decide +kernel), List.mem_of_getElem? (i := 417) (by decide +kernel), List.mem_of_getElem? (i := 418) (by decide +kernel)⟩
theorem lw_p4 : lw_okq (⟨"LentRoom$Device", "greatestBorrower", "(I)I"⟩, 11) := ⟨⟨by decide +kernel, by decide +kernel⟩, List.mem_of_getElem? (i := 42) (by decide +kernel), List.mem_of_getElem? (i := 421) (by decide +kernel), List.mem_of_getElem? (i := 422) (by decide +kernel)⟩
theorem lw_p5 : lw_okq (⟨"LentRoom$Device", "idlestBut", "(II)I"⟩, 11) := ⟨⟨by decide +kernel, by decide +kernel⟩, List.mem_of_getElem? (i := 42) (by decide +kernel), List.mem_of_getElem? (i := 425) (by decide +kernel), List.mem_of_getElem? (i := 426) (by decide +kernel)⟩
theorem lw_p6 : lw_okq (⟨"LentRoom$Device", "loseOldest", "(I)V"⟩, 11) := ⟨⟨by decide +kernel, by decide +kernel⟩, List.mem_of_getElem? (i := 42) (by decide +kernel), List.mem_of_getElem? (i := 429) (by decide +kernel), List.mem_of_getElem? (i := 430) (by decide +kernel)⟩
theorem lw_p7 : lw_okq (⟨"LentRoom$Device", "oldestAfter", "(II)I"⟩, 11) := ⟨⟨by decide +kernel, by decide +kernel⟩, List.mem_of_getElem? (i := 42) (by decide +kernel), List.mem_of_getElem? (i := 433) (by decide +kernel), List.mem_of_getElem? (i := 434) (by decide +kernel)⟩
theorem lw_p8 : lw_okq (⟨"LentRoom$Device", "greatestLender", "(I)I"⟩, 11) := ⟨⟨by decide +kernel, by decide +kernel⟩, List.mem_of_getElem? (i := 42) (by decide +kernel), List.mem_of_getElem? (i := 441) (by decide +kernel), List.mem_of_getElem? (i := 442) (by decide +kernel)⟩
theorem lw_p9 : lw_okq (⟨"LentRoom", "needSpace", "(I)V"⟩, 8) := ⟨⟨by decide +kernel, by decide +kernel⟩, List.mem_of_getElem? (i := 19) (by decide +kernel), List.mem_of_getElem? (i := 497) (by decide +kernel), List.mem_of_getElem? (i := 498) (by decide +kernel)⟩
theorem lw_p10 : lw_okq (⟨"LentRoom", "needPage", "(II)V"⟩, 8) := ⟨⟨by decide +kernel, by decide +kernel⟩, List.mem_of_getElem? (i := 19) (by decide +kernel), List.mem_of_getElem? (i := 544) (by decide +kernel), List.mem_of_getElem? (i := 545) (by decide +kernel)⟩
theorem lw_p11 : lw_okq (⟨"LentRoom", "growGuess", "(LLentRoom$Device;II)I"⟩, 8) := ⟨⟨by decide +kernel, by decide +kernel⟩, List.mem_of_getElem? (i := 19) (by decide +kernel), List.mem_of_getElem? (i := 652) (by decide +kernel), List.mem_of_getElem? (i := 653) (by decide +kernel)⟩
theorem lw_p12 : lw_okq (⟨"LentRoom", "obeyGroup", "(I)Z"⟩, 8) := ⟨⟨by decide +kernel, by decide +kernel⟩, List.mem_of_getElem? (i := 19) (by decide +kernel), List.mem_of_getElem? (i := 706) (by decide +kernel), List.mem_of_getElem? (i := 707) (by decide +kernel)⟩
theorem lw_p13 : lw_okq (⟨"LentRoom", "obeyForSpace", "(III)Z"⟩, 8) := ⟨⟨by decide +kernel, by decide +kernel⟩, List.mem_of_getElem? (i := 19) (by decide +kernel), List.mem_of_getElem? (i := 710) (by decide +kernel), List.mem_of_getElem? (i := 711) (by decide +kernel)⟩
theorem lw_p14 : lw_okq (⟨"LentRoom", "takeTurn", "(I)V"⟩, 8) := ⟨⟨by decide +kernel, by decide +kernel⟩, List.mem_of_getElem? (i := 19) (by decide +kernel), List.mem_of_getElem? (i := 724) (by decide +kernel), List.mem_of_getElem? (i := 725) (by decide +kernel)⟩
theorem lw_p15 : lw_okq (⟨"LentRoomModel", "refused", "(I)Z"⟩, 13) := ⟨⟨by decide +kernel, by decide +kernel⟩, List.mem_of_getElem? (i := 751) (by decide +kernel), List.mem_of_getElem? (i := 809) (by decide +kernel), List.mem_of_getElem? (i := 810) (by decide +kernel)⟩
def lw_privs_1 : List (MethodName × Nat) := [(⟨"LentRoom$Text", "fits", "(CI)Z"⟩, 2), (⟨"java/lang/Throwable", "fillInStackTrace", "(I)Ljava/lang/Throwable;"⟩, 6), (⟨"LentRoom", "obeyText", "(I)Z"⟩, 8), (⟨"LentRoom$Device", "recallLoan", "(I)V"⟩, 11), (⟨"LentRoom$Device", "greatestBorrower", "(I)I"⟩, 11), (⟨"LentRoom$Device", "idlestBut", "(II)I"⟩, 11), (⟨"LentRoom$Device", "loseOldest", "(I)V"⟩, 11), (⟨"LentRoom$Device", "oldestAfter", "(II)I"⟩, 11), (⟨"LentRoom$Device", "greatestLender", "(I)I"⟩, 11), (⟨"LentRoom", "needSpace", "(I)V"⟩, 8), (⟨"LentRoom", "needPage", "(II)V"⟩, 8), (⟨"LentRoom", "growGuess", "(LLentRoom$Device;II)I"⟩, 8), (⟨"LentRoom", "obeyGroup", "(I)Z"⟩, 8), (⟨"LentRoom", "obeyForSpace", "(III)Z"⟩, 8), (⟨"LentRoom", "takeTurn", "(I)V"⟩, 8), (⟨"LentRoomModel", "refused", "(I)Z"⟩, 13)]
theorem lw_r1 : ∀ q ∈ lw_privs_1, lw_okq q := List.forall_mem_cons.mpr ⟨lw_p0, List.forall_mem_cons.mpr ⟨lw_p1, List.forall_mem_cons.mpr ⟨lw_p2, List.forall_mem_cons.mpr ⟨lw_p3, List.forall_mem_cons.mpr ⟨lw_p4, List.forall_mem_cons.mpr ⟨lw_p5, List.forall_mem_cons.mpr ⟨lw_p6, List.forall_mem_cons.mpr ⟨lw_p7, List.forall_mem_cons.mpr ⟨lw_p8, List.forall_mem_cons.mpr ⟨lw_p9, List.forall_mem_cons.mpr ⟨lw_p10, List.forall_mem_cons.mpr ⟨lw_p11, List.forall_mem_cons.mpr ⟨lw_p12, List.forall_mem_cons.mpr ⟨lw_p13, List.forall_mem_cons.mpr ⟨lw_p14, List.forall_mem_cons.mpr ⟨lw_p15, fun _ h => absurd h List.not_mem_nil⟩⟩⟩⟩⟩⟩⟩⟩⟩⟩⟩⟩⟩⟩⟩⟩
theorem lw_p16 : lw_okq (⟨"LentRoomModel", "readText", "([I)I"⟩, 13) := ⟨⟨by decide +kernel, by decide +kernel⟩, List.mem_of_getElem? (i := 751) (by decide +kernel), List.mem_of_getElem? (i := 821) (by decide +kernel), List.mem_of_getElem? (i := 822) (by decide +kernel)⟩
theorem lw_p17 : lw_okq (⟨"LentRoomModel", "readCommand", "([I)Z"⟩, 13) := ⟨⟨by decide +kernel, by decide +kernel⟩, List.mem_of_getElem? (i := 751) (by decide +kernel), List.mem_of_getElem? (i := 825) (by decide +kernel), List.mem_of_getElem? (i := 826) (by decide +kernel)⟩
theorem lw_p18 : lw_okq (⟨"LentRoomModel", "figures", "(IIII)I"⟩, 13) := ⟨⟨by decide +kernel, by decide +kernel⟩, List.mem_of_getElem? (i := 751) (by decide +kernel), List.mem_of_getElem? (i := 829) (by decide +kernel), List.mem_of_getElem? (i := 830) (by decide +kernel)⟩
theorem lw_p19 : lw_okq (⟨"LentRoomModel", "leftOut", "(Z)V"⟩, 13) := ⟨⟨by decide +kernel, by decide +kernel⟩, List.mem_of_getElem? (i := 751) (by decide +kernel), List.mem_of_getElem? (i := 853) (by decide +kernel), List.mem_of_getElem? (i := 854) (by decide +kernel)⟩
theorem lw_p20 : lw_okq (⟨"LentRoomModel", "writeOn", "([III)I"⟩, 13) := ⟨⟨by decide +kernel, by decide +kernel⟩, List.mem_of_getElem? (i := 751) (by decide +kernel), List.mem_of_getElem? (i := 860) (by decide +kernel), List.mem_of_getElem? (i := 861) (by decide +kernel)⟩
theorem lw_p21 : lw_okq (⟨"LentRoomModel", "need", "([II)I"⟩, 13) := ⟨⟨by decide +kernel, by decide +kernel⟩, List.mem_of_getElem? (i := 751) (by decide +kernel), List.mem_of_getElem? (i := 864) (by decide +kernel), List.mem_of_getElem? (i := 865) (by decide +kernel)⟩
theorem lw_p22 : lw_okq (⟨"LentRoomModel", "recall", "([II)V"⟩, 13) := ⟨⟨by decide +kernel, by decide +kernel⟩, List.mem_of_getElem? (i := 751) (by decide +kernel), List.mem_of_getElem? (i := 880) (by decide +kernel), List.mem_of_getElem? (i := 881) (by decide +kernel)⟩
theorem lw_p23 : lw_okq (⟨"LentRoomModel", "doesFloor", "([III)Z"⟩, 13) := ⟨⟨by decide +kernel, by decide +kernel⟩, List.mem_of_getElem? (i := 751) (by decide +kernel), List.mem_of_getElem? (i := 902) (by decide +kernel), List.mem_of_getElem? (i := 903) (by decide +kernel)⟩
theorem lw_p24 : lw_okq (⟨"LentRoomModel", "doesWrites", "([IIII)Z"⟩, 13) := ⟨⟨by decide +kernel, by decide +kernel⟩, List.mem_of_getElem? (i := 751) (by decide +kernel), List.mem_of_getElem? (i := 918) (by decide +kernel), List.mem_of_getElem? (i := 919) (by decide +kernel)⟩
theorem lw_p25 : lw_okq (⟨"LentRoomModel", "remember", "()V"⟩, 13) := ⟨⟨by decide +kernel, by decide +kernel⟩, List.mem_of_getElem? (i := 751) (by decide +kernel), List.mem_of_getElem? (i := 962) (by decide +kernel), List.mem_of_getElem? (i := 963) (by decide +kernel)⟩
theorem lw_p26 : lw_okq (⟨"LentRoomModel", "go", "([III)I"⟩, 13) := ⟨⟨by decide +kernel, by decide +kernel⟩, List.mem_of_getElem? (i := 751) (by decide +kernel), List.mem_of_getElem? (i := 997) (by decide +kernel), List.mem_of_getElem? (i := 998) (by decide +kernel)⟩
theorem lw_p27 : lw_okq (⟨"LentRoomModel", "command", "(IIII)Z"⟩, 13) := ⟨⟨by decide +kernel, by decide +kernel⟩, List.mem_of_getElem? (i := 751) (by decide +kernel), List.mem_of_getElem? (i := 1027) (by decide +kernel), List.mem_of_getElem? (i := 1028) (by decide +kernel)⟩
theorem lw_p28 : lw_okq (⟨"LentRoomModel", "turn", "(I)V"⟩, 13) := ⟨⟨by decide +kernel, by decide +kernel⟩, List.mem_of_getElem? (i := 751) (by decide +kernel), List.mem_of_getElem? (i := 1038) (by decide +kernel), List.mem_of_getElem? (i := 1039) (by decide +kernel)⟩
def lw_privs_2 : List (MethodName × Nat) := [(⟨"LentRoomModel", "readText", "([I)I"⟩, 13), (⟨"LentRoomModel", "readCommand", "([I)Z"⟩, 13), (⟨"LentRoomModel", "figures", "(IIII)I"⟩, 13), (⟨"LentRoomModel", "leftOut", "(Z)V"⟩, 13), (⟨"LentRoomModel", "writeOn", "([III)I"⟩, 13), (⟨"LentRoomModel", "need", "([II)I"⟩, 13), (⟨"LentRoomModel", "recall", "([II)V"⟩, 13), (⟨"LentRoomModel", "doesFloor", "([III)Z"⟩, 13), (⟨"LentRoomModel", "doesWrites", "([IIII)Z"⟩, 13), (⟨"LentRoomModel", "remember", "()V"⟩, 13), (⟨"LentRoomModel", "go", "([III)I"⟩, 13), (⟨"LentRoomModel", "command", "(IIII)Z"⟩, 13), (⟨"LentRoomModel", "turn", "(I)V"⟩, 13)]
theorem lw_r2 : ∀ q ∈ lw_privs_2, lw_okq q := List.forall_mem_cons.mpr ⟨lw_p16, List.forall_mem_cons.mpr ⟨lw_p17, List.forall_mem_cons.mpr ⟨lw_p18, List.forall_mem_cons.mpr ⟨lw_p19, List.forall_mem_cons.mpr ⟨lw_p20, List.forall_mem_cons.mpr ⟨lw_p21, List.forall_mem_cons.mpr ⟨lw_p22, List.forall_mem_cons.mpr ⟨lw_p23, List.forall_mem_cons.mpr ⟨lw_p24, List.forall_mem_cons.mpr ⟨lw_p25, List.forall_mem_cons.mpr ⟨lw_p26, List.forall_mem_cons.mpr ⟨lw_p27, List.forall_mem_cons.mpr ⟨lw_p28, fun _ h => absurd h List.not_mem_nil⟩⟩⟩⟩⟩⟩⟩⟩⟩⟩⟩⟩⟩
def lw_privs : List (MethodName × Nat) := lw_privs_1 ++ (lw_privs_2)
def lw_tbl : List Cond := k2_sels lw_privs ++ tables_1
theorem lw_privs_ok : ∀ q ∈ lw_privs, lw_okq q := by
  show ∀ q ∈ lw_privs_1 ++ (lw_privs_2), lw_okq q
  exact List.forall_mem_append.mpr ⟨lw_r1, lw_r2⟩
def RX0 : String := "LentRoom$Device"
def TX0 : u_T := fun k => match k with
  | 0 => ("LentRoom$Device", "spaces", "I", false)
  | 1 => ("LentRoom$Device", "clock", "I", false)
  | 2 => ("LentRoom$Device", "floor", "[I", true)
  | 3 => ("LentRoom$Device", "ceiling", "[I", true)
  | 4 => ("LentRoom$Device", "own", "[I", true)
  | 5 => ("LentRoom$Device", "common", "[I", true)
  | 6 => ("LentRoom$Device", "loan", "[[I", true)
  | 7 => ("LentRoom$Device", "written", "[[I", true)
  | 8 => ("LentRoom$Device", "recalls", "[I", true)
  | 9 => ("LentRoom$Device", "lost", "[I", true)
  | _ => ("LentRoom$Device", "refused", "[I", true)
def tyX0 : Nat → FieldType := fun k => match k with
  | 0 => .int
  | 1 => .int
  | 2 => .array .int
  | 3 => .array .int
  | 4 => .array .int
  | 5 => .array .int
  | 6 => .array (.array .int)
  | 7 => .array (.array .int)
  | 8 => .array .int
  | 9 => .array .int
  | _ => .array .int
theorem nmX0 : ∀ a, a < 11 → ∀ b, b < 11 → a ≠ b → (TX0 a).2.1 ≠ (TX0 b).2.1 := by decide +kernel
theorem tyX0_ok : ∀ k, k < 11 → parseFieldDescriptor (TX0 k).2.2.1 = some (tyX0 k) := by decide +kernel
abbrev cX0_init : ByteArray := prog_2_method_1_code
def yX0_init : MethodName := ⟨RX0, "<init>", "()V"⟩
abbrev cX0_become : ByteArray := prog_2_method_2_code
def yX0_become : MethodName := ⟨RX0, "become", "(LLentRoom$Device;)V"⟩
abbrev cX0_copyRow : ByteArray := prog_2_method_3_code
def yX0_copyRow : MethodName := ⟨RX0, "copyRow", "([I[I)V"⟩
abbrev cX0_sum : ByteArray := prog_2_method_4_code
def yX0_sum : MethodName := ⟨RX0, "sum", "([I)I"⟩
abbrev cX0_hasSpace : ByteArray := prog_2_method_5_code
def yX0_hasSpace : MethodName := ⟨RX0, "hasSpace", "(I)Z"⟩
abbrev cX0_hasPage : ByteArray := prog_2_method_6_code
def yX0_hasPage : MethodName := ⟨RX0, "hasPage", "(II)Z"⟩
abbrev cX0_isWritten : ByteArray := prog_2_method_7_code
def yX0_isWritten : MethodName := ⟨RX0, "isWritten", "(II)Z"⟩
abbrev cX0_pagesOf : ByteArray := prog_2_method_8_code
def yX0_pagesOf : MethodName := ⟨RX0, "pagesOf", "(I)I"⟩
abbrev cX0_pagesOfAll : ByteArray := prog_2_method_9_code
def yX0_pagesOfAll : MethodName := ⟨RX0, "pagesOfAll", "()I"⟩
abbrev cX0_idleOf : ByteArray := prog_2_method_10_code
def yX0_idleOf : MethodName := ⟨RX0, "idleOf", "(I)I"⟩
abbrev cX0_lendsOf : ByteArray := prog_2_method_11_code
def yX0_lendsOf : MethodName := ⟨RX0, "lendsOf", "(I)I"⟩
abbrev cX0_commonRoom : ByteArray := prog_2_method_12_code
def yX0_commonRoom : MethodName := ⟨RX0, "commonRoom", "()I"⟩
abbrev cX0_freeCommonRoom : ByteArray := prog_2_method_13_code
def yX0_freeCommonRoom : MethodName := ⟨RX0, "freeCommonRoom", "()I"⟩
abbrev cX0_loansOfAll : ByteArray := prog_2_method_14_code
def yX0_loansOfAll : MethodName := ⟨RX0, "loansOfAll", "()I"⟩
abbrev cX0_lostByAll : ByteArray := prog_2_method_15_code
def yX0_lostByAll : MethodName := ⟨RX0, "lostByAll", "()I"⟩
abbrev cX0_noiseOf : ByteArray := prog_2_method_16_code
def yX0_noiseOf : MethodName := ⟨RX0, "noiseOf", "(I)I"⟩
abbrev cX0_firstLoserSince : ByteArray := prog_2_method_17_code
def yX0_firstLoserSince : MethodName := ⟨RX0, "firstLoserSince", "(LLentRoom$Device;)I"⟩
abbrev cX0_numberOfAll : ByteArray := prog_2_method_18_code
def yX0_numberOfAll : MethodName := ⟨RX0, "numberOfAll", "(I)I"⟩
abbrev cX0_sizeOf : ByteArray := prog_2_method_19_code
def yX0_sizeOf : MethodName := ⟨RX0, "sizeOf", "(II)I"⟩
abbrev cX0_countOf : ByteArray := prog_2_method_20_code
def yX0_countOf : MethodName := ⟨RX0, "countOf", "(II)I"⟩
abbrev cX0_pageByAge : ByteArray := prog_2_method_21_code
def yX0_pageByAge : MethodName := ⟨RX0, "pageByAge", "(II)I"⟩
abbrev cX0_oldestAfter : ByteArray := prog_2_method_22_code
def yX0_oldestAfter : MethodName := ⟨RX0, "oldestAfter", "(II)I"⟩
abbrev cX0_areBounds : ByteArray := prog_2_method_23_code
def yX0_areBounds : MethodName := ⟨RX0, "areBounds", "(II)Z"⟩
abbrev cX0_hasRoomForSpace : ByteArray := prog_2_method_24_code
def yX0_hasRoomForSpace : MethodName := ⟨RX0, "hasRoomForSpace", "(I)Z"⟩
abbrev cX0_addSpace : ByteArray := prog_2_method_25_code
def yX0_addSpace : MethodName := ⟨RX0, "addSpace", "(II)I"⟩
abbrev cX0_smallestFloor : ByteArray := prog_2_method_26_code
def yX0_smallestFloor : MethodName := ⟨RX0, "smallestFloor", "(I)I"⟩
abbrev cX0_greatestFloor : ByteArray := prog_2_method_27_code
def yX0_greatestFloor : MethodName := ⟨RX0, "greatestFloor", "(I)I"⟩
abbrev cX0_takesFloor : ByteArray := prog_2_method_28_code
def yX0_takesFloor : MethodName := ⟨RX0, "takesFloor", "(II)Z"⟩
abbrev cX0_changeFloor : ByteArray := prog_2_method_29_code
def yX0_changeFloor : MethodName := ⟨RX0, "changeFloor", "(II)Z"⟩
abbrev cX0_takesCeiling : ByteArray := prog_2_method_30_code
def yX0_takesCeiling : MethodName := ⟨RX0, "takesCeiling", "(II)Z"⟩
abbrev cX0_changeCeiling : ByteArray := prog_2_method_31_code
def yX0_changeCeiling : MethodName := ⟨RX0, "changeCeiling", "(II)Z"⟩
abbrev cX0_putPage : ByteArray := prog_2_method_32_code
def yX0_putPage : MethodName := ⟨RX0, "putPage", "(II)I"⟩
abbrev cX0_dropPage : ByteArray := prog_2_method_33_code
def yX0_dropPage : MethodName := ⟨RX0, "dropPage", "(II)Z"⟩
abbrev cX0_takeBlock : ByteArray := prog_2_method_34_code
def yX0_takeBlock : MethodName := ⟨RX0, "takeBlock", "(I)I"⟩
abbrev cX0_recallLoan : ByteArray := prog_2_method_35_code
def yX0_recallLoan : MethodName := ⟨RX0, "recallLoan", "(I)V"⟩
abbrev cX0_loseOldest : ByteArray := prog_2_method_36_code
def yX0_loseOldest : MethodName := ⟨RX0, "loseOldest", "(I)V"⟩
abbrev cX0_greatestBorrower : ByteArray := prog_2_method_37_code
def yX0_greatestBorrower : MethodName := ⟨RX0, "greatestBorrower", "(I)I"⟩
abbrev cX0_greatestLender : ByteArray := prog_2_method_38_code
def yX0_greatestLender : MethodName := ⟨RX0, "greatestLender", "(I)I"⟩
abbrev cX0_idlestBut : ByteArray := prog_2_method_39_code
def yX0_idlestBut : MethodName := ⟨RX0, "idlestBut", "(II)I"⟩
def RX1 : String := "LentRoom$History"
def TX1 : u_T := fun k => match k with
  | 0 => ("LentRoom$History", "states", "[LLentRoom$Device;", true)
  | 1 => ("LentRoom$History", "first", "I", false)
  | _ => ("LentRoom$History", "count", "I", false)
def tyX1 : Nat → FieldType := fun k => match k with
  | 0 => .array (.object "LentRoom$Device")
  | 1 => .int
  | _ => .int
theorem nmX1 : ∀ a, a < 3 → ∀ b, b < 3 → a ≠ b → (TX1 a).2.1 ≠ (TX1 b).2.1 := by decide +kernel
theorem tyX1_ok : ∀ k, k < 3 → parseFieldDescriptor (TX1 k).2.2.1 = some (tyX1 k) := by decide +kernel
abbrev cX1_init : ByteArray := prog_3_method_1_code
def yX1_init : MethodName := ⟨RX1, "<init>", "()V"⟩
abbrev cX1_isEmpty : ByteArray := prog_3_method_2_code
def yX1_isEmpty : MethodName := ⟨RX1, "isEmpty", "()Z"⟩
abbrev cX1_forgetAll : ByteArray := prog_3_method_3_code
def yX1_forgetAll : MethodName := ⟨RX1, "forgetAll", "()V"⟩
abbrev cX1_remember : ByteArray := prog_3_method_4_code
def yX1_remember : MethodName := ⟨RX1, "remember", "(LLentRoom$Device;)V"⟩
abbrev cX1_takeBack : ByteArray := prog_3_method_5_code
def yX1_takeBack : MethodName := ⟨RX1, "takeBack", "(LLentRoom$Device;)I"⟩
def RX2 : String := "LentRoom$Text"
def TX2 : u_T := fun k => match k with
  | 0 => ("LentRoom$Text", "length", "I", false)
  | _ => ("LentRoom$Text", "signs", "[C", true)
def tyX2 : Nat → FieldType := fun k => match k with
  | 0 => .int
  | _ => .array .char
theorem nmX2 : ∀ a, a < 2 → ∀ b, b < 2 → a ≠ b → (TX2 a).2.1 ≠ (TX2 b).2.1 := by decide +kernel
theorem tyX2_ok : ∀ k, k < 2 → parseFieldDescriptor (TX2 k).2.2.1 = some (tyX2 k) := by decide +kernel
abbrev cX2_init : ByteArray := prog_4_method_1_code
def yX2_init : MethodName := ⟨RX2, "<init>", "()V"⟩
abbrev cX2_isFull : ByteArray := prog_4_method_2_code
def yX2_isFull : MethodName := ⟨RX2, "isFull", "()Z"⟩
abbrev cX2_add : ByteArray := prog_4_method_3_code
def yX2_add : MethodName := ⟨RX2, "add", "(C)I"⟩
abbrev cX2_empty : ByteArray := prog_4_method_4_code
def yX2_empty : MethodName := ⟨RX2, "empty", "()I"⟩
abbrev cX2_sign : ByteArray := prog_4_method_5_code
def yX2_sign : MethodName := ⟨RX2, "sign", "(I)C"⟩
abbrev cX2_isDigit : ByteArray := prog_4_method_6_code
def yX2_isDigit : MethodName := ⟨RX2, "isDigit", "(I)Z"⟩
abbrev cX2_number : ByteArray := prog_4_method_7_code
def yX2_number : MethodName := ⟨RX2, "number", "(II)I"⟩
abbrev cX2_firstError : ByteArray := prog_4_method_8_code
def yX2_firstError : MethodName := ⟨RX2, "firstError", "()I"⟩
abbrev cX2_placesBehind : ByteArray := prog_4_method_9_code
def yX2_placesBehind : MethodName := ⟨RX2, "placesBehind", "(C)Ljava/lang/String;"⟩
abbrev cX2_fits : ByteArray := prog_4_method_10_code
def yX2_fits : MethodName := ⟨RX2, "fits", "(CI)Z"⟩
def RX3 : String := "LentRoom"
def TX3 : u_T := fun k => match k with
  | 0 => ("LentRoom", "text", "LLentRoom$Text;", true)
  | 1 => ("LentRoom", "device", "LLentRoom$Device;", true)
  | 2 => ("LentRoom", "history", "LLentRoom$History;", true)
  | 3 => ("LentRoom", "slots", "[LLentRoom$Device;", true)
  | 4 => ("LentRoom", "filled", "[Z", true)
  | 5 => ("LentRoom", "blank", "LLentRoom$Device;", true)
  | 6 => ("LentRoom", "trial", "LLentRoom$Device;", true)
  | _ => ("LentRoom", "guess", "LLentRoom$Device;", true)
def tyX3 : Nat → FieldType := fun k => match k with
  | 0 => .object "LentRoom$Text"
  | 1 => .object "LentRoom$Device"
  | 2 => .object "LentRoom$History"
  | 3 => .array (.object "LentRoom$Device")
  | 4 => .array .boolean
  | 5 => .object "LentRoom$Device"
  | 6 => .object "LentRoom$Device"
  | _ => .object "LentRoom$Device"
theorem nmX3 : ∀ a, a < 8 → ∀ b, b < 8 → a ≠ b → (TX3 a).2.1 ≠ (TX3 b).2.1 := by decide +kernel
theorem tyX3_ok : ∀ k, k < 8 → parseFieldDescriptor (TX3 k).2.2.1 = some (tyX3 k) := by decide +kernel
abbrev cX3_init : ByteArray := prog_1_method_1_code
def yX3_init : MethodName := ⟨RX3, "<init>", "()V"⟩
abbrev cX3_append : ByteArray := prog_1_method_2_code
def yX3_append : MethodName := ⟨RX3, "append", "(I)I"⟩
abbrev cX3_clearText : ByteArray := prog_1_method_3_code
def yX3_clearText : MethodName := ⟨RX3, "clearText", "()I"⟩
abbrev cX3_errorPosition : ByteArray := prog_1_method_4_code
def yX3_errorPosition : MethodName := ⟨RX3, "errorPosition", "()I"⟩
abbrev cX3_load : ByteArray := prog_1_method_5_code
def yX3_load : MethodName := ⟨RX3, "load", "()I"⟩
abbrev cX3_obeyText : ByteArray := prog_1_method_6_code
def yX3_obeyText : MethodName := ⟨RX3, "obeyText", "(I)Z"⟩
abbrev cX3_about : ByteArray := prog_1_method_7_code
def yX3_about : MethodName := ⟨RX3, "about", "(I)I"⟩
abbrev cX3_space : ByteArray := prog_1_method_8_code
def yX3_space : MethodName := ⟨RX3, "space", "(II)I"⟩
abbrev cX3_loans : ByteArray := prog_1_method_9_code
def yX3_loans : MethodName := ⟨RX3, "loans", "(II)I"⟩
abbrev cX3_time : ByteArray := prog_1_method_10_code
def yX3_time : MethodName := ⟨RX3, "time", "(II)I"⟩
abbrev cX3_oldest : ByteArray := prog_1_method_11_code
def yX3_oldest : MethodName := ⟨RX3, "oldest", "(II)I"⟩
abbrev cX3_make : ByteArray := prog_1_method_12_code
def yX3_make : MethodName := ⟨RX3, "make", "(II)I"⟩
abbrev cX3_write : ByteArray := prog_1_method_13_code
def yX3_write : MethodName := ⟨RX3, "write", "(II)I"⟩
abbrev cX3_trim : ByteArray := prog_1_method_14_code
def yX3_trim : MethodName := ⟨RX3, "trim", "(II)I"⟩
abbrev cX3_setFloor : ByteArray := prog_1_method_15_code
def yX3_setFloor : MethodName := ⟨RX3, "setFloor", "(II)I"⟩
abbrev cX3_setCeiling : ByteArray := prog_1_method_16_code
def yX3_setCeiling : MethodName := ⟨RX3, "setCeiling", "(II)I"⟩
abbrev cX3_undo : ByteArray := prog_1_method_17_code
def yX3_undo : MethodName := ⟨RX3, "undo", "()I"⟩
abbrev cX3_would : ByteArray := prog_1_method_18_code
def yX3_would : MethodName := ⟨RX3, "would", "(II)I"⟩
abbrev cX3_room : ByteArray := prog_1_method_19_code
def yX3_room : MethodName := ⟨RX3, "room", "(I)I"⟩
abbrev cX3_harm : ByteArray := prog_1_method_20_code
def yX3_harm : MethodName := ⟨RX3, "harm", "(II)I"⟩
abbrev cX3_victim : ByteArray := prog_1_method_21_code
def yX3_victim : MethodName := ⟨RX3, "victim", "(I)I"⟩
abbrev cX3_noisy : ByteArray := prog_1_method_22_code
def yX3_noisy : MethodName := ⟨RX3, "noisy", "()I"⟩
abbrev cX3_mostFloor : ByteArray := prog_1_method_23_code
def yX3_mostFloor : MethodName := ⟨RX3, "mostFloor", "(I)I"⟩
abbrev cX3_leastFloor : ByteArray := prog_1_method_24_code
def yX3_leastFloor : MethodName := ⟨RX3, "leastFloor", "(I)I"⟩
abbrev cX3_growGuess : ByteArray := prog_1_method_25_code
def yX3_growGuess : MethodName := ⟨RX3, "growGuess", "(LLentRoom$Device;II)I"⟩
abbrev cX3_runScript : ByteArray := prog_1_method_26_code
def yX3_runScript : MethodName := ⟨RX3, "runScript", "(IJ)I"⟩
abbrev cX3_withoutGroups : ByteArray := prog_1_method_27_code
def yX3_withoutGroups : MethodName := ⟨RX3, "withoutGroups", "(JI)J"⟩
abbrev cX3_obeyGroup : ByteArray := prog_1_method_28_code
def yX3_obeyGroup : MethodName := ⟨RX3, "obeyGroup", "(I)Z"⟩
abbrev cX3_obeyForSpace : ByteArray := prog_1_method_29_code
def yX3_obeyForSpace : MethodName := ⟨RX3, "obeyForSpace", "(III)Z"⟩
abbrev cX3_simulate : ByteArray := prog_1_method_30_code
def yX3_simulate : MethodName := ⟨RX3, "simulate", "(JI)I"⟩
abbrev cX3_takeTurn : ByteArray := prog_1_method_31_code
def yX3_takeTurn : MethodName := ⟨RX3, "takeTurn", "(I)V"⟩
abbrev cX3_save : ByteArray := prog_1_method_32_code
def yX3_save : MethodName := ⟨RX3, "save", "(I)I"⟩
abbrev cX3_restore : ByteArray := prog_1_method_33_code
def yX3_restore : MethodName := ⟨RX3, "restore", "(I)I"⟩
abbrev cX3_needSpace : ByteArray := prog_1_method_34_code
def yX3_needSpace : MethodName := ⟨RX3, "needSpace", "(I)V"⟩
abbrev cX3_needPage : ByteArray := prog_1_method_35_code
def yX3_needPage : MethodName := ⟨RX3, "needPage", "(II)V"⟩
abbrev cX3_needSlot : ByteArray := prog_1_method_36_code
def yX3_needSlot : MethodName := ⟨RX3, "needSlot", "(I)V"⟩
def RX4 : String := "LentRoomModel"
def TX4 : u_T := fun k => match k with
  | 0 => ("LentRoomModel", "refusal", "I", false)
  | 1 => ("LentRoomModel", "text", "[I", true)
  | 2 => ("LentRoomModel", "size", "I", false)
  | 3 => ("LentRoomModel", "now", "[I", true)
  | 4 => ("LentRoomModel", "trial", "[I", true)
  | 5 => ("LentRoomModel", "diary", "[I", true)
  | 6 => ("LentRoomModel", "acts", "I", false)
  | 7 => ("LentRoomModel", "kept", "[I", true)
  | 8 => ("LentRoomModel", "isKept", "[Z", true)
  | 9 => ("LentRoomModel", "loser", "I", false)
  | 10 => ("LentRoomModel", "spot", "I", false)
  | 11 => ("LentRoomModel", "out", "I", false)
  | _ => ("LentRoomModel", "apart", "[I", true)
def tyX4 : Nat → FieldType := fun k => match k with
  | 0 => .int
  | 1 => .array .int
  | 2 => .int
  | 3 => .array .int
  | 4 => .array .int
  | 5 => .array .int
  | 6 => .int
  | 7 => .array .int
  | 8 => .array .boolean
  | 9 => .int
  | 10 => .int
  | 11 => .int
  | _ => .array .int
theorem nmX4 : ∀ a, a < 13 → ∀ b, b < 13 → a ≠ b → (TX4 a).2.1 ≠ (TX4 b).2.1 := by decide +kernel
theorem tyX4_ok : ∀ k, k < 13 → parseFieldDescriptor (TX4 k).2.2.1 = some (tyX4 k) := by decide +kernel
abbrev cX4_init : ByteArray := prog_6_method_1_code
def yX4_init : MethodName := ⟨RX4, "<init>", "()V"⟩
abbrev cX4_thrown : ByteArray := prog_6_method_2_code
def yX4_thrown : MethodName := ⟨RX4, "thrown", "()I"⟩
abbrev cX4_refused : ByteArray := prog_6_method_3_code
def yX4_refused : MethodName := ⟨RX4, "refused", "(I)Z"⟩
abbrev cX4_in : ByteArray := prog_6_method_4_code
def yX4_in : MethodName := ⟨RX4, "in", "(JJJ)Z"⟩
abbrev cX4_copyState : ByteArray := prog_6_method_5_code
def yX4_copyState : MethodName := ⟨RX4, "copyState", "([II[II)V"⟩
abbrev cX4_isSpace : ByteArray := prog_6_method_6_code
def yX4_isSpace : MethodName := ⟨RX4, "isSpace", "([II)Z"⟩
abbrev cX4_isPage : ByteArray := prog_6_method_7_code
def yX4_isPage : MethodName := ⟨RX4, "isPage", "(I)Z"⟩
abbrev cX4_at : ByteArray := prog_6_method_8_code
def yX4_at : MethodName := ⟨RX4, "at", "(I)I"⟩
abbrev cX4_of : ByteArray := prog_6_method_9_code
def yX4_of : MethodName := ⟨RX4, "of", "([III)I"⟩
abbrev cX4_sum : ByteArray := prog_6_method_10_code
def yX4_sum : MethodName := ⟨RX4, "sum", "([II)I"⟩
abbrev cX4_lends : ByteArray := prog_6_method_11_code
def yX4_lends : MethodName := ⟨RX4, "lends", "([II)I"⟩
abbrev cX4_borrowed : ByteArray := prog_6_method_12_code
def yX4_borrowed : MethodName := ⟨RX4, "borrowed", "([II)I"⟩
abbrev cX4_taken : ByteArray := prog_6_method_13_code
def yX4_taken : MethodName := ⟨RX4, "taken", "([II)I"⟩
abbrev cX4_idle : ByteArray := prog_6_method_14_code
def yX4_idle : MethodName := ⟨RX4, "idle", "([II)I"⟩
abbrev cX4_free : ByteArray := prog_6_method_15_code
def yX4_free : MethodName := ⟨RX4, "free", "([I)I"⟩
abbrev cX4_lender : ByteArray := prog_6_method_16_code
def yX4_lender : MethodName := ⟨RX4, "lender", "([III)I"⟩
abbrev cX4_mostFrom : ByteArray := prog_6_method_17_code
def yX4_mostFrom : MethodName := ⟨RX4, "mostFrom", "([II)I"⟩
abbrev cX4_mostOf : ByteArray := prog_6_method_18_code
def yX4_mostOf : MethodName := ⟨RX4, "mostOf", "([II)I"⟩
abbrev cX4_leastPage : ByteArray := prog_6_method_19_code
def yX4_leastPage : MethodName := ⟨RX4, "leastPage", "([II)I"⟩
abbrev cX4_recall : ByteArray := prog_6_method_20_code
def yX4_recall : MethodName := ⟨RX4, "recall", "([II)V"⟩
abbrev cX4_need : ByteArray := prog_6_method_21_code
def yX4_need : MethodName := ⟨RX4, "need", "([II)I"⟩
abbrev cX4_writeOn : ByteArray := prog_6_method_22_code
def yX4_writeOn : MethodName := ⟨RX4, "writeOn", "([III)I"⟩
abbrev cX4_canTrim : ByteArray := prog_6_method_23_code
def yX4_canTrim : MethodName := ⟨RX4, "canTrim", "([III)Z"⟩
abbrev cX4_trimOn : ByteArray := prog_6_method_24_code
def yX4_trimOn : MethodName := ⟨RX4, "trimOn", "([III)I"⟩
abbrev cX4_whyNotMake : ByteArray := prog_6_method_25_code
def yX4_whyNotMake : MethodName := ⟨RX4, "whyNotMake", "([III)I"⟩
abbrev cX4_makeOn : ByteArray := prog_6_method_26_code
def yX4_makeOn : MethodName := ⟨RX4, "makeOn", "([III)I"⟩
abbrev cX4_most : ByteArray := prog_6_method_27_code
def yX4_most : MethodName := ⟨RX4, "most", "([II)I"⟩
abbrev cX4_least : ByteArray := prog_6_method_28_code
def yX4_least : MethodName := ⟨RX4, "least", "([II)I"⟩
abbrev cX4_whyNotFloor : ByteArray := prog_6_method_29_code
def yX4_whyNotFloor : MethodName := ⟨RX4, "whyNotFloor", "([III)I"⟩
abbrev cX4_lay : ByteArray := prog_6_method_30_code
def yX4_lay : MethodName := ⟨RX4, "lay", "([IIII)I"⟩
abbrev cX4_whyNotCeiling : ByteArray := prog_6_method_31_code
def yX4_whyNotCeiling : MethodName := ⟨RX4, "whyNotCeiling", "([III)I"⟩
abbrev cX4_append : ByteArray := prog_6_method_32_code
def yX4_append : MethodName := ⟨RX4, "append", "(I)I"⟩
abbrev cX4_clearText : ByteArray := prog_6_method_33_code
def yX4_clearText : MethodName := ⟨RX4, "clearText", "()I"⟩
abbrev cX4_figures : ByteArray := prog_6_method_34_code
def yX4_figures : MethodName := ⟨RX4, "figures", "(IIII)I"⟩
abbrev cX4_leftOut : ByteArray := prog_6_method_35_code
def yX4_leftOut : MethodName := ⟨RX4, "leftOut", "(Z)V"⟩
abbrev cX4_doesFloor : ByteArray := prog_6_method_36_code
def yX4_doesFloor : MethodName := ⟨RX4, "doesFloor", "([III)Z"⟩
abbrev cX4_doesWrites : ByteArray := prog_6_method_37_code
def yX4_doesWrites : MethodName := ⟨RX4, "doesWrites", "([IIII)Z"⟩
abbrev cX4_readCommand : ByteArray := prog_6_method_38_code
def yX4_readCommand : MethodName := ⟨RX4, "readCommand", "([I)Z"⟩
abbrev cX4_readText : ByteArray := prog_6_method_39_code
def yX4_readText : MethodName := ⟨RX4, "readText", "([I)I"⟩
abbrev cX4_errorPosition : ByteArray := prog_6_method_40_code
def yX4_errorPosition : MethodName := ⟨RX4, "errorPosition", "()I"⟩
abbrev cX4_load : ByteArray := prog_6_method_41_code
def yX4_load : MethodName := ⟨RX4, "load", "()I"⟩
abbrev cX4_written : ByteArray := prog_6_method_42_code
def yX4_written : MethodName := ⟨RX4, "written", "([I)I"⟩
abbrev cX4_about : ByteArray := prog_6_method_43_code
def yX4_about : MethodName := ⟨RX4, "about", "(I)I"⟩
abbrev cX4_space : ByteArray := prog_6_method_44_code
def yX4_space : MethodName := ⟨RX4, "space", "(II)I"⟩
abbrev cX4_loans : ByteArray := prog_6_method_45_code
def yX4_loans : MethodName := ⟨RX4, "loans", "(II)I"⟩
abbrev cX4_time : ByteArray := prog_6_method_46_code
def yX4_time : MethodName := ⟨RX4, "time", "(II)I"⟩
abbrev cX4_oldest : ByteArray := prog_6_method_47_code
def yX4_oldest : MethodName := ⟨RX4, "oldest", "(II)I"⟩
abbrev cX4_remember : ByteArray := prog_6_method_48_code
def yX4_remember : MethodName := ⟨RX4, "remember", "()V"⟩
abbrev cX4_make : ByteArray := prog_6_method_49_code
def yX4_make : MethodName := ⟨RX4, "make", "(II)I"⟩
abbrev cX4_write : ByteArray := prog_6_method_50_code
def yX4_write : MethodName := ⟨RX4, "write", "(II)I"⟩
abbrev cX4_trim : ByteArray := prog_6_method_51_code
def yX4_trim : MethodName := ⟨RX4, "trim", "(II)I"⟩
abbrev cX4_setFloor : ByteArray := prog_6_method_52_code
def yX4_setFloor : MethodName := ⟨RX4, "setFloor", "(II)I"⟩
abbrev cX4_setCeiling : ByteArray := prog_6_method_53_code
def yX4_setCeiling : MethodName := ⟨RX4, "setCeiling", "(II)I"⟩
abbrev cX4_undo : ByteArray := prog_6_method_54_code
def yX4_undo : MethodName := ⟨RX4, "undo", "()I"⟩
abbrev cX4_would : ByteArray := prog_6_method_55_code
def yX4_would : MethodName := ⟨RX4, "would", "(II)I"⟩
abbrev cX4_go : ByteArray := prog_6_method_56_code
def yX4_go : MethodName := ⟨RX4, "go", "([III)I"⟩
abbrev cX4_room : ByteArray := prog_6_method_57_code
def yX4_room : MethodName := ⟨RX4, "room", "(I)I"⟩
abbrev cX4_harm : ByteArray := prog_6_method_58_code
def yX4_harm : MethodName := ⟨RX4, "harm", "(II)I"⟩
abbrev cX4_victim : ByteArray := prog_6_method_59_code
def yX4_victim : MethodName := ⟨RX4, "victim", "(I)I"⟩
abbrev cX4_noisy : ByteArray := prog_6_method_60_code
def yX4_noisy : MethodName := ⟨RX4, "noisy", "()I"⟩
abbrev cX4_mostFloor : ByteArray := prog_6_method_61_code
def yX4_mostFloor : MethodName := ⟨RX4, "mostFloor", "(I)I"⟩
abbrev cX4_leastFloor : ByteArray := prog_6_method_62_code
def yX4_leastFloor : MethodName := ⟨RX4, "leastFloor", "(I)I"⟩
abbrev cX4_command : ByteArray := prog_6_method_63_code
def yX4_command : MethodName := ⟨RX4, "command", "(IIII)Z"⟩
abbrev cX4_runScript : ByteArray := prog_6_method_64_code
def yX4_runScript : MethodName := ⟨RX4, "runScript", "(IJ)I"⟩
abbrev cX4_turn : ByteArray := prog_6_method_65_code
def yX4_turn : MethodName := ⟨RX4, "turn", "(I)V"⟩
abbrev cX4_simulate : ByteArray := prog_6_method_66_code
def yX4_simulate : MethodName := ⟨RX4, "simulate", "(JI)I"⟩
abbrev cX4_save : ByteArray := prog_6_method_67_code
def yX4_save : MethodName := ⟨RX4, "save", "(I)I"⟩
abbrev cX4_restore : ByteArray := prog_6_method_68_code
def yX4_restore : MethodName := ⟨RX4, "restore", "(I)I"⟩
def RJ9 : String := "java/lang/Math"
abbrev cJ9_max_7cf53 : ByteArray := prog_11_method_65_code
def yJ9_max_7cf53 : MethodName := ⟨RJ9, "max", "(II)I"⟩
abbrev cJ9_min_7cf53 : ByteArray := prog_11_method_69_code
def yJ9_min_7cf53 : MethodName := ⟨RJ9, "min", "(II)I"⟩
def RJ0 : String := "java/lang/String"
abbrev cJ0_length_8abf5 : ByteArray := prog_13_method_54_code
def yJ0_length_8abf5 : MethodName := ⟨RJ0, "length", "()I"⟩
abbrev cJ0_isEmpty_aae02 : ByteArray := prog_13_method_55_code
def yJ0_isEmpty_aae02 : MethodName := ⟨RJ0, "isEmpty", "()Z"⟩
abbrev cJ0_charAt_5068e : ByteArray := prog_13_method_56_code
def yJ0_charAt_5068e : MethodName := ⟨RJ0, "charAt", "(I)C"⟩
abbrev cJ0_coder_7d493 : ByteArray := prog_13_method_152_code
def yJ0_coder_7d493 : MethodName := ⟨RJ0, "coder", "()B"⟩
abbrev cJ0_isLatin1_aae02 : ByteArray := prog_13_method_154_code
def yJ0_isLatin1_aae02 : MethodName := ⟨RJ0, "isLatin1", "()Z"⟩
abbrev cJ0_checkIndex_df160 : ByteArray := prog_13_method_155_code
def yJ0_checkIndex_df160 : MethodName := ⟨RJ0, "checkIndex", "(II)V"⟩
def RJ1 : String := "java/lang/StringLatin1"
abbrev cJ1_charAt_3b067 : ByteArray := prog_14_method_2_code
def yJ1_charAt_3b067 : MethodName := ⟨RJ1, "charAt", "([BI)C"⟩
def RJ2 : String := "java/lang/StringUTF16"
abbrev cJ2_getChar_3b067 : ByteArray := prog_15_method_5_code
def yJ2_getChar_3b067 : MethodName := ⟨RJ2, "getChar", "([BI)C"⟩
abbrev cJ2_length_9d52b : ByteArray := prog_15_method_6_code
def yJ2_length_9d52b : MethodName := ⟨RJ2, "length", "([B)I"⟩
abbrev cJ2_charAt_3b067 : ByteArray := prog_15_method_83_code
def yJ2_charAt_3b067 : MethodName := ⟨RJ2, "charAt", "([BI)C"⟩
abbrev cJ2_checkIndex_2214a : ByteArray := prog_15_method_91_code
def yJ2_checkIndex_2214a : MethodName := ⟨RJ2, "checkIndex", "(I[B)V"⟩
def RJ10 : String := "java/lang/System"
def RJ3 : String := "jdk/internal/util/Preconditions"
abbrev cJ3_checkIndex_8e157 : ByteArray := prog_18_method_11_code
def yJ3_checkIndex_8e157 : MethodName := ⟨RJ3, "checkIndex", "(IILjava/util/function/BiFunction;)I"⟩
def RL : String := "LentRoomLaw"
abbrev cL_append : ByteArray := method_3_code
def yL_append : MethodName := ⟨RL, "append", "(LLentRoom;I[J)I"⟩
abbrev cL_load : ByteArray := method_4_code
def yL_load : MethodName := ⟨RL, "load", "(LLentRoom;[J)I"⟩
abbrev cL_about : ByteArray := method_5_code
def yL_about : MethodName := ⟨RL, "about", "(LLentRoom;I[J)I"⟩
abbrev cL_space : ByteArray := method_6_code
def yL_space : MethodName := ⟨RL, "space", "(LLentRoom;II[J)I"⟩
abbrev cL_loans : ByteArray := method_7_code
def yL_loans : MethodName := ⟨RL, "loans", "(LLentRoom;II[J)I"⟩
abbrev cL_time : ByteArray := method_8_code
def yL_time : MethodName := ⟨RL, "time", "(LLentRoom;II[J)I"⟩
abbrev cL_oldest : ByteArray := method_9_code
def yL_oldest : MethodName := ⟨RL, "oldest", "(LLentRoom;II[J)I"⟩
abbrev cL_make : ByteArray := method_10_code
def yL_make : MethodName := ⟨RL, "make", "(LLentRoom;II[J)I"⟩
abbrev cL_write : ByteArray := method_11_code
def yL_write : MethodName := ⟨RL, "write", "(LLentRoom;II[J)I"⟩
abbrev cL_trim : ByteArray := method_12_code
def yL_trim : MethodName := ⟨RL, "trim", "(LLentRoom;II[J)I"⟩
abbrev cL_setFloor : ByteArray := method_13_code
def yL_setFloor : MethodName := ⟨RL, "setFloor", "(LLentRoom;II[J)I"⟩
abbrev cL_setCeiling : ByteArray := method_14_code
def yL_setCeiling : MethodName := ⟨RL, "setCeiling", "(LLentRoom;II[J)I"⟩
abbrev cL_undo : ByteArray := method_15_code
def yL_undo : MethodName := ⟨RL, "undo", "(LLentRoom;[J)I"⟩
abbrev cL_would : ByteArray := method_16_code
def yL_would : MethodName := ⟨RL, "would", "(LLentRoom;II[J)I"⟩
abbrev cL_room : ByteArray := method_17_code
def yL_room : MethodName := ⟨RL, "room", "(LLentRoom;I[J)I"⟩
abbrev cL_harm : ByteArray := method_18_code
def yL_harm : MethodName := ⟨RL, "harm", "(LLentRoom;II[J)I"⟩
abbrev cL_victim : ByteArray := method_19_code
def yL_victim : MethodName := ⟨RL, "victim", "(LLentRoom;I[J)I"⟩
abbrev cL_mostFloor : ByteArray := method_20_code
def yL_mostFloor : MethodName := ⟨RL, "mostFloor", "(LLentRoom;I[J)I"⟩
abbrev cL_leastFloor : ByteArray := method_21_code
def yL_leastFloor : MethodName := ⟨RL, "leastFloor", "(LLentRoom;I[J)I"⟩
abbrev cL_runScript : ByteArray := method_22_code
def yL_runScript : MethodName := ⟨RL, "runScript", "(LLentRoom;IJ[J)I"⟩
abbrev cL_simulate : ByteArray := method_23_code
def yL_simulate : MethodName := ⟨RL, "simulate", "(LLentRoom;JI[J)I"⟩
abbrev cL_save : ByteArray := method_24_code
def yL_save : MethodName := ⟨RL, "save", "(LLentRoom;I[J)I"⟩
abbrev cL_restore : ByteArray := method_25_code
def yL_restore : MethodName := ⟨RL, "restore", "(LLentRoom;I[J)I"⟩
abbrev cL_law : ByteArray := code
def yL_law : MethodName := ⟨RL, "law", "([I)Z"⟩
abbrev vwCl : List vw_C := [(RX0, TX0, 11), (RX1, TX1, 3), (RX2, TX2, 2), (RX3, TX3, 8), (RX4, TX4, 13)]
def AL : List Cond := lw_tbl.filter goodWord
theorem al_in {w : Cond} (i : Nat) (h : lw_tbl[i]? = some w) (g : goodWord w = true) : w ∈ AL := List.mem_filter.mpr ⟨List.mem_of_getElem? h, g⟩
theorem al_good {w : Cond} (h : w ∈ AL) : (w.onTables && w.keeps) = true ∨ ∃ ty, w = .arrayClass ty := good_of_word (List.mem_filter.mp h).2
theorem al_hts {args : Array Value} {s : State} (h : ∀ w ∈ lw_tbl, w.before args s = true) : ∀ w ∈ AL, w.before args s = true := fun w hw => h w (List.mem_filter.mp hw).1
theorem al_t1 {w : Cond} (i : Nat) (h : tables_1_1[i]? = some w) (g : goodWord w = true) : w ∈ AL := List.mem_filter.mpr ⟨List.mem_append_right _ (List.mem_append_left _ (List.mem_of_getElem? h)), g⟩
theorem al_t2 {w : Cond} (i : Nat) (h : tables_1_2[i]? = some w) (g : goodWord w = true) : w ∈ AL := List.mem_filter.mpr ⟨List.mem_append_right _ (List.mem_append_right _ (List.mem_append_left _ (List.mem_of_getElem? h))), g⟩
theorem al_t3 {w : Cond} (i : Nat) (h : tables_1_3[i]? = some w) (g : goodWord w = true) : w ∈ AL := List.mem_filter.mpr ⟨List.mem_append_right _ (List.mem_append_right _ (List.mem_append_right _ (List.mem_append_left _ (List.mem_of_getElem? h)))), g⟩
theorem al_t4 {w : Cond} (i : Nat) (h : tables_1_4[i]? = some w) (g : goodWord w = true) : w ∈ AL := List.mem_filter.mpr ⟨List.mem_append_right _ (List.mem_append_right _ (List.mem_append_right _ (List.mem_append_right _ (List.mem_append_left _ (List.mem_of_getElem? h))))), g⟩
theorem al_t5 {w : Cond} (i : Nat) (h : tables_1_5[i]? = some w) (g : goodWord w = true) : w ∈ AL := List.mem_filter.mpr ⟨List.mem_append_right _ (List.mem_append_right _ (List.mem_append_right _ (List.mem_append_right _ (List.mem_append_right _ (List.mem_of_getElem? h))))), g⟩
theorem q_0 : Cond.selects "LentRoom$Text" yX2_fits yX2_fits ∈ AL := al_in 0 (by decide +kernel) rfl
theorem q_1 : Cond.selects "java/lang/Throwable" ⟨"java/lang/Throwable", "fillInStackTrace", "(I)Ljava/lang/Throwable;"⟩ ⟨"java/lang/Throwable", "fillInStackTrace", "(I)Ljava/lang/Throwable;"⟩ ∈ AL := al_in 1 (by decide +kernel) rfl
theorem q_2 : Cond.selects "LentRoom" yX3_obeyText yX3_obeyText ∈ AL := al_in 2 (by decide +kernel) rfl
theorem q_3 : Cond.selects "LentRoom$Device" yX0_recallLoan yX0_recallLoan ∈ AL := al_in 3 (by decide +kernel) rfl
theorem q_4 : Cond.selects "LentRoom$Device" yX0_greatestBorrower yX0_greatestBorrower ∈ AL := al_in 4 (by decide +kernel) rfl
theorem q_5 : Cond.selects "LentRoom$Device" yX0_idlestBut yX0_idlestBut ∈ AL := al_in 5 (by decide +kernel) rfl
theorem q_6 : Cond.selects "LentRoom$Device" yX0_loseOldest yX0_loseOldest ∈ AL := al_in 6 (by decide +kernel) rfl
theorem q_7 : Cond.selects "LentRoom$Device" yX0_oldestAfter yX0_oldestAfter ∈ AL := al_in 7 (by decide +kernel) rfl
theorem q_8 : Cond.selects "LentRoom$Device" yX0_greatestLender yX0_greatestLender ∈ AL := al_in 8 (by decide +kernel) rfl
theorem q_9 : Cond.selects "LentRoom" yX3_needSpace yX3_needSpace ∈ AL := al_in 9 (by decide +kernel) rfl
theorem q_10 : Cond.selects "LentRoom" yX3_needPage yX3_needPage ∈ AL := al_in 10 (by decide +kernel) rfl
theorem q_11 : Cond.selects "LentRoom" yX3_growGuess yX3_growGuess ∈ AL := al_in 11 (by decide +kernel) rfl
theorem q_12 : Cond.selects "LentRoom" yX3_obeyGroup yX3_obeyGroup ∈ AL := al_in 12 (by decide +kernel) rfl
theorem q_13 : Cond.selects "LentRoom" yX3_obeyForSpace yX3_obeyForSpace ∈ AL := al_in 13 (by decide +kernel) rfl
theorem q_14 : Cond.selects "LentRoom" yX3_takeTurn yX3_takeTurn ∈ AL := al_in 14 (by decide +kernel) rfl
theorem q_15 : Cond.selects "LentRoomModel" yX4_refused yX4_refused ∈ AL := al_in 15 (by decide +kernel) rfl
theorem q_16 : Cond.selects "LentRoomModel" yX4_readText yX4_readText ∈ AL := al_in 16 (by decide +kernel) rfl
theorem q_17 : Cond.selects "LentRoomModel" yX4_readCommand yX4_readCommand ∈ AL := al_in 17 (by decide +kernel) rfl
theorem q_18 : Cond.selects "LentRoomModel" yX4_figures yX4_figures ∈ AL := al_in 18 (by decide +kernel) rfl
theorem q_19 : Cond.selects "LentRoomModel" yX4_leftOut yX4_leftOut ∈ AL := al_in 19 (by decide +kernel) rfl
theorem q_20 : Cond.selects "LentRoomModel" yX4_writeOn yX4_writeOn ∈ AL := al_in 20 (by decide +kernel) rfl
theorem q_21 : Cond.selects "LentRoomModel" yX4_need yX4_need ∈ AL := al_in 21 (by decide +kernel) rfl
theorem q_22 : Cond.selects "LentRoomModel" yX4_recall yX4_recall ∈ AL := al_in 22 (by decide +kernel) rfl
theorem q_23 : Cond.selects "LentRoomModel" yX4_doesFloor yX4_doesFloor ∈ AL := al_in 23 (by decide +kernel) rfl
theorem q_24 : Cond.selects "LentRoomModel" yX4_doesWrites yX4_doesWrites ∈ AL := al_in 24 (by decide +kernel) rfl
theorem q_25 : Cond.selects "LentRoomModel" yX4_remember yX4_remember ∈ AL := al_in 25 (by decide +kernel) rfl
theorem q_26 : Cond.selects "LentRoomModel" yX4_go yX4_go ∈ AL := al_in 26 (by decide +kernel) rfl
theorem q_27 : Cond.selects "LentRoomModel" yX4_command yX4_command ∈ AL := al_in 27 (by decide +kernel) rfl
theorem q_28 : Cond.selects "LentRoomModel" yX4_turn yX4_turn ∈ AL := al_in 28 (by decide +kernel) rfl
theorem q_29 : Cond.initialized "LentRoomLaw" ∈ AL := al_t1 0 (by decide +kernel) rfl
theorem q_30 : Cond.initialized "LentRoom" ∈ AL := al_t1 1 (by decide +kernel) rfl
theorem q_31 : Cond.initialized "LentRoom$Text" ∈ AL := al_t1 2 (by decide +kernel) rfl
theorem q_32 : Cond.initialized "LentRoom$Device" ∈ AL := al_t1 3 (by decide +kernel) rfl
theorem q_33 : Cond.initialized "LentRoom$History" ∈ AL := al_t1 4 (by decide +kernel) rfl
theorem q_34 : Cond.initialized "LentRoomModel" ∈ AL := al_t1 5 (by decide +kernel) rfl
theorem q_35 : Cond.initialized "java/lang/Throwable" ∈ AL := al_t1 6 (by decide +kernel) rfl
theorem q_36 : Cond.initialized "java/lang/Exception" ∈ AL := al_t1 7 (by decide +kernel) rfl
theorem q_37 : Cond.initialized "java/lang/RuntimeException" ∈ AL := al_t1 8 (by decide +kernel) rfl
theorem q_38 : Cond.initialized "java/lang/IllegalArgumentException" ∈ AL := al_t1 9 (by decide +kernel) rfl
theorem q_39 : Cond.initialized "java/lang/IllegalStateException" ∈ AL := al_t1 10 (by decide +kernel) rfl
theorem q_40 : Cond.initialized "java/lang/String" ∈ AL := al_t1 11 (by decide +kernel) rfl
theorem q_41 : Cond.initialized "java/lang/StringLatin1" ∈ AL := al_t1 12 (by decide +kernel) rfl
theorem q_42 : Cond.initialized "jdk/internal/util/Preconditions" ∈ AL := al_t1 13 (by decide +kernel) rfl
theorem q_43 : Cond.initialized "java/lang/StringUTF16" ∈ AL := al_t1 14 (by decide +kernel) rfl
theorem q_44 : Cond.initialized "java/lang/Math" ∈ AL := al_t1 15 (by decide +kernel) rfl
theorem q_45 : Cond.initialized "java/lang/System" ∈ AL := al_t1 16 (by decide +kernel) rfl
theorem q_46 : Cond.initialized "java/lang/IndexOutOfBoundsException" ∈ AL := al_t1 17 (by decide +kernel) rfl
theorem q_47 : Cond.classLink "LentRoomLaw" 8 "LentRoom" ∈ AL := al_t1 18 (by decide +kernel) rfl
theorem q_48 : Cond.instantiable "LentRoom" 8 ∈ AL := al_t1 19 (by decide +kernel) rfl
theorem q_49 : Cond.methodLink "LentRoomLaw" 89 yX3_init ∈ AL := al_t1 20 (by decide +kernel) rfl
theorem q_50 : Cond.instanceMethod yX3_init ∈ AL := al_t1 21 (by decide +kernel) rfl
set_option maxRecDepth 100000 in
theorem q_51 : Cond.code yX3_init cX3_init 2 (Option.none : Option Jvm.ClassFile.FieldType) ∈ AL := al_t1 22 rfl rfl
theorem q_52 : Cond.methodLink "LentRoom" 1 ⟨"java/lang/Object", "<init>", "()V"⟩ ∈ AL := al_t1 23 (by decide +kernel) rfl
theorem q_53 : Cond.instanceMethod ⟨"java/lang/Object", "<init>", "()V"⟩ ∈ AL := al_t1 24 (by decide +kernel) rfl
set_option maxRecDepth 100000 in
theorem q_54 : Cond.code ⟨"java/lang/Object", "<init>", "()V"⟩ object_method_1_code 1 (Option.none : Option Jvm.ClassFile.FieldType) ∈ AL := al_t1 25 rfl rfl
theorem q_55 : Cond.classLink "LentRoom" 7 "LentRoom$Text" ∈ AL := al_t1 26 (by decide +kernel) rfl
theorem q_56 : Cond.instantiable "LentRoom$Text" 2 ∈ AL := al_t1 27 (by decide +kernel) rfl
theorem q_58 : Cond.instanceMethod yX2_init ∈ AL := al_t1 29 (by decide +kernel) rfl
set_option maxRecDepth 100000 in
theorem q_59 : Cond.code yX2_init cX2_init 1 (Option.none : Option Jvm.ClassFile.FieldType) ∈ AL := al_t1 30 rfl rfl
theorem q_60 : Cond.methodLink "LentRoom$Text" 3 ⟨"java/lang/Object", "<init>", "()V"⟩ ∈ AL := al_t1 31 (by decide +kernel) rfl
theorem q_61 : Cond.fieldLink "LentRoom$Text" 15 "LentRoom$Text" "length" "I" ∈ AL := al_t1 32 (by decide +kernel) rfl
theorem q_62 : Cond.fieldLink "LentRoom" 83 "LentRoom$Text" "length" "I" ∈ AL := al_t1 33 (by decide +kernel) rfl
theorem q_63 : Cond.fieldLink "LentRoom$Text" 9 "LentRoom$Text" "signs" "[C" ∈ AL := al_t1 34 (by decide +kernel) rfl
theorem q_64 : Cond.lays "LentRoom$Text" "LentRoom$Text" "length" "I" ∈ AL := al_t1 35 (by decide +kernel) rfl
theorem q_66 : Cond.laysFinal "LentRoom$Text" "LentRoom$Text" "signs" "[C" ∈ AL := al_t1 37 (by decide +kernel) rfl
theorem q_68 : Cond.superclass "LentRoom$Text" "java/lang/Object" ∈ AL := al_t1 39 (by decide +kernel) rfl
theorem q_69 : Cond.arrayClass Jvm.ClassFile.FieldType.char ∈ AL := al_t1 40 (by decide +kernel) rfl
theorem q_70 : Cond.classLink "LentRoom" 16 "LentRoom$Device" ∈ AL := al_t1 41 (by decide +kernel) rfl
theorem q_71 : Cond.instantiable "LentRoom$Device" 11 ∈ AL := al_t1 42 (by decide +kernel) rfl
theorem q_73 : Cond.instanceMethod yX0_init ∈ AL := al_t1 44 (by decide +kernel) rfl
set_option maxRecDepth 100000 in
theorem q_74 : Cond.code yX0_init cX0_init 1 (Option.none : Option Jvm.ClassFile.FieldType) ∈ AL := al_t1 45 rfl rfl
theorem q_75 : Cond.methodLink "LentRoom$Device" 3 ⟨"java/lang/Object", "<init>", "()V"⟩ ∈ AL := al_t1 46 (by decide +kernel) rfl
theorem q_76 : Cond.classLink "LentRoom$Device" 24 "[[I" ∈ AL := al_t1 47 (by decide +kernel) rfl
theorem q_78 : Cond.fieldLink "LentRoom$Device" 41 "LentRoom$Device" "spaces" "I" ∈ AL := al_t1 49 (by decide +kernel) rfl
theorem q_79 : Cond.fieldLink "LentRoom" 214 "LentRoom$Device" "spaces" "I" ∈ AL := al_t1 50 (by decide +kernel) rfl
theorem q_80 : Cond.fieldLink "LentRoom$Device" 45 "LentRoom$Device" "clock" "I" ∈ AL := al_t1 51 (by decide +kernel) rfl
theorem q_81 : Cond.fieldLink "LentRoom$Device" 9 "LentRoom$Device" "floor" "[I" ∈ AL := al_t1 52 (by decide +kernel) rfl
theorem q_82 : Cond.fieldLink "LentRoom" 175 "LentRoom$Device" "floor" "[I" ∈ AL := al_t1 53 (by decide +kernel) rfl
theorem q_83 : Cond.fieldLink "LentRoom$Device" 15 "LentRoom$Device" "ceiling" "[I" ∈ AL := al_t1 54 (by decide +kernel) rfl
theorem q_84 : Cond.fieldLink "LentRoom" 184 "LentRoom$Device" "ceiling" "[I" ∈ AL := al_t1 55 (by decide +kernel) rfl
theorem q_85 : Cond.fieldLink "LentRoom$Device" 18 "LentRoom$Device" "own" "[I" ∈ AL := al_t1 56 (by decide +kernel) rfl
theorem q_86 : Cond.fieldLink "LentRoom$Device" 21 "LentRoom$Device" "common" "[I" ∈ AL := al_t1 57 (by decide +kernel) rfl
theorem q_87 : Cond.fieldLink "LentRoom$Device" 26 "LentRoom$Device" "loan" "[[I" ∈ AL := al_t1 58 (by decide +kernel) rfl
theorem q_88 : Cond.fieldLink "LentRoom" 131 "LentRoom$Device" "loan" "[[I" ∈ AL := al_t1 59 (by decide +kernel) rfl
theorem q_89 : Cond.fieldLink "LentRoom$Device" 29 "LentRoom$Device" "written" "[[I" ∈ AL := al_t1 60 (by decide +kernel) rfl
theorem q_90 : Cond.fieldLink "LentRoom" 142 "LentRoom$Device" "written" "[[I" ∈ AL := al_t1 61 (by decide +kernel) rfl
theorem q_91 : Cond.fieldLink "LentRoom$Device" 32 "LentRoom$Device" "recalls" "[I" ∈ AL := al_t1 62 (by decide +kernel) rfl
theorem q_92 : Cond.fieldLink "LentRoom$Device" 35 "LentRoom$Device" "lost" "[I" ∈ AL := al_t1 63 (by decide +kernel) rfl
theorem q_93 : Cond.fieldLink "LentRoom$Device" 38 "LentRoom$Device" "refused" "[I" ∈ AL := al_t1 64 (by decide +kernel) rfl
theorem q_94 : Cond.lays "LentRoom$Device" "LentRoom$Device" "spaces" "I" ∈ AL := al_t1 65 (by decide +kernel) rfl
theorem q_96 : Cond.lays "LentRoom$Device" "LentRoom$Device" "clock" "I" ∈ AL := al_t1 67 (by decide +kernel) rfl
theorem q_98 : Cond.laysFinal "LentRoom$Device" "LentRoom$Device" "floor" "[I" ∈ AL := al_t1 69 (by decide +kernel) rfl
theorem q_100 : Cond.laysFinal "LentRoom$Device" "LentRoom$Device" "ceiling" "[I" ∈ AL := al_t1 71 (by decide +kernel) rfl
theorem q_102 : Cond.laysFinal "LentRoom$Device" "LentRoom$Device" "own" "[I" ∈ AL := al_t1 73 (by decide +kernel) rfl
theorem q_104 : Cond.laysFinal "LentRoom$Device" "LentRoom$Device" "common" "[I" ∈ AL := al_t1 75 (by decide +kernel) rfl
theorem q_106 : Cond.laysFinal "LentRoom$Device" "LentRoom$Device" "loan" "[[I" ∈ AL := al_t1 77 (by decide +kernel) rfl
theorem q_108 : Cond.laysFinal "LentRoom$Device" "LentRoom$Device" "written" "[[I" ∈ AL := al_t1 79 (by decide +kernel) rfl
theorem q_110 : Cond.laysFinal "LentRoom$Device" "LentRoom$Device" "recalls" "[I" ∈ AL := al_t1 81 (by decide +kernel) rfl
theorem q_112 : Cond.laysFinal "LentRoom$Device" "LentRoom$Device" "lost" "[I" ∈ AL := al_t1 83 (by decide +kernel) rfl
theorem q_114 : Cond.laysFinal "LentRoom$Device" "LentRoom$Device" "refused" "[I" ∈ AL := al_t1 85 (by decide +kernel) rfl
theorem q_116 : Cond.superclass "LentRoom$Device" "java/lang/Object" ∈ AL := al_t1 87 (by decide +kernel) rfl
theorem q_117 : Cond.arrayClass Jvm.ClassFile.FieldType.int ∈ AL := al_t1 88 (by decide +kernel) rfl
theorem q_118 : Cond.classLink "LentRoom" 23 "LentRoom$History" ∈ AL := al_t1 89 (by decide +kernel) rfl
theorem q_119 : Cond.instantiable "LentRoom$History" 3 ∈ AL := al_t1 90 (by decide +kernel) rfl
theorem q_120 : Cond.methodLink "LentRoom" 25 yX1_init ∈ AL := al_t1 91 (by decide +kernel) rfl
theorem q_121 : Cond.instanceMethod yX1_init ∈ AL := al_t1 92 (by decide +kernel) rfl
set_option maxRecDepth 100000 in
theorem q_122 : Cond.code yX1_init cX1_init 2 (Option.none : Option Jvm.ClassFile.FieldType) ∈ AL := al_t1 93 rfl rfl
theorem q_123 : Cond.methodLink "LentRoom$History" 3 ⟨"java/lang/Object", "<init>", "()V"⟩ ∈ AL := al_t1 94 (by decide +kernel) rfl
theorem q_124 : Cond.classLink "LentRoom$History" 9 "LentRoom$Device" ∈ AL := al_t1 95 (by decide +kernel) rfl
theorem q_127 : Cond.fieldLink "LentRoom$History" 11 "LentRoom$History" "states" "[LLentRoom$Device;" ∈ AL := al_t1 98 (by decide +kernel) rfl
theorem q_128 : Cond.fieldLink "LentRoom$History" 22 "LentRoom$History" "first" "I" ∈ AL := al_t1 99 (by decide +kernel) rfl
theorem q_129 : Cond.fieldLink "LentRoom$History" 18 "LentRoom$History" "count" "I" ∈ AL := al_t1 100 (by decide +kernel) rfl
theorem q_130 : Cond.laysFinal "LentRoom$History" "LentRoom$History" "states" "[LLentRoom$Device;" ∈ AL := al_t1 101 (by decide +kernel) rfl
theorem q_132 : Cond.lays "LentRoom$History" "LentRoom$History" "first" "I" ∈ AL := al_t1 103 (by decide +kernel) rfl
theorem q_134 : Cond.lays "LentRoom$History" "LentRoom$History" "count" "I" ∈ AL := al_t1 105 (by decide +kernel) rfl
theorem q_136 : Cond.superclass "LentRoom$History" "java/lang/Object" ∈ AL := al_t1 107 (by decide +kernel) rfl
theorem q_137 : Cond.fieldLink "LentRoom" 10 "LentRoom" "text" "LLentRoom$Text;" ∈ AL := al_t1 108 (by decide +kernel) rfl
theorem q_138 : Cond.fieldLink "LentRoom" 19 "LentRoom" "device" "LLentRoom$Device;" ∈ AL := al_t1 109 (by decide +kernel) rfl
theorem q_139 : Cond.fieldLink "LentRoom" 26 "LentRoom" "history" "LLentRoom$History;" ∈ AL := al_t1 110 (by decide +kernel) rfl
theorem q_140 : Cond.fieldLink "LentRoom" 30 "LentRoom" "slots" "[LLentRoom$Device;" ∈ AL := al_t1 111 (by decide +kernel) rfl
theorem q_141 : Cond.fieldLink "LentRoom" 34 "LentRoom" "filled" "[Z" ∈ AL := al_t1 112 (by decide +kernel) rfl
theorem q_142 : Cond.fieldLink "LentRoom" 38 "LentRoom" "blank" "LLentRoom$Device;" ∈ AL := al_t1 113 (by decide +kernel) rfl
theorem q_143 : Cond.fieldLink "LentRoom" 41 "LentRoom" "trial" "LLentRoom$Device;" ∈ AL := al_t1 114 (by decide +kernel) rfl
theorem q_144 : Cond.fieldLink "LentRoom" 44 "LentRoom" "guess" "LLentRoom$Device;" ∈ AL := al_t1 115 (by decide +kernel) rfl
theorem q_145 : Cond.laysFinal "LentRoom" "LentRoom" "text" "LLentRoom$Text;" ∈ AL := al_t1 116 (by decide +kernel) rfl
theorem q_147 : Cond.laysFinal "LentRoom" "LentRoom" "device" "LLentRoom$Device;" ∈ AL := al_t1 118 (by decide +kernel) rfl
theorem q_149 : Cond.laysFinal "LentRoom" "LentRoom" "history" "LLentRoom$History;" ∈ AL := al_t1 120 (by decide +kernel) rfl
theorem q_151 : Cond.laysFinal "LentRoom" "LentRoom" "slots" "[LLentRoom$Device;" ∈ AL := al_t1 122 (by decide +kernel) rfl
theorem q_153 : Cond.laysFinal "LentRoom" "LentRoom" "filled" "[Z" ∈ AL := al_t1 124 (by decide +kernel) rfl
theorem q_155 : Cond.laysFinal "LentRoom" "LentRoom" "blank" "LLentRoom$Device;" ∈ AL := al_t1 126 (by decide +kernel) rfl
theorem q_157 : Cond.laysFinal "LentRoom" "LentRoom" "trial" "LLentRoom$Device;" ∈ AL := al_t1 128 (by decide +kernel) rfl
theorem q_159 : Cond.laysFinal "LentRoom" "LentRoom" "guess" "LLentRoom$Device;" ∈ AL := al_t1 130 (by decide +kernel) rfl
theorem q_161 : Cond.superclass "LentRoom" "java/lang/Object" ∈ AL := al_t1 132 (by decide +kernel) rfl
theorem q_162 : Cond.arrayClass Jvm.ClassFile.FieldType.boolean ∈ AL := al_t1 133 (by decide +kernel) rfl
theorem q_163 : Cond.methodLink "LentRoomLaw" 102 yX3_clearText ∈ AL := al_t1 134 (by decide +kernel) rfl
theorem q_164 : Cond.instanceMethod yX3_clearText ∈ AL := al_t1 135 (by decide +kernel) rfl
theorem q_165 : Cond.selects "LentRoom" yX3_clearText yX3_clearText ∈ AL := al_t1 136 (by decide +kernel) rfl
set_option maxRecDepth 100000 in
theorem q_166 : Cond.code yX3_clearText cX3_clearText 1 (Option.some Jvm.ClassFile.FieldType.int) ∈ AL := al_t1 137 rfl rfl
theorem q_167 : Cond.methodLink "LentRoom" 67 yX2_empty ∈ AL := al_t1 138 (by decide +kernel) rfl
theorem q_168 : Cond.instanceMethod yX2_empty ∈ AL := al_t1 139 (by decide +kernel) rfl
theorem q_169 : Cond.selects "LentRoom$Text" yX2_empty yX2_empty ∈ AL := al_t1 140 (by decide +kernel) rfl
set_option maxRecDepth 100000 in
theorem q_170 : Cond.code yX2_empty cX2_empty 2 (Option.some Jvm.ClassFile.FieldType.int) ∈ AL := al_t1 141 rfl rfl
theorem q_171 : Cond.methodLink "LentRoomLaw" 106 yX3_errorPosition ∈ AL := al_t1 142 (by decide +kernel) rfl
theorem q_172 : Cond.instanceMethod yX3_errorPosition ∈ AL := al_t1 143 (by decide +kernel) rfl
theorem q_173 : Cond.selects "LentRoom" yX3_errorPosition yX3_errorPosition ∈ AL := al_t1 144 (by decide +kernel) rfl
set_option maxRecDepth 100000 in
theorem q_174 : Cond.code yX3_errorPosition cX3_errorPosition 1 (Option.some Jvm.ClassFile.FieldType.int) ∈ AL := al_t1 145 rfl rfl
theorem q_175 : Cond.methodLink "LentRoom" 71 yX2_firstError ∈ AL := al_t1 146 (by decide +kernel) rfl
theorem q_176 : Cond.instanceMethod yX2_firstError ∈ AL := al_t1 147 (by decide +kernel) rfl
theorem q_177 : Cond.selects "LentRoom$Text" yX2_firstError yX2_firstError ∈ AL := al_t1 148 (by decide +kernel) rfl
set_option maxRecDepth 100000 in
theorem q_178 : Cond.code yX2_firstError cX2_firstError 4 (Option.some Jvm.ClassFile.FieldType.int) ∈ AL := al_t1 149 rfl rfl
theorem q_180 : Cond.methodLink "LentRoom$Text" 33 yJ0_length_8abf5 ∈ AL := al_t1 151 (by decide +kernel) rfl
theorem q_181 : Cond.instanceMethod yJ0_length_8abf5 ∈ AL := al_t1 152 (by decide +kernel) rfl
theorem q_182 : Cond.selects "java/lang/String" yJ0_length_8abf5 yJ0_length_8abf5 ∈ AL := al_t1 153 (by decide +kernel) rfl
set_option maxRecDepth 100000 in
theorem q_183 : Cond.code yJ0_length_8abf5 cJ0_length_8abf5 1 (Option.some Jvm.ClassFile.FieldType.int) ∈ AL := al_t1 154 rfl rfl
theorem q_184 : Cond.methodLink "java/lang/String" 335 yJ0_coder_7d493 ∈ AL := al_t1 155 (by decide +kernel) rfl
theorem q_185 : Cond.instanceMethod yJ0_coder_7d493 ∈ AL := al_t1 156 (by decide +kernel) rfl
theorem q_186 : Cond.selects "java/lang/String" yJ0_coder_7d493 yJ0_coder_7d493 ∈ AL := al_t1 157 (by decide +kernel) rfl
set_option maxRecDepth 100000 in
theorem q_187 : Cond.code yJ0_coder_7d493 cJ0_coder_7d493 1 (Option.some Jvm.ClassFile.FieldType.byte) ∈ AL := al_t1 158 rfl rfl
theorem q_188 : Cond.fieldLink "java/lang/String" 38 "java/lang/String" "COMPACT_STRINGS" "Z" ∈ AL := al_t1 159 (by decide +kernel) rfl
theorem q_190 : Cond.methodLink "LentRoom$Text" 38 yJ0_charAt_5068e ∈ AL := al_t1 161 (by decide +kernel) rfl
theorem q_191 : Cond.instanceMethod yJ0_charAt_5068e ∈ AL := al_t1 162 (by decide +kernel) rfl
theorem q_192 : Cond.selects "java/lang/String" yJ0_charAt_5068e yJ0_charAt_5068e ∈ AL := al_t1 163 (by decide +kernel) rfl
set_option maxRecDepth 100000 in
theorem q_193 : Cond.code yJ0_charAt_5068e cJ0_charAt_5068e 2 (Option.some Jvm.ClassFile.FieldType.char) ∈ AL := al_t1 164 rfl rfl
theorem q_194 : Cond.methodLink "java/lang/String" 492 yJ0_isLatin1_aae02 ∈ AL := al_t1 165 (by decide +kernel) rfl
theorem q_195 : Cond.instanceMethod yJ0_isLatin1_aae02 ∈ AL := al_t1 166 (by decide +kernel) rfl
theorem q_196 : Cond.selects "java/lang/String" yJ0_isLatin1_aae02 yJ0_isLatin1_aae02 ∈ AL := al_t1 167 (by decide +kernel) rfl
set_option maxRecDepth 100000 in
theorem q_197 : Cond.code yJ0_isLatin1_aae02 cJ0_isLatin1_aae02 1 (Option.some Jvm.ClassFile.FieldType.boolean) ∈ AL := al_t1 168 rfl rfl
theorem q_198 : Cond.methodLink "java/lang/String" 495 yJ1_charAt_3b067 ∈ AL := al_t1 169 (by decide +kernel) rfl
theorem q_199 : Cond.static yJ1_charAt_3b067 ∈ AL := al_t1 170 (by decide +kernel) rfl
set_option maxRecDepth 100000 in
theorem q_200 : Cond.code yJ1_charAt_3b067 cJ1_charAt_3b067 2 (Option.some Jvm.ClassFile.FieldType.char) ∈ AL := al_t1 171 rfl rfl
theorem q_201 : Cond.methodLink "java/lang/StringLatin1" 9 yJ0_checkIndex_df160 ∈ AL := al_t1 172 (by decide +kernel) rfl
theorem q_202 : Cond.static yJ0_checkIndex_df160 ∈ AL := al_t1 173 (by decide +kernel) rfl
set_option maxRecDepth 100000 in
theorem q_203 : Cond.code yJ0_checkIndex_df160 cJ0_checkIndex_df160 2 (Option.none : Option Jvm.ClassFile.FieldType) ∈ AL := al_t1 174 rfl rfl
theorem q_204 : Cond.fieldLink "java/lang/String" 1053 "jdk/internal/util/Preconditions" "SIOOBE_FORMATTER" "Ljava/util/function/BiFunction;" ∈ AL := al_t1 175 (by decide +kernel) rfl
theorem q_206 : Cond.methodLink "java/lang/String" 1059 yJ3_checkIndex_8e157 ∈ AL := al_t1 177 (by decide +kernel) rfl
theorem q_207 : Cond.static yJ3_checkIndex_8e157 ∈ AL := al_t1 178 (by decide +kernel) rfl
set_option maxRecDepth 100000 in
theorem q_208 : Cond.code yJ3_checkIndex_8e157 cJ3_checkIndex_8e157 3 (Option.some Jvm.ClassFile.FieldType.int) ∈ AL := al_t1 179 rfl rfl
theorem q_209 : Cond.methodLink "java/lang/String" 498 yJ2_charAt_3b067 ∈ AL := al_t1 180 (by decide +kernel) rfl
theorem q_210 : Cond.static yJ2_charAt_3b067 ∈ AL := al_t1 181 (by decide +kernel) rfl
set_option maxRecDepth 100000 in
theorem q_211 : Cond.code yJ2_charAt_3b067 cJ2_charAt_3b067 2 (Option.some Jvm.ClassFile.FieldType.char) ∈ AL := al_t1 182 rfl rfl
theorem q_212 : Cond.methodLink "java/lang/StringUTF16" 67 yJ2_checkIndex_2214a ∈ AL := al_t1 183 (by decide +kernel) rfl
theorem q_213 : Cond.static yJ2_checkIndex_2214a ∈ AL := al_t1 184 (by decide +kernel) rfl
set_option maxRecDepth 100000 in
theorem q_214 : Cond.code yJ2_checkIndex_2214a cJ2_checkIndex_2214a 2 (Option.none : Option Jvm.ClassFile.FieldType) ∈ AL := al_t1 185 rfl rfl
theorem q_215 : Cond.methodLink "java/lang/StringUTF16" 48 yJ2_length_9d52b ∈ AL := al_t1 186 (by decide +kernel) rfl
theorem q_216 : Cond.static yJ2_length_9d52b ∈ AL := al_t1 187 (by decide +kernel) rfl
set_option maxRecDepth 100000 in
theorem q_217 : Cond.code yJ2_length_9d52b cJ2_length_9d52b 1 (Option.some Jvm.ClassFile.FieldType.int) ∈ AL := al_t1 188 rfl rfl
theorem q_218 : Cond.methodLink "java/lang/StringUTF16" 414 yJ0_checkIndex_df160 ∈ AL := al_t1 189 (by decide +kernel) rfl
theorem q_219 : Cond.methodLink "java/lang/StringUTF16" 71 yJ2_getChar_3b067 ∈ AL := al_t1 190 (by decide +kernel) rfl
theorem q_220 : Cond.static yJ2_getChar_3b067 ∈ AL := al_t1 191 (by decide +kernel) rfl
set_option maxRecDepth 100000 in
theorem q_221 : Cond.code yJ2_getChar_3b067 cJ2_getChar_3b067 2 (Option.some Jvm.ClassFile.FieldType.char) ∈ AL := al_t1 192 rfl rfl
theorem q_222 : Cond.fieldLink "java/lang/StringUTF16" 44 "java/lang/StringUTF16" "$assertionsDisabled" "Z" ∈ AL := al_t1 193 (by decide +kernel) rfl
theorem q_224 : Cond.fieldLink "java/lang/StringUTF16" 59 "java/lang/StringUTF16" "HI_BYTE_SHIFT" "I" ∈ AL := al_t1 195 (by decide +kernel) rfl
theorem q_226 : Cond.fieldLink "java/lang/StringUTF16" 63 "java/lang/StringUTF16" "LO_BYTE_SHIFT" "I" ∈ AL := al_t1 197 (by decide +kernel) rfl
theorem q_228 : Cond.methodLink "LentRoom$Text" 41 yX2_fits ∈ AL := al_t1 199 (by decide +kernel) rfl
theorem q_230 : Cond.instanceMethod yX2_fits ∈ AL := al_t1 201 (by decide +kernel) rfl
set_option maxRecDepth 100000 in
theorem q_231 : Cond.code yX2_fits cX2_fits 4 (Option.some Jvm.ClassFile.FieldType.boolean) ∈ AL := al_t1 202 rfl rfl
theorem q_232 : Cond.methodLink "LentRoom$Text" 23 yX2_sign ∈ AL := al_t1 203 (by decide +kernel) rfl
theorem q_233 : Cond.instanceMethod yX2_sign ∈ AL := al_t1 204 (by decide +kernel) rfl
theorem q_234 : Cond.selects "LentRoom$Text" yX2_sign yX2_sign ∈ AL := al_t1 205 (by decide +kernel) rfl
set_option maxRecDepth 100000 in
theorem q_235 : Cond.code yX2_sign cX2_sign 2 (Option.some Jvm.ClassFile.FieldType.char) ∈ AL := al_t1 206 rfl rfl
theorem q_236 : Cond.methodLink "LentRoom$Text" 27 yX2_isDigit ∈ AL := al_t1 207 (by decide +kernel) rfl
theorem q_237 : Cond.instanceMethod yX2_isDigit ∈ AL := al_t1 208 (by decide +kernel) rfl
theorem q_238 : Cond.selects "LentRoom$Text" yX2_isDigit yX2_isDigit ∈ AL := al_t1 209 (by decide +kernel) rfl
set_option maxRecDepth 100000 in
theorem q_239 : Cond.code yX2_isDigit cX2_isDigit 2 (Option.some Jvm.ClassFile.FieldType.boolean) ∈ AL := al_t1 210 rfl rfl
theorem q_240 : Cond.methodLink "LentRoom$Text" 62 yX2_number ∈ AL := al_t1 211 (by decide +kernel) rfl
theorem q_241 : Cond.instanceMethod yX2_number ∈ AL := al_t1 212 (by decide +kernel) rfl
theorem q_242 : Cond.selects "LentRoom$Text" yX2_number yX2_number ∈ AL := al_t1 213 (by decide +kernel) rfl
set_option maxRecDepth 100000 in
theorem q_243 : Cond.code yX2_number cX2_number 5 (Option.some Jvm.ClassFile.FieldType.int) ∈ AL := al_t1 214 rfl rfl
theorem q_244 : Cond.methodLink "LentRoom$Text" 45 yX2_placesBehind ∈ AL := al_t1 215 (by decide +kernel) rfl
theorem q_245 : Cond.static yX2_placesBehind ∈ AL := al_t1 216 (by decide +kernel) rfl
set_option maxRecDepth 100000 in
theorem q_246 : Cond.code yX2_placesBehind cX2_placesBehind 1 (Option.some (Jvm.ClassFile.FieldType.object "java/lang/String")) ∈ AL := al_t1 217 rfl rfl
theorem q_252 : Cond.methodLink "LentRoom$Text" 49 yJ0_isEmpty_aae02 ∈ AL := al_t1 223 (by decide +kernel) rfl
theorem q_253 : Cond.instanceMethod yJ0_isEmpty_aae02 ∈ AL := al_t1 224 (by decide +kernel) rfl
theorem q_254 : Cond.selects "java/lang/String" yJ0_isEmpty_aae02 yJ0_isEmpty_aae02 ∈ AL := al_t1 225 (by decide +kernel) rfl
set_option maxRecDepth 100000 in
theorem q_255 : Cond.code yJ0_isEmpty_aae02 cJ0_isEmpty_aae02 1 (Option.some Jvm.ClassFile.FieldType.boolean) ∈ AL := al_t1 226 rfl rfl
theorem q_256 : Cond.arrayClass Jvm.ClassFile.FieldType.byte ∈ AL := al_t1 227 (by decide +kernel) rfl
theorem q_257 : Cond.methodLink "LentRoomLaw" 160 yX3_noisy ∈ AL := al_t1 228 (by decide +kernel) rfl
theorem q_258 : Cond.instanceMethod yX3_noisy ∈ AL := al_t1 229 (by decide +kernel) rfl
theorem q_259 : Cond.selects "LentRoom" yX3_noisy yX3_noisy ∈ AL := al_t1 230 (by decide +kernel) rfl
set_option maxRecDepth 100000 in
theorem q_260 : Cond.code yX3_noisy cX3_noisy 3 (Option.some Jvm.ClassFile.FieldType.int) ∈ AL := al_t1 231 rfl rfl
theorem q_261 : Cond.methodLink "LentRoom" 217 yX0_noiseOf ∈ AL := al_t1 232 (by decide +kernel) rfl
theorem q_262 : Cond.instanceMethod yX0_noiseOf ∈ AL := al_t1 233 (by decide +kernel) rfl
theorem q_263 : Cond.selects "LentRoom$Device" yX0_noiseOf yX0_noiseOf ∈ AL := al_t1 234 (by decide +kernel) rfl
set_option maxRecDepth 100000 in
theorem q_264 : Cond.code yX0_noiseOf cX0_noiseOf 2 (Option.some Jvm.ClassFile.FieldType.int) ∈ AL := al_t1 235 rfl rfl
theorem q_265 : Cond.methodLink "LentRoomLaw" 93 yL_append ∈ AL := al_t1 236 (by decide +kernel) rfl
theorem q_266 : Cond.static yL_append ∈ AL := al_t1 237 (by decide +kernel) rfl
set_option maxRecDepth 100000 in
theorem q_267 : Cond.codeWith yL_append cL_append 4 (Option.some Jvm.ClassFile.FieldType.int) [((0 : Nat), (9 : Nat), (12 : Nat), (13 : Nat)), ((0 : Nat), (9 : Nat), (15 : Nat), (15 : Nat))] ∈ AL := al_t1 238 rfl rfl
theorem q_268 : Cond.classLink "LentRoomLaw" 13 "java/lang/IllegalArgumentException" ∈ AL := al_t1 239 (by decide +kernel) rfl
theorem q_269 : Cond.classLink "LentRoomLaw" 15 "java/lang/IllegalStateException" ∈ AL := al_t2 0 (by decide +kernel) rfl
theorem q_270 : Cond.methodLink "LentRoomLaw" 7 yX3_append ∈ AL := al_t2 1 (by decide +kernel) rfl
theorem q_271 : Cond.instanceMethod yX3_append ∈ AL := al_t2 2 (by decide +kernel) rfl
theorem q_272 : Cond.selects "LentRoom" yX3_append yX3_append ∈ AL := al_t2 3 (by decide +kernel) rfl
set_option maxRecDepth 100000 in
theorem q_273 : Cond.code yX3_append cX3_append 2 (Option.some Jvm.ClassFile.FieldType.int) ∈ AL := al_t2 4 rfl rfl
theorem q_274 : Cond.classLink "LentRoom" 47 "java/lang/IllegalArgumentException" ∈ AL := al_t2 5 (by decide +kernel) rfl
theorem q_275 : Cond.instantiable "java/lang/IllegalArgumentException" 6 ∈ AL := al_t2 6 (by decide +kernel) rfl
theorem q_283 : Cond.selects "java/lang/IllegalArgumentException" ⟨"java/lang/Throwable", "fillInStackTrace", "(I)Ljava/lang/Throwable;"⟩ ⟨"java/lang/Throwable", "fillInStackTrace", "(I)Ljava/lang/Throwable;"⟩ ∈ AL := al_t2 14 (by decide +kernel) rfl
theorem q_284 : Cond.selects "java/lang/IllegalArgumentException" ⟨"java/lang/Throwable", "fillInStackTrace", "()Ljava/lang/Throwable;"⟩ ⟨"java/lang/Throwable", "fillInStackTrace", "()Ljava/lang/Throwable;"⟩ ∈ AL := al_t2 15 (by decide +kernel) rfl
theorem q_285 : Cond.lays "java/lang/IllegalArgumentException" "java/lang/Throwable" "cause" "Ljava/lang/Throwable;" ∈ AL := al_t2 16 (by decide +kernel) rfl
theorem q_286 : Cond.lays "java/lang/Throwable" "java/lang/Throwable" "cause" "Ljava/lang/Throwable;" ∈ AL := al_t2 17 (by decide +kernel) rfl
theorem q_287 : Cond.lays "java/lang/IllegalArgumentException" "java/lang/Throwable" "stackTrace" "[Ljava/lang/StackTraceElement;" ∈ AL := al_t2 18 (by decide +kernel) rfl
theorem q_288 : Cond.lays "java/lang/Throwable" "java/lang/Throwable" "stackTrace" "[Ljava/lang/StackTraceElement;" ∈ AL := al_t2 19 (by decide +kernel) rfl
theorem q_289 : Cond.lays "java/lang/IllegalArgumentException" "java/lang/Throwable" "suppressedExceptions" "Ljava/util/List;" ∈ AL := al_t2 20 (by decide +kernel) rfl
theorem q_290 : Cond.lays "java/lang/Throwable" "java/lang/Throwable" "suppressedExceptions" "Ljava/util/List;" ∈ AL := al_t2 21 (by decide +kernel) rfl
theorem q_291 : Cond.lays "java/lang/IllegalArgumentException" "java/lang/Throwable" "detailMessage" "Ljava/lang/String;" ∈ AL := al_t2 22 (by decide +kernel) rfl
theorem q_292 : Cond.lays "java/lang/Throwable" "java/lang/Throwable" "detailMessage" "Ljava/lang/String;" ∈ AL := al_t2 23 (by decide +kernel) rfl
theorem q_293 : Cond.lays "java/lang/IllegalArgumentException" "java/lang/Throwable" "backtrace" "Ljava/lang/Object;" ∈ AL := al_t2 24 (by decide +kernel) rfl
theorem q_294 : Cond.lays "java/lang/Throwable" "java/lang/Throwable" "backtrace" "Ljava/lang/Object;" ∈ AL := al_t2 25 (by decide +kernel) rfl
theorem q_295 : Cond.fieldLink "java/lang/Throwable" 198 "java/lang/Throwable" "backtrace" "Ljava/lang/Object;" ∈ AL := al_t2 26 (by decide +kernel) rfl
theorem q_296 : Cond.superclass "java/lang/Throwable" "java/lang/Object" ∈ AL := al_t2 27 (by decide +kernel) rfl
theorem q_297 : Cond.instanceMethod ⟨"java/lang/Throwable", "<init>", "()V"⟩ ∈ AL := al_t2 28 (by decide +kernel) rfl
set_option maxRecDepth 100000 in
theorem q_298 : Cond.code ⟨"java/lang/Throwable", "<init>", "()V"⟩ prog_17_method_1_code 1 (Option.none : Option Jvm.ClassFile.FieldType) ∈ AL := al_t2 29 rfl rfl
theorem q_299 : Cond.methodLink "java/lang/Throwable" 1 ⟨"java/lang/Object", "<init>", "()V"⟩ ∈ AL := al_t2 30 (by decide +kernel) rfl
theorem q_300 : Cond.fieldLink "java/lang/Throwable" 13 "java/lang/Throwable" "UNASSIGNED_STACK" "[Ljava/lang/StackTraceElement;" ∈ AL := al_t2 31 (by decide +kernel) rfl
theorem q_302 : Cond.fieldLink "java/lang/Throwable" 20 "java/lang/Throwable" "SUPPRESSED_SENTINEL" "Ljava/util/List;" ∈ AL := al_t2 33 (by decide +kernel) rfl
theorem q_304 : Cond.methodLink "java/lang/Throwable" 27 ⟨"java/lang/Throwable", "fillInStackTrace", "()Ljava/lang/Throwable;"⟩ ∈ AL := al_t2 35 (by decide +kernel) rfl
theorem q_305 : Cond.instanceMethod ⟨"java/lang/Throwable", "fillInStackTrace", "()Ljava/lang/Throwable;"⟩ ∈ AL := al_t2 36 (by decide +kernel) rfl
theorem q_306 : Cond.sameMethod "java/lang/Throwable" "java/lang/Throwable" "fillInStackTrace" "()Ljava/lang/Throwable;" ∈ AL := al_t2 37 (by decide +kernel) rfl
theorem q_307 : Cond.selects "java/lang/IllegalStateException" ⟨"java/lang/Throwable", "fillInStackTrace", "()Ljava/lang/Throwable;"⟩ ⟨"java/lang/Throwable", "fillInStackTrace", "()Ljava/lang/Throwable;"⟩ ∈ AL := al_t2 38 (by decide +kernel) rfl
theorem q_308 : Cond.selects "java/lang/IndexOutOfBoundsException" ⟨"java/lang/Throwable", "fillInStackTrace", "()Ljava/lang/Throwable;"⟩ ⟨"java/lang/Throwable", "fillInStackTrace", "()Ljava/lang/Throwable;"⟩ ∈ AL := al_t2 39 (by decide +kernel) rfl
theorem q_310 : Cond.methodLink "java/lang/Throwable" 202 ⟨"java/lang/Throwable", "fillInStackTrace", "(I)Ljava/lang/Throwable;"⟩ ∈ AL := al_t2 41 (by decide +kernel) rfl
theorem q_312 : Cond.instanceMethod ⟨"java/lang/Throwable", "fillInStackTrace", "(I)Ljava/lang/Throwable;"⟩ ∈ AL := al_t2 43 (by decide +kernel) rfl
theorem q_313 : Cond.instantiable "java/lang/Throwable" 6 ∈ AL := al_t2 44 (by decide +kernel) rfl
theorem q_314 : Cond.native ⟨"java/lang/Throwable", "fillInStackTrace", "(I)Ljava/lang/Throwable;"⟩ ∈ AL := al_t2 45 (by decide +kernel) rfl
theorem q_316 : Cond.methodLink "LentRoom" 51 ⟨"java/lang/IllegalArgumentException", "<init>", "(Ljava/lang/String;)V"⟩ ∈ AL := al_t2 47 (by decide +kernel) rfl
theorem q_317 : Cond.instanceMethod ⟨"java/lang/IllegalArgumentException", "<init>", "(Ljava/lang/String;)V"⟩ ∈ AL := al_t2 48 (by decide +kernel) rfl
set_option maxRecDepth 100000 in
theorem q_318 : Cond.code ⟨"java/lang/IllegalArgumentException", "<init>", "(Ljava/lang/String;)V"⟩ prog_8_method_2_code 2 (Option.none : Option Jvm.ClassFile.FieldType) ∈ AL := al_t2 49 rfl rfl
theorem q_319 : Cond.methodLink "java/lang/IllegalArgumentException" 7 ⟨"java/lang/RuntimeException", "<init>", "(Ljava/lang/String;)V"⟩ ∈ AL := al_t2 50 (by decide +kernel) rfl
theorem q_320 : Cond.instanceMethod ⟨"java/lang/RuntimeException", "<init>", "(Ljava/lang/String;)V"⟩ ∈ AL := al_t2 51 (by decide +kernel) rfl
set_option maxRecDepth 100000 in
theorem q_321 : Cond.code ⟨"java/lang/RuntimeException", "<init>", "(Ljava/lang/String;)V"⟩ prog_12_method_2_code 2 (Option.none : Option Jvm.ClassFile.FieldType) ∈ AL := al_t2 52 rfl rfl
theorem q_322 : Cond.methodLink "java/lang/RuntimeException" 7 ⟨"java/lang/Exception", "<init>", "(Ljava/lang/String;)V"⟩ ∈ AL := al_t2 53 (by decide +kernel) rfl
theorem q_323 : Cond.instanceMethod ⟨"java/lang/Exception", "<init>", "(Ljava/lang/String;)V"⟩ ∈ AL := al_t2 54 (by decide +kernel) rfl
set_option maxRecDepth 100000 in
theorem q_324 : Cond.code ⟨"java/lang/Exception", "<init>", "(Ljava/lang/String;)V"⟩ prog_7_method_2_code 2 (Option.none : Option Jvm.ClassFile.FieldType) ∈ AL := al_t2 55 rfl rfl
theorem q_325 : Cond.methodLink "java/lang/Exception" 7 ⟨"java/lang/Throwable", "<init>", "(Ljava/lang/String;)V"⟩ ∈ AL := al_t2 56 (by decide +kernel) rfl
theorem q_326 : Cond.instanceMethod ⟨"java/lang/Throwable", "<init>", "(Ljava/lang/String;)V"⟩ ∈ AL := al_t2 57 (by decide +kernel) rfl
set_option maxRecDepth 100000 in
theorem q_327 : Cond.code ⟨"java/lang/Throwable", "<init>", "(Ljava/lang/String;)V"⟩ prog_17_method_2_code 2 (Option.none : Option Jvm.ClassFile.FieldType) ∈ AL := al_t2 58 rfl rfl
theorem q_329 : Cond.fieldLink "java/lang/Throwable" 31 "java/lang/Throwable" "detailMessage" "Ljava/lang/String;" ∈ AL := al_t2 60 (by decide +kernel) rfl
theorem q_330 : Cond.fieldLink "java/lang/Throwable" 7 "java/lang/Throwable" "cause" "Ljava/lang/Throwable;" ∈ AL := al_t2 61 (by decide +kernel) rfl
theorem q_331 : Cond.fieldLink "java/lang/Throwable" 17 "java/lang/Throwable" "stackTrace" "[Ljava/lang/StackTraceElement;" ∈ AL := al_t2 62 (by decide +kernel) rfl
theorem q_332 : Cond.fieldLink "java/lang/Throwable" 24 "java/lang/Throwable" "suppressedExceptions" "Ljava/util/List;" ∈ AL := al_t2 63 (by decide +kernel) rfl
theorem q_337 : Cond.lays "java/lang/IllegalArgumentException" "java/lang/Throwable" "depth" "I" ∈ AL := al_t2 68 (by decide +kernel) rfl
theorem q_340 : Cond.superclass "java/lang/IllegalArgumentException" "java/lang/RuntimeException" ∈ AL := al_t2 71 (by decide +kernel) rfl
theorem q_341 : Cond.methodLink "LentRoom" 54 yX2_isFull ∈ AL := al_t2 72 (by decide +kernel) rfl
theorem q_342 : Cond.instanceMethod yX2_isFull ∈ AL := al_t2 73 (by decide +kernel) rfl
theorem q_343 : Cond.selects "LentRoom$Text" yX2_isFull yX2_isFull ∈ AL := al_t2 74 (by decide +kernel) rfl
set_option maxRecDepth 100000 in
theorem q_344 : Cond.code yX2_isFull cX2_isFull 1 (Option.some Jvm.ClassFile.FieldType.boolean) ∈ AL := al_t2 75 rfl rfl
theorem q_345 : Cond.classLink "LentRoom" 58 "java/lang/IllegalStateException" ∈ AL := al_t2 76 (by decide +kernel) rfl
theorem q_346 : Cond.instantiable "java/lang/IllegalStateException" 6 ∈ AL := al_t2 77 (by decide +kernel) rfl
theorem q_348 : Cond.selects "java/lang/IllegalStateException" ⟨"java/lang/Throwable", "fillInStackTrace", "(I)Ljava/lang/Throwable;"⟩ ⟨"java/lang/Throwable", "fillInStackTrace", "(I)Ljava/lang/Throwable;"⟩ ∈ AL := al_t2 79 (by decide +kernel) rfl
theorem q_349 : Cond.lays "java/lang/IllegalStateException" "java/lang/Throwable" "cause" "Ljava/lang/Throwable;" ∈ AL := al_t2 80 (by decide +kernel) rfl
theorem q_350 : Cond.lays "java/lang/IllegalStateException" "java/lang/Throwable" "stackTrace" "[Ljava/lang/StackTraceElement;" ∈ AL := al_t2 81 (by decide +kernel) rfl
theorem q_351 : Cond.lays "java/lang/IllegalStateException" "java/lang/Throwable" "suppressedExceptions" "Ljava/util/List;" ∈ AL := al_t2 82 (by decide +kernel) rfl
theorem q_352 : Cond.lays "java/lang/IllegalStateException" "java/lang/Throwable" "detailMessage" "Ljava/lang/String;" ∈ AL := al_t2 83 (by decide +kernel) rfl
theorem q_353 : Cond.lays "java/lang/IllegalStateException" "java/lang/Throwable" "backtrace" "Ljava/lang/Object;" ∈ AL := al_t2 84 (by decide +kernel) rfl
theorem q_355 : Cond.methodLink "LentRoom" 62 ⟨"java/lang/IllegalStateException", "<init>", "(Ljava/lang/String;)V"⟩ ∈ AL := al_t2 86 (by decide +kernel) rfl
theorem q_356 : Cond.instanceMethod ⟨"java/lang/IllegalStateException", "<init>", "(Ljava/lang/String;)V"⟩ ∈ AL := al_t2 87 (by decide +kernel) rfl
set_option maxRecDepth 100000 in
theorem q_357 : Cond.code ⟨"java/lang/IllegalStateException", "<init>", "(Ljava/lang/String;)V"⟩ prog_9_method_2_code 2 (Option.none : Option Jvm.ClassFile.FieldType) ∈ AL := al_t2 88 rfl rfl
theorem q_358 : Cond.methodLink "java/lang/IllegalStateException" 7 ⟨"java/lang/RuntimeException", "<init>", "(Ljava/lang/String;)V"⟩ ∈ AL := al_t2 89 (by decide +kernel) rfl
theorem q_359 : Cond.lays "java/lang/IllegalStateException" "java/lang/Throwable" "depth" "I" ∈ AL := al_t2 90 (by decide +kernel) rfl
theorem q_360 : Cond.superclass "java/lang/IllegalStateException" "java/lang/RuntimeException" ∈ AL := al_t2 91 (by decide +kernel) rfl
theorem q_361 : Cond.methodLink "LentRoom" 63 yX2_add ∈ AL := al_t2 92 (by decide +kernel) rfl
theorem q_362 : Cond.instanceMethod yX2_add ∈ AL := al_t2 93 (by decide +kernel) rfl
theorem q_363 : Cond.selects "LentRoom$Text" yX2_add yX2_add ∈ AL := al_t2 94 (by decide +kernel) rfl
set_option maxRecDepth 100000 in
theorem q_364 : Cond.code yX2_add cX2_add 2 (Option.some Jvm.ClassFile.FieldType.int) ∈ AL := al_t2 95 rfl rfl
theorem q_365 : Cond.methodLink "LentRoom$Text" 19 yX2_isFull ∈ AL := al_t2 96 (by decide +kernel) rfl
theorem q_366 : Cond.methodLink "LentRoomLaw" 110 yL_load ∈ AL := al_t2 97 (by decide +kernel) rfl
theorem q_367 : Cond.static yL_load ∈ AL := al_t2 98 (by decide +kernel) rfl
set_option maxRecDepth 100000 in
theorem q_368 : Cond.codeWith yL_load cL_load 3 (Option.some Jvm.ClassFile.FieldType.int) [((0 : Nat), (8 : Nat), (11 : Nat), (15 : Nat))] ∈ AL := al_t2 99 rfl rfl
theorem q_369 : Cond.methodLink "LentRoomLaw" 17 yX3_load ∈ AL := al_t2 100 (by decide +kernel) rfl
theorem q_370 : Cond.instanceMethod yX3_load ∈ AL := al_t2 101 (by decide +kernel) rfl
theorem q_371 : Cond.selects "LentRoom" yX3_load yX3_load ∈ AL := al_t2 102 (by decide +kernel) rfl
set_option maxRecDepth 100000 in
theorem q_372 : Cond.code yX3_load cX3_load 3 (Option.some Jvm.ClassFile.FieldType.int) ∈ AL := al_t2 103 rfl rfl
theorem q_374 : Cond.methodLink "LentRoom" 76 yX0_become ∈ AL := al_t2 105 (by decide +kernel) rfl
theorem q_375 : Cond.instanceMethod yX0_become ∈ AL := al_t2 106 (by decide +kernel) rfl
theorem q_376 : Cond.selects "LentRoom$Device" yX0_become yX0_become ∈ AL := al_t2 107 (by decide +kernel) rfl
set_option maxRecDepth 100000 in
theorem q_377 : Cond.code yX0_become cX0_become 3 (Option.none : Option Jvm.ClassFile.FieldType) ∈ AL := al_t2 108 rfl rfl
theorem q_378 : Cond.methodLink "LentRoom$Device" 48 yX0_copyRow ∈ AL := al_t2 109 (by decide +kernel) rfl
theorem q_379 : Cond.static yX0_copyRow ∈ AL := al_t2 110 (by decide +kernel) rfl
set_option maxRecDepth 100000 in
theorem q_380 : Cond.code yX0_copyRow cX0_copyRow 2 (Option.none : Option Jvm.ClassFile.FieldType) ∈ AL := al_t2 111 rfl rfl
theorem q_381 : Cond.methodLink "LentRoom$Device" 52 yJ9_min_7cf53 ∈ AL := al_t2 112 (by decide +kernel) rfl
theorem q_382 : Cond.static yJ9_min_7cf53 ∈ AL := al_t2 113 (by decide +kernel) rfl
set_option maxRecDepth 100000 in
theorem q_383 : Cond.code yJ9_min_7cf53 cJ9_min_7cf53 2 (Option.some Jvm.ClassFile.FieldType.int) ∈ AL := al_t2 114 rfl rfl
theorem q_384 : Cond.methodLink "LentRoom$Device" 58 ⟨"java/lang/System", "arraycopy", "(Ljava/lang/Object;ILjava/lang/Object;II)V"⟩ ∈ AL := al_t2 115 (by decide +kernel) rfl
theorem q_385 : Cond.static ⟨"java/lang/System", "arraycopy", "(Ljava/lang/Object;ILjava/lang/Object;II)V"⟩ ∈ AL := al_t2 116 (by decide +kernel) rfl
theorem q_386 : Cond.native ⟨"java/lang/System", "arraycopy", "(Ljava/lang/Object;ILjava/lang/Object;II)V"⟩ ∈ AL := al_t2 117 (by decide +kernel) rfl
theorem q_387 : Cond.methodLink "LentRoom" 80 yX1_forgetAll ∈ AL := al_t2 118 (by decide +kernel) rfl
theorem q_388 : Cond.instanceMethod yX1_forgetAll ∈ AL := al_t2 119 (by decide +kernel) rfl
theorem q_389 : Cond.selects "LentRoom$History" yX1_forgetAll yX1_forgetAll ∈ AL := al_t2 120 (by decide +kernel) rfl
set_option maxRecDepth 100000 in
theorem q_390 : Cond.code yX1_forgetAll cX1_forgetAll 1 (Option.none : Option Jvm.ClassFile.FieldType) ∈ AL := al_t2 121 rfl rfl
theorem q_391 : Cond.methodLink "LentRoom" 87 yX2_isDigit ∈ AL := al_t2 122 (by decide +kernel) rfl
theorem q_392 : Cond.methodLink "LentRoom" 91 yX3_obeyText ∈ AL := al_t2 123 (by decide +kernel) rfl
theorem q_394 : Cond.instanceMethod yX3_obeyText ∈ AL := al_t2 125 (by decide +kernel) rfl
set_option maxRecDepth 100000 in
theorem q_395 : Cond.code yX3_obeyText cX3_obeyText 7 (Option.some Jvm.ClassFile.FieldType.boolean) ∈ AL := al_t2 126 rfl rfl
theorem q_396 : Cond.methodLink "LentRoom" 94 yX2_number ∈ AL := al_t2 127 (by decide +kernel) rfl
theorem q_397 : Cond.methodLink "LentRoom" 98 yX2_sign ∈ AL := al_t2 128 (by decide +kernel) rfl
theorem q_398 : Cond.methodLink "LentRoom" 102 yX0_addSpace ∈ AL := al_t2 129 (by decide +kernel) rfl
theorem q_399 : Cond.instanceMethod yX0_addSpace ∈ AL := al_t2 130 (by decide +kernel) rfl
theorem q_400 : Cond.selects "LentRoom$Device" yX0_addSpace yX0_addSpace ∈ AL := al_t2 131 (by decide +kernel) rfl
set_option maxRecDepth 100000 in
theorem q_401 : Cond.code yX0_addSpace cX0_addSpace 3 (Option.some Jvm.ClassFile.FieldType.int) ∈ AL := al_t2 132 rfl rfl
theorem q_402 : Cond.methodLink "LentRoom$Device" 105 yX0_areBounds ∈ AL := al_t2 133 (by decide +kernel) rfl
theorem q_403 : Cond.instanceMethod yX0_areBounds ∈ AL := al_t2 134 (by decide +kernel) rfl
theorem q_404 : Cond.selects "LentRoom$Device" yX0_areBounds yX0_areBounds ∈ AL := al_t2 135 (by decide +kernel) rfl
set_option maxRecDepth 100000 in
theorem q_405 : Cond.code yX0_areBounds cX0_areBounds 3 (Option.some Jvm.ClassFile.FieldType.boolean) ∈ AL := al_t2 136 rfl rfl
theorem q_406 : Cond.methodLink "LentRoom$Device" 108 yX0_hasRoomForSpace ∈ AL := al_t2 137 (by decide +kernel) rfl
theorem q_407 : Cond.instanceMethod yX0_hasRoomForSpace ∈ AL := al_t2 138 (by decide +kernel) rfl
theorem q_408 : Cond.selects "LentRoom$Device" yX0_hasRoomForSpace yX0_hasRoomForSpace ∈ AL := al_t2 139 (by decide +kernel) rfl
set_option maxRecDepth 100000 in
theorem q_409 : Cond.code yX0_hasRoomForSpace cX0_hasRoomForSpace 2 (Option.some Jvm.ClassFile.FieldType.boolean) ∈ AL := al_t2 140 rfl rfl
theorem q_410 : Cond.methodLink "LentRoom$Device" 90 yX0_freeCommonRoom ∈ AL := al_t2 141 (by decide +kernel) rfl
theorem q_411 : Cond.instanceMethod yX0_freeCommonRoom ∈ AL := al_t2 142 (by decide +kernel) rfl
theorem q_412 : Cond.selects "LentRoom$Device" yX0_freeCommonRoom yX0_freeCommonRoom ∈ AL := al_t2 143 (by decide +kernel) rfl
set_option maxRecDepth 100000 in
theorem q_413 : Cond.code yX0_freeCommonRoom cX0_freeCommonRoom 1 (Option.some Jvm.ClassFile.FieldType.int) ∈ AL := al_t2 144 rfl rfl
theorem q_414 : Cond.methodLink "LentRoom$Device" 72 yX0_sum ∈ AL := al_t2 145 (by decide +kernel) rfl
theorem q_415 : Cond.static yX0_sum ∈ AL := al_t2 146 (by decide +kernel) rfl
set_option maxRecDepth 100000 in
theorem q_416 : Cond.code yX0_sum cX0_sum 6 (Option.some Jvm.ClassFile.FieldType.int) ∈ AL := al_t2 147 rfl rfl
theorem q_417 : Cond.methodLink "LentRoom" 105 yX0_putPage ∈ AL := al_t2 148 (by decide +kernel) rfl
theorem q_418 : Cond.instanceMethod yX0_putPage ∈ AL := al_t2 149 (by decide +kernel) rfl
theorem q_419 : Cond.selects "LentRoom$Device" yX0_putPage yX0_putPage ∈ AL := al_t2 150 (by decide +kernel) rfl
set_option maxRecDepth 100000 in
theorem q_420 : Cond.code yX0_putPage cX0_putPage 4 (Option.some Jvm.ClassFile.FieldType.int) ∈ AL := al_t2 151 rfl rfl
theorem q_421 : Cond.methodLink "LentRoom$Device" 68 yX0_hasPage ∈ AL := al_t2 152 (by decide +kernel) rfl
theorem q_422 : Cond.instanceMethod yX0_hasPage ∈ AL := al_t2 153 (by decide +kernel) rfl
theorem q_423 : Cond.selects "LentRoom$Device" yX0_hasPage yX0_hasPage ∈ AL := al_t2 154 (by decide +kernel) rfl
set_option maxRecDepth 100000 in
theorem q_424 : Cond.code yX0_hasPage cX0_hasPage 3 (Option.some Jvm.ClassFile.FieldType.boolean) ∈ AL := al_t2 155 rfl rfl
theorem q_425 : Cond.methodLink "LentRoom$Device" 64 yX0_hasSpace ∈ AL := al_t2 156 (by decide +kernel) rfl
theorem q_426 : Cond.instanceMethod yX0_hasSpace ∈ AL := al_t2 157 (by decide +kernel) rfl
theorem q_427 : Cond.selects "LentRoom$Device" yX0_hasSpace yX0_hasSpace ∈ AL := al_t2 158 (by decide +kernel) rfl
set_option maxRecDepth 100000 in
theorem q_428 : Cond.code yX0_hasSpace cX0_hasSpace 2 (Option.some Jvm.ClassFile.FieldType.boolean) ∈ AL := al_t2 159 rfl rfl
theorem q_429 : Cond.methodLink "LentRoom$Device" 123 yX0_isWritten ∈ AL := al_t2 160 (by decide +kernel) rfl
theorem q_430 : Cond.instanceMethod yX0_isWritten ∈ AL := al_t2 161 (by decide +kernel) rfl
theorem q_431 : Cond.selects "LentRoom$Device" yX0_isWritten yX0_isWritten ∈ AL := al_t2 162 (by decide +kernel) rfl
set_option maxRecDepth 100000 in
theorem q_432 : Cond.code yX0_isWritten cX0_isWritten 3 (Option.some Jvm.ClassFile.FieldType.boolean) ∈ AL := al_t2 163 rfl rfl
theorem q_433 : Cond.methodLink "LentRoom$Device" 126 yX0_takeBlock ∈ AL := al_t2 164 (by decide +kernel) rfl
theorem q_434 : Cond.instanceMethod yX0_takeBlock ∈ AL := al_t2 165 (by decide +kernel) rfl
theorem q_435 : Cond.selects "LentRoom$Device" yX0_takeBlock yX0_takeBlock ∈ AL := al_t2 166 (by decide +kernel) rfl
set_option maxRecDepth 100000 in
theorem q_436 : Cond.code yX0_takeBlock cX0_takeBlock 3 (Option.some Jvm.ClassFile.FieldType.int) ∈ AL := al_t2 167 rfl rfl
theorem q_437 : Cond.methodLink "LentRoom$Device" 76 yX0_pagesOf ∈ AL := al_t2 168 (by decide +kernel) rfl
theorem q_438 : Cond.instanceMethod yX0_pagesOf ∈ AL := al_t2 169 (by decide +kernel) rfl
theorem q_439 : Cond.selects "LentRoom$Device" yX0_pagesOf yX0_pagesOf ∈ AL := al_t2 170 (by decide +kernel) rfl
set_option maxRecDepth 100000 in
theorem q_440 : Cond.code yX0_pagesOf cX0_pagesOf 2 (Option.some Jvm.ClassFile.FieldType.int) ∈ AL := al_t2 171 rfl rfl
theorem q_441 : Cond.methodLink "LentRoom$Device" 80 yX0_idleOf ∈ AL := al_t2 172 (by decide +kernel) rfl
theorem q_442 : Cond.instanceMethod yX0_idleOf ∈ AL := al_t2 173 (by decide +kernel) rfl
theorem q_443 : Cond.selects "LentRoom$Device" yX0_idleOf yX0_idleOf ∈ AL := al_t2 174 (by decide +kernel) rfl
set_option maxRecDepth 100000 in
theorem q_444 : Cond.code yX0_idleOf cX0_idleOf 4 (Option.some Jvm.ClassFile.FieldType.int) ∈ AL := al_t2 175 rfl rfl
theorem q_445 : Cond.methodLink "LentRoom$Device" 132 yX0_recallLoan ∈ AL := al_t2 176 (by decide +kernel) rfl
theorem q_447 : Cond.instanceMethod yX0_recallLoan ∈ AL := al_t2 178 (by decide +kernel) rfl
set_option maxRecDepth 100000 in
theorem q_448 : Cond.code yX0_recallLoan cX0_recallLoan 4 (Option.none : Option Jvm.ClassFile.FieldType) ∈ AL := al_t2 179 rfl rfl
theorem q_449 : Cond.methodLink "LentRoom$Device" 139 yX0_greatestBorrower ∈ AL := al_t2 180 (by decide +kernel) rfl
theorem q_451 : Cond.instanceMethod yX0_greatestBorrower ∈ AL := al_t2 182 (by decide +kernel) rfl
set_option maxRecDepth 100000 in
theorem q_452 : Cond.code yX0_greatestBorrower cX0_greatestBorrower 4 (Option.some Jvm.ClassFile.FieldType.int) ∈ AL := al_t2 183 rfl rfl
theorem q_453 : Cond.methodLink "LentRoom$Device" 136 yX0_idlestBut ∈ AL := al_t2 184 (by decide +kernel) rfl
theorem q_455 : Cond.instanceMethod yX0_idlestBut ∈ AL := al_t2 186 (by decide +kernel) rfl
set_option maxRecDepth 100000 in
theorem q_456 : Cond.code yX0_idlestBut cX0_idlestBut 7 (Option.some Jvm.ClassFile.FieldType.int) ∈ AL := al_t2 187 rfl rfl
theorem q_457 : Cond.methodLink "LentRoom$Device" 142 yX0_loseOldest ∈ AL := al_t2 188 (by decide +kernel) rfl
theorem q_459 : Cond.instanceMethod yX0_loseOldest ∈ AL := al_t2 190 (by decide +kernel) rfl
set_option maxRecDepth 100000 in
theorem q_460 : Cond.code yX0_loseOldest cX0_loseOldest 3 (Option.none : Option Jvm.ClassFile.FieldType) ∈ AL := al_t2 191 rfl rfl
theorem q_461 : Cond.methodLink "LentRoom$Device" 102 yX0_oldestAfter ∈ AL := al_t2 192 (by decide +kernel) rfl
theorem q_463 : Cond.instanceMethod yX0_oldestAfter ∈ AL := al_t2 194 (by decide +kernel) rfl
set_option maxRecDepth 100000 in
theorem q_464 : Cond.code yX0_oldestAfter cX0_oldestAfter 5 (Option.some Jvm.ClassFile.FieldType.int) ∈ AL := al_t2 195 rfl rfl
theorem q_465 : Cond.methodLink "LentRoom" 108 yX0_dropPage ∈ AL := al_t2 196 (by decide +kernel) rfl
theorem q_466 : Cond.instanceMethod yX0_dropPage ∈ AL := al_t2 197 (by decide +kernel) rfl
theorem q_467 : Cond.selects "LentRoom$Device" yX0_dropPage yX0_dropPage ∈ AL := al_t2 198 (by decide +kernel) rfl
set_option maxRecDepth 100000 in
theorem q_468 : Cond.code yX0_dropPage cX0_dropPage 4 (Option.some Jvm.ClassFile.FieldType.boolean) ∈ AL := al_t2 199 rfl rfl
theorem q_469 : Cond.methodLink "LentRoom$Device" 129 yX0_greatestLender ∈ AL := al_t2 200 (by decide +kernel) rfl
theorem q_471 : Cond.instanceMethod yX0_greatestLender ∈ AL := al_t2 202 (by decide +kernel) rfl
set_option maxRecDepth 100000 in
theorem q_472 : Cond.code yX0_greatestLender cX0_greatestLender 4 (Option.some Jvm.ClassFile.FieldType.int) ∈ AL := al_t2 203 rfl rfl
theorem q_473 : Cond.methodLink "LentRoom" 112 yX0_changeFloor ∈ AL := al_t2 204 (by decide +kernel) rfl
theorem q_474 : Cond.instanceMethod yX0_changeFloor ∈ AL := al_t2 205 (by decide +kernel) rfl
theorem q_475 : Cond.selects "LentRoom$Device" yX0_changeFloor yX0_changeFloor ∈ AL := al_t2 206 (by decide +kernel) rfl
set_option maxRecDepth 100000 in
theorem q_476 : Cond.code yX0_changeFloor cX0_changeFloor 3 (Option.some Jvm.ClassFile.FieldType.boolean) ∈ AL := al_t2 207 rfl rfl
theorem q_477 : Cond.methodLink "LentRoom$Device" 117 yX0_takesFloor ∈ AL := al_t2 208 (by decide +kernel) rfl
theorem q_478 : Cond.instanceMethod yX0_takesFloor ∈ AL := al_t2 209 (by decide +kernel) rfl
theorem q_479 : Cond.selects "LentRoom$Device" yX0_takesFloor yX0_takesFloor ∈ AL := al_t2 210 (by decide +kernel) rfl
set_option maxRecDepth 100000 in
theorem q_480 : Cond.code yX0_takesFloor cX0_takesFloor 3 (Option.some Jvm.ClassFile.FieldType.boolean) ∈ AL := al_t2 211 rfl rfl
theorem q_481 : Cond.methodLink "LentRoom$Device" 111 yX0_smallestFloor ∈ AL := al_t2 212 (by decide +kernel) rfl
theorem q_482 : Cond.instanceMethod yX0_smallestFloor ∈ AL := al_t2 213 (by decide +kernel) rfl
theorem q_483 : Cond.selects "LentRoom$Device" yX0_smallestFloor yX0_smallestFloor ∈ AL := al_t2 214 (by decide +kernel) rfl
set_option maxRecDepth 100000 in
theorem q_484 : Cond.code yX0_smallestFloor cX0_smallestFloor 2 (Option.some Jvm.ClassFile.FieldType.int) ∈ AL := al_t2 215 rfl rfl
theorem q_485 : Cond.methodLink "LentRoom$Device" 114 yX0_greatestFloor ∈ AL := al_t2 216 (by decide +kernel) rfl
theorem q_486 : Cond.instanceMethod yX0_greatestFloor ∈ AL := al_t2 217 (by decide +kernel) rfl
theorem q_487 : Cond.selects "LentRoom$Device" yX0_greatestFloor yX0_greatestFloor ∈ AL := al_t2 218 (by decide +kernel) rfl
set_option maxRecDepth 100000 in
theorem q_488 : Cond.code yX0_greatestFloor cX0_greatestFloor 2 (Option.some Jvm.ClassFile.FieldType.int) ∈ AL := al_t2 219 rfl rfl
theorem q_489 : Cond.methodLink "LentRoomLaw" 114 yL_about ∈ AL := al_t2 220 (by decide +kernel) rfl
theorem q_490 : Cond.static yL_about ∈ AL := al_t2 221 (by decide +kernel) rfl
set_option maxRecDepth 100000 in
theorem q_491 : Cond.codeWith yL_about cL_about 4 (Option.some Jvm.ClassFile.FieldType.int) [((0 : Nat), (9 : Nat), (12 : Nat), (13 : Nat))] ∈ AL := al_t2 222 rfl rfl
theorem q_492 : Cond.methodLink "LentRoomLaw" 21 yX3_about ∈ AL := al_t2 223 (by decide +kernel) rfl
theorem q_493 : Cond.instanceMethod yX3_about ∈ AL := al_t2 224 (by decide +kernel) rfl
theorem q_494 : Cond.selects "LentRoom" yX3_about yX3_about ∈ AL := al_t2 225 (by decide +kernel) rfl
set_option maxRecDepth 100000 in
theorem q_495 : Cond.code yX3_about cX3_about 2 (Option.some Jvm.ClassFile.FieldType.int) ∈ AL := al_t2 226 rfl rfl
theorem q_497 : Cond.methodLink "LentRoom" 117 yX0_numberOfAll ∈ AL := al_t2 228 (by decide +kernel) rfl
theorem q_498 : Cond.instanceMethod yX0_numberOfAll ∈ AL := al_t2 229 (by decide +kernel) rfl
theorem q_499 : Cond.selects "LentRoom$Device" yX0_numberOfAll yX0_numberOfAll ∈ AL := al_t2 230 (by decide +kernel) rfl
set_option maxRecDepth 100000 in
theorem q_500 : Cond.code yX0_numberOfAll cX0_numberOfAll 2 (Option.some Jvm.ClassFile.FieldType.int) ∈ AL := al_t2 231 rfl rfl
theorem q_501 : Cond.methodLink "LentRoom$Device" 83 yX0_pagesOfAll ∈ AL := al_t2 232 (by decide +kernel) rfl
theorem q_502 : Cond.instanceMethod yX0_pagesOfAll ∈ AL := al_t2 233 (by decide +kernel) rfl
theorem q_503 : Cond.selects "LentRoom$Device" yX0_pagesOfAll yX0_pagesOfAll ∈ AL := al_t2 234 (by decide +kernel) rfl
set_option maxRecDepth 100000 in
theorem q_504 : Cond.code yX0_pagesOfAll cX0_pagesOfAll 3 (Option.some Jvm.ClassFile.FieldType.int) ∈ AL := al_t2 235 rfl rfl
theorem q_505 : Cond.methodLink "LentRoom$Device" 87 yX0_commonRoom ∈ AL := al_t2 236 (by decide +kernel) rfl
theorem q_506 : Cond.instanceMethod yX0_commonRoom ∈ AL := al_t2 237 (by decide +kernel) rfl
theorem q_507 : Cond.selects "LentRoom$Device" yX0_commonRoom yX0_commonRoom ∈ AL := al_t2 238 (by decide +kernel) rfl
set_option maxRecDepth 100000 in
theorem q_508 : Cond.code yX0_commonRoom cX0_commonRoom 1 (Option.some Jvm.ClassFile.FieldType.int) ∈ AL := al_t2 239 rfl rfl
theorem q_509 : Cond.methodLink "LentRoom$Device" 93 yX0_loansOfAll ∈ AL := al_t3 0 (by decide +kernel) rfl
theorem q_510 : Cond.instanceMethod yX0_loansOfAll ∈ AL := al_t3 1 (by decide +kernel) rfl
theorem q_511 : Cond.selects "LentRoom$Device" yX0_loansOfAll yX0_loansOfAll ∈ AL := al_t3 2 (by decide +kernel) rfl
set_option maxRecDepth 100000 in
theorem q_512 : Cond.code yX0_loansOfAll cX0_loansOfAll 3 (Option.some Jvm.ClassFile.FieldType.int) ∈ AL := al_t3 3 rfl rfl
theorem q_513 : Cond.methodLink "LentRoom$Device" 96 yX0_lostByAll ∈ AL := al_t3 4 (by decide +kernel) rfl
theorem q_514 : Cond.instanceMethod yX0_lostByAll ∈ AL := al_t3 5 (by decide +kernel) rfl
theorem q_515 : Cond.selects "LentRoom$Device" yX0_lostByAll yX0_lostByAll ∈ AL := al_t3 6 (by decide +kernel) rfl
set_option maxRecDepth 100000 in
theorem q_516 : Cond.code yX0_lostByAll cX0_lostByAll 1 (Option.some Jvm.ClassFile.FieldType.int) ∈ AL := al_t3 7 rfl rfl
theorem q_517 : Cond.methodLink "LentRoomLaw" 117 yL_space ∈ AL := al_t3 8 (by decide +kernel) rfl
theorem q_518 : Cond.static yL_space ∈ AL := al_t3 9 (by decide +kernel) rfl
set_option maxRecDepth 100000 in
theorem q_519 : Cond.codeWith yL_space cL_space 5 (Option.some Jvm.ClassFile.FieldType.int) [((0 : Nat), (10 : Nat), (13 : Nat), (28 : Nat)), ((0 : Nat), (10 : Nat), (17 : Nat), (13 : Nat))] ∈ AL := al_t3 10 rfl rfl
theorem q_520 : Cond.classLink "LentRoomLaw" 28 "java/lang/IndexOutOfBoundsException" ∈ AL := al_t3 11 (by decide +kernel) rfl
theorem q_521 : Cond.methodLink "LentRoomLaw" 24 yX3_space ∈ AL := al_t3 12 (by decide +kernel) rfl
theorem q_522 : Cond.instanceMethod yX3_space ∈ AL := al_t3 13 (by decide +kernel) rfl
theorem q_523 : Cond.selects "LentRoom" yX3_space yX3_space ∈ AL := al_t3 14 (by decide +kernel) rfl
set_option maxRecDepth 100000 in
theorem q_524 : Cond.code yX3_space cX3_space 3 (Option.some Jvm.ClassFile.FieldType.int) ∈ AL := al_t3 15 rfl rfl
theorem q_525 : Cond.methodLink "LentRoom" 121 yX3_needSpace ∈ AL := al_t3 16 (by decide +kernel) rfl
theorem q_527 : Cond.instanceMethod yX3_needSpace ∈ AL := al_t3 18 (by decide +kernel) rfl
set_option maxRecDepth 100000 in
theorem q_528 : Cond.code yX3_needSpace cX3_needSpace 2 (Option.none : Option Jvm.ClassFile.FieldType) ∈ AL := al_t3 19 rfl rfl
theorem q_529 : Cond.methodLink "LentRoom" 239 yX0_hasSpace ∈ AL := al_t3 20 (by decide +kernel) rfl
theorem q_530 : Cond.classLink "LentRoom" 268 "java/lang/IndexOutOfBoundsException" ∈ AL := al_t3 21 (by decide +kernel) rfl
theorem q_531 : Cond.instantiable "java/lang/IndexOutOfBoundsException" 6 ∈ AL := al_t3 22 (by decide +kernel) rfl
theorem q_533 : Cond.selects "java/lang/IndexOutOfBoundsException" ⟨"java/lang/Throwable", "fillInStackTrace", "(I)Ljava/lang/Throwable;"⟩ ⟨"java/lang/Throwable", "fillInStackTrace", "(I)Ljava/lang/Throwable;"⟩ ∈ AL := al_t3 24 (by decide +kernel) rfl
theorem q_534 : Cond.lays "java/lang/IndexOutOfBoundsException" "java/lang/Throwable" "cause" "Ljava/lang/Throwable;" ∈ AL := al_t3 25 (by decide +kernel) rfl
theorem q_535 : Cond.lays "java/lang/IndexOutOfBoundsException" "java/lang/Throwable" "stackTrace" "[Ljava/lang/StackTraceElement;" ∈ AL := al_t3 26 (by decide +kernel) rfl
theorem q_536 : Cond.lays "java/lang/IndexOutOfBoundsException" "java/lang/Throwable" "suppressedExceptions" "Ljava/util/List;" ∈ AL := al_t3 27 (by decide +kernel) rfl
theorem q_537 : Cond.lays "java/lang/IndexOutOfBoundsException" "java/lang/Throwable" "detailMessage" "Ljava/lang/String;" ∈ AL := al_t3 28 (by decide +kernel) rfl
theorem q_538 : Cond.lays "java/lang/IndexOutOfBoundsException" "java/lang/Throwable" "backtrace" "Ljava/lang/Object;" ∈ AL := al_t3 29 (by decide +kernel) rfl
theorem q_540 : Cond.methodLink "LentRoom" 272 ⟨"java/lang/IndexOutOfBoundsException", "<init>", "(Ljava/lang/String;)V"⟩ ∈ AL := al_t3 31 (by decide +kernel) rfl
theorem q_541 : Cond.instanceMethod ⟨"java/lang/IndexOutOfBoundsException", "<init>", "(Ljava/lang/String;)V"⟩ ∈ AL := al_t3 32 (by decide +kernel) rfl
set_option maxRecDepth 100000 in
theorem q_542 : Cond.code ⟨"java/lang/IndexOutOfBoundsException", "<init>", "(Ljava/lang/String;)V"⟩ prog_10_method_2_code 2 (Option.none : Option Jvm.ClassFile.FieldType) ∈ AL := al_t3 33 rfl rfl
theorem q_543 : Cond.methodLink "java/lang/IndexOutOfBoundsException" 7 ⟨"java/lang/RuntimeException", "<init>", "(Ljava/lang/String;)V"⟩ ∈ AL := al_t3 34 (by decide +kernel) rfl
theorem q_544 : Cond.lays "java/lang/IndexOutOfBoundsException" "java/lang/Throwable" "depth" "I" ∈ AL := al_t3 35 (by decide +kernel) rfl
theorem q_545 : Cond.superclass "java/lang/IndexOutOfBoundsException" "java/lang/RuntimeException" ∈ AL := al_t3 36 (by decide +kernel) rfl
theorem q_546 : Cond.methodLink "LentRoom" 125 yX0_sizeOf ∈ AL := al_t3 37 (by decide +kernel) rfl
theorem q_547 : Cond.instanceMethod yX0_sizeOf ∈ AL := al_t3 38 (by decide +kernel) rfl
theorem q_548 : Cond.selects "LentRoom$Device" yX0_sizeOf yX0_sizeOf ∈ AL := al_t3 39 (by decide +kernel) rfl
set_option maxRecDepth 100000 in
theorem q_549 : Cond.code yX0_sizeOf cX0_sizeOf 3 (Option.some Jvm.ClassFile.FieldType.int) ∈ AL := al_t3 40 rfl rfl
theorem q_550 : Cond.methodLink "LentRoom$Device" 99 yX0_lendsOf ∈ AL := al_t3 41 (by decide +kernel) rfl
theorem q_551 : Cond.instanceMethod yX0_lendsOf ∈ AL := al_t3 42 (by decide +kernel) rfl
theorem q_552 : Cond.selects "LentRoom$Device" yX0_lendsOf yX0_lendsOf ∈ AL := al_t3 43 (by decide +kernel) rfl
set_option maxRecDepth 100000 in
theorem q_553 : Cond.code yX0_lendsOf cX0_lendsOf 2 (Option.some Jvm.ClassFile.FieldType.int) ∈ AL := al_t3 44 rfl rfl
theorem q_554 : Cond.methodLink "LentRoom" 128 yX0_countOf ∈ AL := al_t3 45 (by decide +kernel) rfl
theorem q_555 : Cond.instanceMethod yX0_countOf ∈ AL := al_t3 46 (by decide +kernel) rfl
theorem q_556 : Cond.selects "LentRoom$Device" yX0_countOf yX0_countOf ∈ AL := al_t3 47 (by decide +kernel) rfl
set_option maxRecDepth 100000 in
theorem q_557 : Cond.code yX0_countOf cX0_countOf 3 (Option.some Jvm.ClassFile.FieldType.int) ∈ AL := al_t3 48 rfl rfl
theorem q_558 : Cond.methodLink "LentRoomLaw" 121 yL_loans ∈ AL := al_t3 49 (by decide +kernel) rfl
theorem q_559 : Cond.static yL_loans ∈ AL := al_t3 50 (by decide +kernel) rfl
set_option maxRecDepth 100000 in
theorem q_560 : Cond.codeWith yL_loans cL_loans 5 (Option.some Jvm.ClassFile.FieldType.int) [((0 : Nat), (10 : Nat), (13 : Nat), (28 : Nat))] ∈ AL := al_t3 51 rfl rfl
theorem q_561 : Cond.methodLink "LentRoomLaw" 30 yX3_loans ∈ AL := al_t3 52 (by decide +kernel) rfl
theorem q_562 : Cond.instanceMethod yX3_loans ∈ AL := al_t3 53 (by decide +kernel) rfl
theorem q_563 : Cond.selects "LentRoom" yX3_loans yX3_loans ∈ AL := al_t3 54 (by decide +kernel) rfl
set_option maxRecDepth 100000 in
theorem q_564 : Cond.code yX3_loans cX3_loans 3 (Option.some Jvm.ClassFile.FieldType.int) ∈ AL := al_t3 55 rfl rfl
theorem q_565 : Cond.methodLink "LentRoomLaw" 124 yL_time ∈ AL := al_t3 56 (by decide +kernel) rfl
theorem q_566 : Cond.static yL_time ∈ AL := al_t3 57 (by decide +kernel) rfl
set_option maxRecDepth 100000 in
theorem q_567 : Cond.codeWith yL_time cL_time 5 (Option.some Jvm.ClassFile.FieldType.int) [((0 : Nat), (10 : Nat), (13 : Nat), (28 : Nat))] ∈ AL := al_t3 58 rfl rfl
theorem q_568 : Cond.methodLink "LentRoomLaw" 33 yX3_time ∈ AL := al_t3 59 (by decide +kernel) rfl
theorem q_569 : Cond.instanceMethod yX3_time ∈ AL := al_t3 60 (by decide +kernel) rfl
theorem q_570 : Cond.selects "LentRoom" yX3_time yX3_time ∈ AL := al_t3 61 (by decide +kernel) rfl
set_option maxRecDepth 100000 in
theorem q_571 : Cond.code yX3_time cX3_time 3 (Option.some Jvm.ClassFile.FieldType.int) ∈ AL := al_t3 62 rfl rfl
theorem q_572 : Cond.methodLink "LentRoom" 135 yX3_needPage ∈ AL := al_t3 63 (by decide +kernel) rfl
theorem q_574 : Cond.instanceMethod yX3_needPage ∈ AL := al_t3 65 (by decide +kernel) rfl
set_option maxRecDepth 100000 in
theorem q_575 : Cond.code yX3_needPage cX3_needPage 3 (Option.none : Option Jvm.ClassFile.FieldType) ∈ AL := al_t3 66 rfl rfl
theorem q_576 : Cond.methodLink "LentRoom" 273 yX0_hasPage ∈ AL := al_t3 67 (by decide +kernel) rfl
theorem q_578 : Cond.methodLink "LentRoom" 139 yX0_isWritten ∈ AL := al_t3 69 (by decide +kernel) rfl
theorem q_579 : Cond.methodLink "LentRoomLaw" 127 yL_oldest ∈ AL := al_t3 70 (by decide +kernel) rfl
theorem q_580 : Cond.static yL_oldest ∈ AL := al_t3 71 (by decide +kernel) rfl
set_option maxRecDepth 100000 in
theorem q_581 : Cond.codeWith yL_oldest cL_oldest 5 (Option.some Jvm.ClassFile.FieldType.int) [((0 : Nat), (10 : Nat), (13 : Nat), (28 : Nat)), ((0 : Nat), (10 : Nat), (17 : Nat), (13 : Nat))] ∈ AL := al_t3 72 rfl rfl
theorem q_582 : Cond.methodLink "LentRoomLaw" 36 yX3_oldest ∈ AL := al_t3 73 (by decide +kernel) rfl
theorem q_583 : Cond.instanceMethod yX3_oldest ∈ AL := al_t3 74 (by decide +kernel) rfl
theorem q_584 : Cond.selects "LentRoom" yX3_oldest yX3_oldest ∈ AL := al_t3 75 (by decide +kernel) rfl
set_option maxRecDepth 100000 in
theorem q_585 : Cond.code yX3_oldest cX3_oldest 3 (Option.some Jvm.ClassFile.FieldType.int) ∈ AL := al_t3 76 rfl rfl
theorem q_587 : Cond.methodLink "LentRoom" 147 yX0_pageByAge ∈ AL := al_t3 78 (by decide +kernel) rfl
theorem q_588 : Cond.instanceMethod yX0_pageByAge ∈ AL := al_t3 79 (by decide +kernel) rfl
theorem q_589 : Cond.selects "LentRoom$Device" yX0_pageByAge yX0_pageByAge ∈ AL := al_t3 80 (by decide +kernel) rfl
set_option maxRecDepth 100000 in
theorem q_590 : Cond.code yX0_pageByAge cX0_pageByAge 5 (Option.some Jvm.ClassFile.FieldType.int) ∈ AL := al_t3 81 rfl rfl
theorem q_591 : Cond.methodLink "LentRoomLaw" 130 yL_make ∈ AL := al_t3 82 (by decide +kernel) rfl
theorem q_592 : Cond.static yL_make ∈ AL := al_t3 83 (by decide +kernel) rfl
set_option maxRecDepth 100000 in
theorem q_593 : Cond.codeWith yL_make cL_make 5 (Option.some Jvm.ClassFile.FieldType.int) [((0 : Nat), (10 : Nat), (13 : Nat), (13 : Nat)), ((0 : Nat), (10 : Nat), (17 : Nat), (15 : Nat))] ∈ AL := al_t3 84 rfl rfl
theorem q_594 : Cond.methodLink "LentRoomLaw" 39 yX3_make ∈ AL := al_t3 85 (by decide +kernel) rfl
theorem q_595 : Cond.instanceMethod yX3_make ∈ AL := al_t3 86 (by decide +kernel) rfl
theorem q_596 : Cond.selects "LentRoom" yX3_make yX3_make ∈ AL := al_t3 87 (by decide +kernel) rfl
set_option maxRecDepth 100000 in
theorem q_597 : Cond.code yX3_make cX3_make 3 (Option.some Jvm.ClassFile.FieldType.int) ∈ AL := al_t3 88 rfl rfl
theorem q_598 : Cond.methodLink "LentRoom" 150 yX0_areBounds ∈ AL := al_t3 89 (by decide +kernel) rfl
theorem q_600 : Cond.methodLink "LentRoom" 155 yX0_hasRoomForSpace ∈ AL := al_t3 91 (by decide +kernel) rfl
theorem q_602 : Cond.methodLink "LentRoom" 160 yX1_remember ∈ AL := al_t3 93 (by decide +kernel) rfl
theorem q_603 : Cond.instanceMethod yX1_remember ∈ AL := al_t3 94 (by decide +kernel) rfl
theorem q_604 : Cond.selects "LentRoom$History" yX1_remember yX1_remember ∈ AL := al_t3 95 (by decide +kernel) rfl
set_option maxRecDepth 100000 in
theorem q_605 : Cond.code yX1_remember cX1_remember 2 (Option.none : Option Jvm.ClassFile.FieldType) ∈ AL := al_t3 96 rfl rfl
theorem q_606 : Cond.methodLink "LentRoom$History" 25 yX0_become ∈ AL := al_t3 97 (by decide +kernel) rfl
theorem q_607 : Cond.methodLink "LentRoomLaw" 133 yL_write ∈ AL := al_t3 98 (by decide +kernel) rfl
theorem q_608 : Cond.static yL_write ∈ AL := al_t3 99 (by decide +kernel) rfl
set_option maxRecDepth 100000 in
theorem q_609 : Cond.codeWith yL_write cL_write 5 (Option.some Jvm.ClassFile.FieldType.int) [((0 : Nat), (10 : Nat), (13 : Nat), (28 : Nat))] ∈ AL := al_t3 100 rfl rfl
theorem q_610 : Cond.methodLink "LentRoomLaw" 42 yX3_write ∈ AL := al_t3 101 (by decide +kernel) rfl
theorem q_611 : Cond.instanceMethod yX3_write ∈ AL := al_t3 102 (by decide +kernel) rfl
theorem q_612 : Cond.selects "LentRoom" yX3_write yX3_write ∈ AL := al_t3 103 (by decide +kernel) rfl
set_option maxRecDepth 100000 in
theorem q_613 : Cond.code yX3_write cX3_write 3 (Option.some Jvm.ClassFile.FieldType.int) ∈ AL := al_t3 104 rfl rfl
theorem q_614 : Cond.methodLink "LentRoomLaw" 136 yL_trim ∈ AL := al_t3 105 (by decide +kernel) rfl
theorem q_615 : Cond.static yL_trim ∈ AL := al_t3 106 (by decide +kernel) rfl
set_option maxRecDepth 100000 in
theorem q_616 : Cond.codeWith yL_trim cL_trim 5 (Option.some Jvm.ClassFile.FieldType.int) [((0 : Nat), (10 : Nat), (13 : Nat), (28 : Nat)), ((0 : Nat), (10 : Nat), (17 : Nat), (15 : Nat))] ∈ AL := al_t3 107 rfl rfl
theorem q_617 : Cond.methodLink "LentRoomLaw" 45 yX3_trim ∈ AL := al_t3 108 (by decide +kernel) rfl
theorem q_618 : Cond.instanceMethod yX3_trim ∈ AL := al_t3 109 (by decide +kernel) rfl
theorem q_619 : Cond.selects "LentRoom" yX3_trim yX3_trim ∈ AL := al_t3 110 (by decide +kernel) rfl
set_option maxRecDepth 100000 in
theorem q_620 : Cond.code yX3_trim cX3_trim 3 (Option.some Jvm.ClassFile.FieldType.int) ∈ AL := al_t3 111 rfl rfl
theorem q_622 : Cond.methodLink "LentRoom" 165 yX0_pagesOf ∈ AL := al_t3 113 (by decide +kernel) rfl
theorem q_623 : Cond.methodLink "LentRoomLaw" 139 yL_setFloor ∈ AL := al_t3 114 (by decide +kernel) rfl
theorem q_624 : Cond.static yL_setFloor ∈ AL := al_t3 115 (by decide +kernel) rfl
set_option maxRecDepth 100000 in
theorem q_625 : Cond.codeWith yL_setFloor cL_setFloor 5 (Option.some Jvm.ClassFile.FieldType.int) [((0 : Nat), (10 : Nat), (13 : Nat), (28 : Nat)), ((0 : Nat), (10 : Nat), (17 : Nat), (13 : Nat)), ((0 : Nat), (10 : Nat), (21 : Nat), (15 : Nat))] ∈ AL := al_t3 116 rfl rfl
theorem q_626 : Cond.methodLink "LentRoomLaw" 48 yX3_setFloor ∈ AL := al_t3 117 (by decide +kernel) rfl
theorem q_627 : Cond.instanceMethod yX3_setFloor ∈ AL := al_t3 118 (by decide +kernel) rfl
theorem q_628 : Cond.selects "LentRoom" yX3_setFloor yX3_setFloor ∈ AL := al_t3 119 (by decide +kernel) rfl
set_option maxRecDepth 100000 in
theorem q_629 : Cond.code yX3_setFloor cX3_setFloor 4 (Option.some Jvm.ClassFile.FieldType.int) ∈ AL := al_t3 120 rfl rfl
theorem q_631 : Cond.methodLink "LentRoom" 170 yX0_takesFloor ∈ AL := al_t3 122 (by decide +kernel) rfl
theorem q_633 : Cond.methodLink "LentRoomLaw" 142 yL_setCeiling ∈ AL := al_t3 124 (by decide +kernel) rfl
theorem q_634 : Cond.static yL_setCeiling ∈ AL := al_t3 125 (by decide +kernel) rfl
set_option maxRecDepth 100000 in
theorem q_635 : Cond.codeWith yL_setCeiling cL_setCeiling 5 (Option.some Jvm.ClassFile.FieldType.int) [((0 : Nat), (10 : Nat), (13 : Nat), (28 : Nat)), ((0 : Nat), (10 : Nat), (17 : Nat), (13 : Nat))] ∈ AL := al_t3 126 rfl rfl
theorem q_636 : Cond.methodLink "LentRoomLaw" 51 yX3_setCeiling ∈ AL := al_t3 127 (by decide +kernel) rfl
theorem q_637 : Cond.instanceMethod yX3_setCeiling ∈ AL := al_t3 128 (by decide +kernel) rfl
theorem q_638 : Cond.selects "LentRoom" yX3_setCeiling yX3_setCeiling ∈ AL := al_t3 129 (by decide +kernel) rfl
set_option maxRecDepth 100000 in
theorem q_639 : Cond.code yX3_setCeiling cX3_setCeiling 4 (Option.some Jvm.ClassFile.FieldType.int) ∈ AL := al_t3 130 rfl rfl
theorem q_640 : Cond.methodLink "LentRoom" 179 yX0_takesCeiling ∈ AL := al_t3 131 (by decide +kernel) rfl
theorem q_641 : Cond.instanceMethod yX0_takesCeiling ∈ AL := al_t3 132 (by decide +kernel) rfl
theorem q_642 : Cond.selects "LentRoom$Device" yX0_takesCeiling yX0_takesCeiling ∈ AL := al_t3 133 (by decide +kernel) rfl
set_option maxRecDepth 100000 in
theorem q_643 : Cond.code yX0_takesCeiling cX0_takesCeiling 3 (Option.some Jvm.ClassFile.FieldType.boolean) ∈ AL := al_t3 134 rfl rfl
theorem q_645 : Cond.methodLink "LentRoom" 187 yX0_changeCeiling ∈ AL := al_t3 136 (by decide +kernel) rfl
theorem q_646 : Cond.instanceMethod yX0_changeCeiling ∈ AL := al_t3 137 (by decide +kernel) rfl
theorem q_647 : Cond.selects "LentRoom$Device" yX0_changeCeiling yX0_changeCeiling ∈ AL := al_t3 138 (by decide +kernel) rfl
set_option maxRecDepth 100000 in
theorem q_648 : Cond.code yX0_changeCeiling cX0_changeCeiling 3 (Option.some Jvm.ClassFile.FieldType.boolean) ∈ AL := al_t3 139 rfl rfl
theorem q_649 : Cond.methodLink "LentRoom$Device" 120 yX0_takesCeiling ∈ AL := al_t3 140 (by decide +kernel) rfl
theorem q_650 : Cond.methodLink "LentRoomLaw" 145 yL_undo ∈ AL := al_t3 141 (by decide +kernel) rfl
theorem q_651 : Cond.static yL_undo ∈ AL := al_t3 142 (by decide +kernel) rfl
set_option maxRecDepth 100000 in
theorem q_652 : Cond.codeWith yL_undo cL_undo 3 (Option.some Jvm.ClassFile.FieldType.int) [((0 : Nat), (8 : Nat), (11 : Nat), (15 : Nat))] ∈ AL := al_t3 143 rfl rfl
theorem q_653 : Cond.methodLink "LentRoomLaw" 54 yX3_undo ∈ AL := al_t3 144 (by decide +kernel) rfl
theorem q_654 : Cond.instanceMethod yX3_undo ∈ AL := al_t3 145 (by decide +kernel) rfl
theorem q_655 : Cond.selects "LentRoom" yX3_undo yX3_undo ∈ AL := al_t3 146 (by decide +kernel) rfl
set_option maxRecDepth 100000 in
theorem q_656 : Cond.code yX3_undo cX3_undo 1 (Option.some Jvm.ClassFile.FieldType.int) ∈ AL := al_t3 147 rfl rfl
theorem q_657 : Cond.methodLink "LentRoom" 190 yX1_isEmpty ∈ AL := al_t3 148 (by decide +kernel) rfl
theorem q_658 : Cond.instanceMethod yX1_isEmpty ∈ AL := al_t3 149 (by decide +kernel) rfl
theorem q_659 : Cond.selects "LentRoom$History" yX1_isEmpty yX1_isEmpty ∈ AL := al_t3 150 (by decide +kernel) rfl
set_option maxRecDepth 100000 in
theorem q_660 : Cond.code yX1_isEmpty cX1_isEmpty 1 (Option.some Jvm.ClassFile.FieldType.boolean) ∈ AL := al_t3 151 rfl rfl
theorem q_662 : Cond.methodLink "LentRoom" 195 yX1_takeBack ∈ AL := al_t3 153 (by decide +kernel) rfl
theorem q_663 : Cond.instanceMethod yX1_takeBack ∈ AL := al_t3 154 (by decide +kernel) rfl
theorem q_664 : Cond.selects "LentRoom$History" yX1_takeBack yX1_takeBack ∈ AL := al_t3 155 (by decide +kernel) rfl
set_option maxRecDepth 100000 in
theorem q_665 : Cond.code yX1_takeBack cX1_takeBack 2 (Option.some Jvm.ClassFile.FieldType.int) ∈ AL := al_t3 156 rfl rfl
theorem q_666 : Cond.methodLink "LentRoomLaw" 148 yL_would ∈ AL := al_t3 157 (by decide +kernel) rfl
theorem q_667 : Cond.static yL_would ∈ AL := al_t3 158 (by decide +kernel) rfl
set_option maxRecDepth 100000 in
theorem q_668 : Cond.codeWith yL_would cL_would 5 (Option.some Jvm.ClassFile.FieldType.int) [((0 : Nat), (10 : Nat), (13 : Nat), (28 : Nat))] ∈ AL := al_t3 159 rfl rfl
theorem q_669 : Cond.methodLink "LentRoomLaw" 57 yX3_would ∈ AL := al_t3 160 (by decide +kernel) rfl
theorem q_670 : Cond.instanceMethod yX3_would ∈ AL := al_t3 161 (by decide +kernel) rfl
theorem q_671 : Cond.selects "LentRoom" yX3_would yX3_would ∈ AL := al_t3 162 (by decide +kernel) rfl
set_option maxRecDepth 100000 in
theorem q_672 : Cond.code yX3_would cX3_would 3 (Option.some Jvm.ClassFile.FieldType.int) ∈ AL := al_t3 163 rfl rfl
theorem q_673 : Cond.methodLink "LentRoomLaw" 151 yL_room ∈ AL := al_t3 164 (by decide +kernel) rfl
theorem q_674 : Cond.static yL_room ∈ AL := al_t3 165 (by decide +kernel) rfl
set_option maxRecDepth 100000 in
theorem q_675 : Cond.codeWith yL_room cL_room 4 (Option.some Jvm.ClassFile.FieldType.int) [((0 : Nat), (9 : Nat), (12 : Nat), (28 : Nat))] ∈ AL := al_t3 166 rfl rfl
theorem q_676 : Cond.methodLink "LentRoomLaw" 60 yX3_room ∈ AL := al_t3 167 (by decide +kernel) rfl
theorem q_677 : Cond.instanceMethod yX3_room ∈ AL := al_t3 168 (by decide +kernel) rfl
theorem q_678 : Cond.selects "LentRoom" yX3_room yX3_room ∈ AL := al_t3 169 (by decide +kernel) rfl
set_option maxRecDepth 100000 in
theorem q_679 : Cond.code yX3_room cX3_room 2 (Option.some Jvm.ClassFile.FieldType.int) ∈ AL := al_t3 170 rfl rfl
theorem q_680 : Cond.methodLink "LentRoom" 199 yX3_growGuess ∈ AL := al_t3 171 (by decide +kernel) rfl
theorem q_682 : Cond.instanceMethod yX3_growGuess ∈ AL := al_t3 173 (by decide +kernel) rfl
set_option maxRecDepth 100000 in
theorem q_683 : Cond.code yX3_growGuess cX3_growGuess 5 (Option.some Jvm.ClassFile.FieldType.int) ∈ AL := al_t3 174 rfl rfl
theorem q_684 : Cond.methodLink "LentRoom" 208 yX0_takeBlock ∈ AL := al_t3 175 (by decide +kernel) rfl
theorem q_685 : Cond.methodLink "LentRoomLaw" 154 yL_harm ∈ AL := al_t3 176 (by decide +kernel) rfl
theorem q_686 : Cond.static yL_harm ∈ AL := al_t3 177 (by decide +kernel) rfl
set_option maxRecDepth 100000 in
theorem q_687 : Cond.codeWith yL_harm cL_harm 5 (Option.some Jvm.ClassFile.FieldType.int) [((0 : Nat), (10 : Nat), (13 : Nat), (28 : Nat)), ((0 : Nat), (10 : Nat), (17 : Nat), (13 : Nat))] ∈ AL := al_t3 178 rfl rfl
theorem q_688 : Cond.methodLink "LentRoomLaw" 63 yX3_harm ∈ AL := al_t3 179 (by decide +kernel) rfl
theorem q_689 : Cond.instanceMethod yX3_harm ∈ AL := al_t3 180 (by decide +kernel) rfl
theorem q_690 : Cond.selects "LentRoom" yX3_harm yX3_harm ∈ AL := al_t3 181 (by decide +kernel) rfl
set_option maxRecDepth 100000 in
theorem q_691 : Cond.code yX3_harm cX3_harm 3 (Option.some Jvm.ClassFile.FieldType.int) ∈ AL := al_t3 182 rfl rfl
theorem q_693 : Cond.methodLink "LentRoom" 205 yX0_lostByAll ∈ AL := al_t3 184 (by decide +kernel) rfl
theorem q_694 : Cond.methodLink "LentRoomLaw" 157 yL_victim ∈ AL := al_t3 185 (by decide +kernel) rfl
theorem q_695 : Cond.static yL_victim ∈ AL := al_t3 186 (by decide +kernel) rfl
set_option maxRecDepth 100000 in
theorem q_696 : Cond.codeWith yL_victim cL_victim 4 (Option.some Jvm.ClassFile.FieldType.int) [((0 : Nat), (9 : Nat), (12 : Nat), (28 : Nat))] ∈ AL := al_t3 187 rfl rfl
theorem q_697 : Cond.methodLink "LentRoomLaw" 66 yX3_victim ∈ AL := al_t3 188 (by decide +kernel) rfl
theorem q_698 : Cond.instanceMethod yX3_victim ∈ AL := al_t3 189 (by decide +kernel) rfl
theorem q_699 : Cond.selects "LentRoom" yX3_victim yX3_victim ∈ AL := al_t3 190 (by decide +kernel) rfl
set_option maxRecDepth 100000 in
theorem q_700 : Cond.code yX3_victim cX3_victim 4 (Option.some Jvm.ClassFile.FieldType.int) ∈ AL := al_t3 191 rfl rfl
theorem q_701 : Cond.methodLink "LentRoom" 211 yX0_firstLoserSince ∈ AL := al_t3 192 (by decide +kernel) rfl
theorem q_702 : Cond.instanceMethod yX0_firstLoserSince ∈ AL := al_t3 193 (by decide +kernel) rfl
theorem q_703 : Cond.selects "LentRoom$Device" yX0_firstLoserSince yX0_firstLoserSince ∈ AL := al_t3 194 (by decide +kernel) rfl
set_option maxRecDepth 100000 in
theorem q_704 : Cond.code yX0_firstLoserSince cX0_firstLoserSince 3 (Option.some Jvm.ClassFile.FieldType.int) ∈ AL := al_t3 195 rfl rfl
theorem q_705 : Cond.methodLink "LentRoomLaw" 164 yL_mostFloor ∈ AL := al_t3 196 (by decide +kernel) rfl
theorem q_706 : Cond.static yL_mostFloor ∈ AL := al_t3 197 (by decide +kernel) rfl
set_option maxRecDepth 100000 in
theorem q_707 : Cond.codeWith yL_mostFloor cL_mostFloor 4 (Option.some Jvm.ClassFile.FieldType.int) [((0 : Nat), (9 : Nat), (12 : Nat), (28 : Nat))] ∈ AL := al_t3 198 rfl rfl
theorem q_708 : Cond.methodLink "LentRoomLaw" 69 yX3_mostFloor ∈ AL := al_t3 199 (by decide +kernel) rfl
theorem q_709 : Cond.instanceMethod yX3_mostFloor ∈ AL := al_t3 200 (by decide +kernel) rfl
theorem q_710 : Cond.selects "LentRoom" yX3_mostFloor yX3_mostFloor ∈ AL := al_t3 201 (by decide +kernel) rfl
set_option maxRecDepth 100000 in
theorem q_711 : Cond.code yX3_mostFloor cX3_mostFloor 2 (Option.some Jvm.ClassFile.FieldType.int) ∈ AL := al_t3 202 rfl rfl
theorem q_712 : Cond.methodLink "LentRoom" 220 yX0_greatestFloor ∈ AL := al_t3 203 (by decide +kernel) rfl
theorem q_713 : Cond.methodLink "LentRoomLaw" 167 yL_leastFloor ∈ AL := al_t3 204 (by decide +kernel) rfl
theorem q_714 : Cond.static yL_leastFloor ∈ AL := al_t3 205 (by decide +kernel) rfl
set_option maxRecDepth 100000 in
theorem q_715 : Cond.codeWith yL_leastFloor cL_leastFloor 4 (Option.some Jvm.ClassFile.FieldType.int) [((0 : Nat), (9 : Nat), (12 : Nat), (28 : Nat))] ∈ AL := al_t3 206 rfl rfl
theorem q_716 : Cond.methodLink "LentRoomLaw" 72 yX3_leastFloor ∈ AL := al_t3 207 (by decide +kernel) rfl
theorem q_717 : Cond.instanceMethod yX3_leastFloor ∈ AL := al_t3 208 (by decide +kernel) rfl
theorem q_718 : Cond.selects "LentRoom" yX3_leastFloor yX3_leastFloor ∈ AL := al_t3 209 (by decide +kernel) rfl
set_option maxRecDepth 100000 in
theorem q_719 : Cond.code yX3_leastFloor cX3_leastFloor 2 (Option.some Jvm.ClassFile.FieldType.int) ∈ AL := al_t3 210 rfl rfl
theorem q_720 : Cond.methodLink "LentRoom" 223 yX0_smallestFloor ∈ AL := al_t3 211 (by decide +kernel) rfl
theorem q_721 : Cond.methodLink "LentRoomLaw" 172 yL_runScript ∈ AL := al_t3 212 (by decide +kernel) rfl
theorem q_722 : Cond.static yL_runScript ∈ AL := al_t3 213 (by decide +kernel) rfl
set_option maxRecDepth 100000 in
theorem q_723 : Cond.codeWith yL_runScript cL_runScript 6 (Option.some Jvm.ClassFile.FieldType.int) [((0 : Nat), (11 : Nat), (14 : Nat), (13 : Nat))] ∈ AL := al_t3 214 rfl rfl
theorem q_724 : Cond.methodLink "LentRoomLaw" 75 yX3_runScript ∈ AL := al_t3 215 (by decide +kernel) rfl
theorem q_725 : Cond.instanceMethod yX3_runScript ∈ AL := al_t3 216 (by decide +kernel) rfl
theorem q_726 : Cond.selects "LentRoom" yX3_runScript yX3_runScript ∈ AL := al_t3 217 (by decide +kernel) rfl
set_option maxRecDepth 100000 in
theorem q_727 : Cond.code yX3_runScript cX3_runScript 6 (Option.some Jvm.ClassFile.FieldType.int) ∈ AL := al_t3 218 rfl rfl
theorem q_729 : Cond.methodLink "LentRoom" 228 yX3_withoutGroups ∈ AL := al_t3 220 (by decide +kernel) rfl
theorem q_730 : Cond.static yX3_withoutGroups ∈ AL := al_t3 221 (by decide +kernel) rfl
set_option maxRecDepth 100000 in
theorem q_731 : Cond.code yX3_withoutGroups cX3_withoutGroups 6 (Option.some Jvm.ClassFile.FieldType.long) ∈ AL := al_t3 222 rfl rfl
theorem q_732 : Cond.constantLong "LentRoom" 234 (100000) ∈ AL := al_t3 223 (by decide +kernel) rfl
theorem q_734 : Cond.methodLink "LentRoom" 236 yX3_obeyGroup ∈ AL := al_t3 225 (by decide +kernel) rfl
theorem q_736 : Cond.instanceMethod yX3_obeyGroup ∈ AL := al_t3 227 (by decide +kernel) rfl
set_option maxRecDepth 100000 in
theorem q_737 : Cond.code yX3_obeyGroup cX3_obeyGroup 6 (Option.some Jvm.ClassFile.FieldType.boolean) ∈ AL := al_t3 228 rfl rfl
theorem q_738 : Cond.methodLink "LentRoom" 242 yX3_obeyForSpace ∈ AL := al_t3 229 (by decide +kernel) rfl
theorem q_740 : Cond.instanceMethod yX3_obeyForSpace ∈ AL := al_t3 231 (by decide +kernel) rfl
set_option maxRecDepth 100000 in
theorem q_741 : Cond.code yX3_obeyForSpace cX3_obeyForSpace 5 (Option.some Jvm.ClassFile.FieldType.boolean) ∈ AL := al_t3 232 rfl rfl
theorem q_742 : Cond.methodLink "LentRoomLaw" 176 yL_simulate ∈ AL := al_t3 233 (by decide +kernel) rfl
theorem q_743 : Cond.static yL_simulate ∈ AL := al_t3 234 (by decide +kernel) rfl
set_option maxRecDepth 100000 in
theorem q_744 : Cond.codeWith yL_simulate cL_simulate 6 (Option.some Jvm.ClassFile.FieldType.int) [((0 : Nat), (11 : Nat), (14 : Nat), (13 : Nat))] ∈ AL := al_t3 235 rfl rfl
theorem q_745 : Cond.methodLink "LentRoomLaw" 79 yX3_simulate ∈ AL := al_t3 236 (by decide +kernel) rfl
theorem q_746 : Cond.instanceMethod yX3_simulate ∈ AL := al_t3 237 (by decide +kernel) rfl
theorem q_747 : Cond.selects "LentRoom" yX3_simulate yX3_simulate ∈ AL := al_t3 238 (by decide +kernel) rfl
set_option maxRecDepth 100000 in
theorem q_748 : Cond.code yX3_simulate cX3_simulate 7 (Option.some Jvm.ClassFile.FieldType.int) ∈ AL := al_t3 239 rfl rfl
theorem q_750 : Cond.constantLong "LentRoom" 248 (6364136223846793005) ∈ AL := al_t4 1 (by decide +kernel) rfl
theorem q_751 : Cond.constantLong "LentRoom" 250 (1442695040888963407) ∈ AL := al_t4 2 (by decide +kernel) rfl
theorem q_752 : Cond.methodLink "LentRoom" 252 yX3_takeTurn ∈ AL := al_t4 3 (by decide +kernel) rfl
theorem q_754 : Cond.instanceMethod yX3_takeTurn ∈ AL := al_t4 5 (by decide +kernel) rfl
set_option maxRecDepth 100000 in
theorem q_755 : Cond.code yX3_takeTurn cX3_takeTurn 5 (Option.none : Option Jvm.ClassFile.FieldType) ∈ AL := al_t4 6 rfl rfl
theorem q_756 : Cond.methodLink "LentRoom" 258 yJ9_max_7cf53 ∈ AL := al_t4 7 (by decide +kernel) rfl
theorem q_757 : Cond.static yJ9_max_7cf53 ∈ AL := al_t4 8 (by decide +kernel) rfl
set_option maxRecDepth 100000 in
theorem q_758 : Cond.code yJ9_max_7cf53 cJ9_max_7cf53 2 (Option.some Jvm.ClassFile.FieldType.int) ∈ AL := al_t4 9 rfl rfl
theorem q_759 : Cond.methodLink "LentRoom" 255 yX0_pagesOfAll ∈ AL := al_t4 10 (by decide +kernel) rfl
theorem q_760 : Cond.methodLink "LentRoomLaw" 180 yL_save ∈ AL := al_t4 11 (by decide +kernel) rfl
theorem q_761 : Cond.static yL_save ∈ AL := al_t4 12 (by decide +kernel) rfl
set_option maxRecDepth 100000 in
theorem q_762 : Cond.codeWith yL_save cL_save 4 (Option.some Jvm.ClassFile.FieldType.int) [((0 : Nat), (9 : Nat), (12 : Nat), (28 : Nat))] ∈ AL := al_t4 13 rfl rfl
theorem q_763 : Cond.methodLink "LentRoomLaw" 83 yX3_save ∈ AL := al_t4 14 (by decide +kernel) rfl
theorem q_764 : Cond.instanceMethod yX3_save ∈ AL := al_t4 15 (by decide +kernel) rfl
theorem q_765 : Cond.selects "LentRoom" yX3_save yX3_save ∈ AL := al_t4 16 (by decide +kernel) rfl
set_option maxRecDepth 100000 in
theorem q_766 : Cond.code yX3_save cX3_save 2 (Option.some Jvm.ClassFile.FieldType.int) ∈ AL := al_t4 17 rfl rfl
theorem q_767 : Cond.methodLink "LentRoom" 263 yX3_needSlot ∈ AL := al_t4 18 (by decide +kernel) rfl
theorem q_768 : Cond.static yX3_needSlot ∈ AL := al_t4 19 (by decide +kernel) rfl
set_option maxRecDepth 100000 in
theorem q_769 : Cond.code yX3_needSlot cX3_needSlot 1 (Option.none : Option Jvm.ClassFile.FieldType) ∈ AL := al_t4 20 rfl rfl
theorem q_771 : Cond.methodLink "LentRoomLaw" 183 yL_restore ∈ AL := al_t4 22 (by decide +kernel) rfl
theorem q_772 : Cond.static yL_restore ∈ AL := al_t4 23 (by decide +kernel) rfl
set_option maxRecDepth 100000 in
theorem q_773 : Cond.codeWith yL_restore cL_restore 4 (Option.some Jvm.ClassFile.FieldType.int) [((0 : Nat), (9 : Nat), (12 : Nat), (28 : Nat)), ((0 : Nat), (9 : Nat), (15 : Nat), (15 : Nat))] ∈ AL := al_t4 24 rfl rfl
theorem q_774 : Cond.methodLink "LentRoomLaw" 86 yX3_restore ∈ AL := al_t4 25 (by decide +kernel) rfl
theorem q_775 : Cond.instanceMethod yX3_restore ∈ AL := al_t4 26 (by decide +kernel) rfl
theorem q_776 : Cond.selects "LentRoom" yX3_restore yX3_restore ∈ AL := al_t4 27 (by decide +kernel) rfl
set_option maxRecDepth 100000 in
theorem q_777 : Cond.code yX3_restore cX3_restore 2 (Option.some Jvm.ClassFile.FieldType.int) ∈ AL := al_t4 28 rfl rfl
theorem q_779 : Cond.classLink "LentRoomLaw" 90 "LentRoomModel" ∈ AL := al_t4 30 (by decide +kernel) rfl
theorem q_780 : Cond.instantiable "LentRoomModel" 13 ∈ AL := al_t4 31 (by decide +kernel) rfl
theorem q_781 : Cond.methodLink "LentRoomLaw" 92 yX4_init ∈ AL := al_t4 32 (by decide +kernel) rfl
theorem q_782 : Cond.instanceMethod yX4_init ∈ AL := al_t4 33 (by decide +kernel) rfl
set_option maxRecDepth 100000 in
theorem q_783 : Cond.code yX4_init cX4_init 1 (Option.none : Option Jvm.ClassFile.FieldType) ∈ AL := al_t4 34 rfl rfl
theorem q_784 : Cond.methodLink "LentRoomModel" 1 ⟨"java/lang/Object", "<init>", "()V"⟩ ∈ AL := al_t4 35 (by decide +kernel) rfl
theorem q_785 : Cond.fieldLink "LentRoomModel" 36 "LentRoomModel" "refusal" "I" ∈ AL := al_t4 36 (by decide +kernel) rfl
theorem q_786 : Cond.fieldLink "LentRoomModel" 7 "LentRoomModel" "text" "[I" ∈ AL := al_t4 37 (by decide +kernel) rfl
theorem q_787 : Cond.fieldLink "LentRoomModel" 106 "LentRoomModel" "size" "I" ∈ AL := al_t4 38 (by decide +kernel) rfl
theorem q_788 : Cond.fieldLink "LentRoomModel" 13 "LentRoomModel" "now" "[I" ∈ AL := al_t4 39 (by decide +kernel) rfl
theorem q_789 : Cond.fieldLink "LentRoomModel" 16 "LentRoomModel" "trial" "[I" ∈ AL := al_t4 40 (by decide +kernel) rfl
theorem q_790 : Cond.fieldLink "LentRoomModel" 19 "LentRoomModel" "diary" "[I" ∈ AL := al_t4 41 (by decide +kernel) rfl
theorem q_791 : Cond.fieldLink "LentRoomModel" 170 "LentRoomModel" "acts" "I" ∈ AL := al_t4 42 (by decide +kernel) rfl
theorem q_792 : Cond.fieldLink "LentRoomModel" 22 "LentRoomModel" "kept" "[I" ∈ AL := al_t4 43 (by decide +kernel) rfl
theorem q_793 : Cond.fieldLink "LentRoomModel" 25 "LentRoomModel" "isKept" "[Z" ∈ AL := al_t4 44 (by decide +kernel) rfl
theorem q_794 : Cond.fieldLink "LentRoomModel" 29 "LentRoomModel" "loser" "I" ∈ AL := al_t4 45 (by decide +kernel) rfl
theorem q_795 : Cond.fieldLink "LentRoomModel" 113 "LentRoomModel" "spot" "I" ∈ AL := al_t4 46 (by decide +kernel) rfl
theorem q_796 : Cond.fieldLink "LentRoomModel" 118 "LentRoomModel" "out" "I" ∈ AL := al_t4 47 (by decide +kernel) rfl
theorem q_797 : Cond.fieldLink "LentRoomModel" 33 "LentRoomModel" "apart" "[I" ∈ AL := al_t4 48 (by decide +kernel) rfl
theorem q_798 : Cond.lays "LentRoomModel" "LentRoomModel" "refusal" "I" ∈ AL := al_t4 49 (by decide +kernel) rfl
theorem q_800 : Cond.laysFinal "LentRoomModel" "LentRoomModel" "text" "[I" ∈ AL := al_t4 51 (by decide +kernel) rfl
theorem q_802 : Cond.lays "LentRoomModel" "LentRoomModel" "size" "I" ∈ AL := al_t4 53 (by decide +kernel) rfl
theorem q_804 : Cond.laysFinal "LentRoomModel" "LentRoomModel" "now" "[I" ∈ AL := al_t4 55 (by decide +kernel) rfl
theorem q_806 : Cond.laysFinal "LentRoomModel" "LentRoomModel" "trial" "[I" ∈ AL := al_t4 57 (by decide +kernel) rfl
theorem q_808 : Cond.laysFinal "LentRoomModel" "LentRoomModel" "diary" "[I" ∈ AL := al_t4 59 (by decide +kernel) rfl
theorem q_810 : Cond.lays "LentRoomModel" "LentRoomModel" "acts" "I" ∈ AL := al_t4 61 (by decide +kernel) rfl
theorem q_812 : Cond.laysFinal "LentRoomModel" "LentRoomModel" "kept" "[I" ∈ AL := al_t4 63 (by decide +kernel) rfl
theorem q_814 : Cond.laysFinal "LentRoomModel" "LentRoomModel" "isKept" "[Z" ∈ AL := al_t4 65 (by decide +kernel) rfl
theorem q_816 : Cond.lays "LentRoomModel" "LentRoomModel" "loser" "I" ∈ AL := al_t4 67 (by decide +kernel) rfl
theorem q_818 : Cond.lays "LentRoomModel" "LentRoomModel" "spot" "I" ∈ AL := al_t4 69 (by decide +kernel) rfl
theorem q_820 : Cond.lays "LentRoomModel" "LentRoomModel" "out" "I" ∈ AL := al_t4 71 (by decide +kernel) rfl
theorem q_822 : Cond.laysFinal "LentRoomModel" "LentRoomModel" "apart" "[I" ∈ AL := al_t4 73 (by decide +kernel) rfl
theorem q_824 : Cond.superclass "LentRoomModel" "java/lang/Object" ∈ AL := al_t4 75 (by decide +kernel) rfl
theorem q_825 : Cond.methodLink "LentRoomLaw" 99 yX4_thrown ∈ AL := al_t4 76 (by decide +kernel) rfl
theorem q_826 : Cond.instanceMethod yX4_thrown ∈ AL := al_t4 77 (by decide +kernel) rfl
theorem q_827 : Cond.selects "LentRoomModel" yX4_thrown yX4_thrown ∈ AL := al_t4 78 (by decide +kernel) rfl
set_option maxRecDepth 100000 in
theorem q_828 : Cond.code yX4_thrown cX4_thrown 1 (Option.some Jvm.ClassFile.FieldType.int) ∈ AL := al_t4 79 rfl rfl
theorem q_829 : Cond.methodLink "LentRoomLaw" 98 yX4_append ∈ AL := al_t4 80 (by decide +kernel) rfl
theorem q_830 : Cond.instanceMethod yX4_append ∈ AL := al_t4 81 (by decide +kernel) rfl
theorem q_831 : Cond.selects "LentRoomModel" yX4_append yX4_append ∈ AL := al_t4 82 (by decide +kernel) rfl
set_option maxRecDepth 100000 in
theorem q_832 : Cond.code yX4_append cX4_append 2 (Option.some Jvm.ClassFile.FieldType.int) ∈ AL := al_t4 83 rfl rfl
theorem q_833 : Cond.constantLong "LentRoomModel" 104 (255) ∈ AL := al_t4 84 (by decide +kernel) rfl
theorem q_834 : Cond.methodLink "LentRoomModel" 39 yX4_in ∈ AL := al_t4 85 (by decide +kernel) rfl
theorem q_835 : Cond.static yX4_in ∈ AL := al_t4 86 (by decide +kernel) rfl
set_option maxRecDepth 100000 in
theorem q_836 : Cond.code yX4_in cX4_in 6 (Option.some Jvm.ClassFile.FieldType.boolean) ∈ AL := al_t4 87 rfl rfl
theorem q_837 : Cond.methodLink "LentRoomModel" 109 yX4_refused ∈ AL := al_t4 88 (by decide +kernel) rfl
theorem q_839 : Cond.instanceMethod yX4_refused ∈ AL := al_t4 90 (by decide +kernel) rfl
set_option maxRecDepth 100000 in
theorem q_840 : Cond.code yX4_refused cX4_refused 2 (Option.some Jvm.ClassFile.FieldType.boolean) ∈ AL := al_t4 91 rfl rfl
theorem q_841 : Cond.methodLink "LentRoomLaw" 105 yX4_clearText ∈ AL := al_t4 92 (by decide +kernel) rfl
theorem q_842 : Cond.instanceMethod yX4_clearText ∈ AL := al_t4 93 (by decide +kernel) rfl
theorem q_843 : Cond.selects "LentRoomModel" yX4_clearText yX4_clearText ∈ AL := al_t4 94 (by decide +kernel) rfl
set_option maxRecDepth 100000 in
theorem q_844 : Cond.code yX4_clearText cX4_clearText 2 (Option.some Jvm.ClassFile.FieldType.int) ∈ AL := al_t4 95 rfl rfl
theorem q_845 : Cond.methodLink "LentRoomLaw" 109 yX4_errorPosition ∈ AL := al_t4 96 (by decide +kernel) rfl
theorem q_846 : Cond.instanceMethod yX4_errorPosition ∈ AL := al_t4 97 (by decide +kernel) rfl
theorem q_847 : Cond.selects "LentRoomModel" yX4_errorPosition yX4_errorPosition ∈ AL := al_t4 98 (by decide +kernel) rfl
set_option maxRecDepth 100000 in
theorem q_848 : Cond.code yX4_errorPosition cX4_errorPosition 1 (Option.some Jvm.ClassFile.FieldType.int) ∈ AL := al_t4 99 rfl rfl
theorem q_849 : Cond.methodLink "LentRoomModel" 163 yX4_readText ∈ AL := al_t4 100 (by decide +kernel) rfl
theorem q_851 : Cond.instanceMethod yX4_readText ∈ AL := al_t4 102 (by decide +kernel) rfl
set_option maxRecDepth 100000 in
theorem q_852 : Cond.code yX4_readText cX4_readText 3 (Option.some Jvm.ClassFile.FieldType.int) ∈ AL := al_t4 103 rfl rfl
theorem q_853 : Cond.methodLink "LentRoomModel" 159 yX4_readCommand ∈ AL := al_t4 104 (by decide +kernel) rfl
theorem q_855 : Cond.instanceMethod yX4_readCommand ∈ AL := al_t4 106 (by decide +kernel) rfl
set_option maxRecDepth 100000 in
theorem q_856 : Cond.code yX4_readCommand cX4_readCommand 6 (Option.some Jvm.ClassFile.FieldType.boolean) ∈ AL := al_t4 107 rfl rfl
theorem q_857 : Cond.methodLink "LentRoomModel" 131 yX4_figures ∈ AL := al_t4 108 (by decide +kernel) rfl
theorem q_859 : Cond.instanceMethod yX4_figures ∈ AL := al_t4 110 (by decide +kernel) rfl
set_option maxRecDepth 100000 in
theorem q_860 : Cond.code yX4_figures cX4_figures 9 (Option.some Jvm.ClassFile.FieldType.int) ∈ AL := al_t4 111 rfl rfl
theorem q_861 : Cond.constantLong "LentRoomModel" 116 (9) ∈ AL := al_t4 112 (by decide +kernel) rfl
theorem q_862 : Cond.methodLink "LentRoomModel" 135 yX4_whyNotMake ∈ AL := al_t4 113 (by decide +kernel) rfl
theorem q_863 : Cond.static yX4_whyNotMake ∈ AL := al_t4 114 (by decide +kernel) rfl
set_option maxRecDepth 100000 in
theorem q_864 : Cond.code yX4_whyNotMake cX4_whyNotMake 3 (Option.some Jvm.ClassFile.FieldType.int) ∈ AL := al_t4 115 rfl rfl
theorem q_865 : Cond.constantLong "LentRoomModel" 92 (60) ∈ AL := al_t4 116 (by decide +kernel) rfl
theorem q_866 : Cond.methodLink "LentRoomModel" 72 yX4_free ∈ AL := al_t4 117 (by decide +kernel) rfl
theorem q_867 : Cond.static yX4_free ∈ AL := al_t4 118 (by decide +kernel) rfl
set_option maxRecDepth 100000 in
theorem q_868 : Cond.code yX4_free cX4_free 1 (Option.some Jvm.ClassFile.FieldType.int) ∈ AL := al_t4 119 rfl rfl
theorem q_869 : Cond.methodLink "LentRoomModel" 53 yX4_sum ∈ AL := al_t4 120 (by decide +kernel) rfl
theorem q_870 : Cond.static yX4_sum ∈ AL := al_t4 121 (by decide +kernel) rfl
set_option maxRecDepth 100000 in
theorem q_871 : Cond.code yX4_sum cX4_sum 4 (Option.some Jvm.ClassFile.FieldType.int) ∈ AL := al_t4 122 rfl rfl
theorem q_872 : Cond.methodLink "LentRoomModel" 49 yX4_of ∈ AL := al_t4 123 (by decide +kernel) rfl
theorem q_873 : Cond.static yX4_of ∈ AL := al_t4 124 (by decide +kernel) rfl
set_option maxRecDepth 100000 in
theorem q_874 : Cond.code yX4_of cX4_of 3 (Option.some Jvm.ClassFile.FieldType.int) ∈ AL := al_t4 125 rfl rfl
theorem q_875 : Cond.methodLink "LentRoomModel" 45 yX4_at ∈ AL := al_t4 126 (by decide +kernel) rfl
theorem q_876 : Cond.static yX4_at ∈ AL := al_t4 127 (by decide +kernel) rfl
set_option maxRecDepth 100000 in
theorem q_877 : Cond.code yX4_at cX4_at 1 (Option.some Jvm.ClassFile.FieldType.int) ∈ AL := al_t4 128 rfl rfl
theorem q_878 : Cond.methodLink "LentRoomModel" 138 yX4_makeOn ∈ AL := al_t4 129 (by decide +kernel) rfl
theorem q_879 : Cond.static yX4_makeOn ∈ AL := al_t4 130 (by decide +kernel) rfl
set_option maxRecDepth 100000 in
theorem q_880 : Cond.code yX4_makeOn cX4_makeOn 4 (Option.some Jvm.ClassFile.FieldType.int) ∈ AL := al_t4 131 rfl rfl
theorem q_881 : Cond.methodLink "LentRoomModel" 141 yX4_leftOut ∈ AL := al_t4 132 (by decide +kernel) rfl
theorem q_883 : Cond.instanceMethod yX4_leftOut ∈ AL := al_t4 134 (by decide +kernel) rfl
set_option maxRecDepth 100000 in
theorem q_884 : Cond.code yX4_leftOut cX4_leftOut 2 (Option.none : Option Jvm.ClassFile.FieldType) ∈ AL := al_t4 135 rfl rfl
theorem q_885 : Cond.methodLink "LentRoomModel" 94 yX4_isSpace ∈ AL := al_t4 136 (by decide +kernel) rfl
theorem q_886 : Cond.static yX4_isSpace ∈ AL := al_t4 137 (by decide +kernel) rfl
set_option maxRecDepth 100000 in
theorem q_887 : Cond.code yX4_isSpace cX4_isSpace 2 (Option.some Jvm.ClassFile.FieldType.boolean) ∈ AL := al_t4 138 rfl rfl
theorem q_888 : Cond.methodLink "LentRoomModel" 128 yX4_writeOn ∈ AL := al_t4 139 (by decide +kernel) rfl
theorem q_890 : Cond.instanceMethod yX4_writeOn ∈ AL := al_t4 141 (by decide +kernel) rfl
set_option maxRecDepth 100000 in
theorem q_891 : Cond.code yX4_writeOn cX4_writeOn 6 (Option.some Jvm.ClassFile.FieldType.int) ∈ AL := al_t4 142 rfl rfl
theorem q_892 : Cond.methodLink "LentRoomModel" 86 yX4_need ∈ AL := al_t4 143 (by decide +kernel) rfl
theorem q_894 : Cond.instanceMethod yX4_need ∈ AL := al_t4 145 (by decide +kernel) rfl
set_option maxRecDepth 100000 in
theorem q_895 : Cond.code yX4_need cX4_need 5 (Option.some Jvm.ClassFile.FieldType.int) ∈ AL := al_t4 146 rfl rfl
theorem q_896 : Cond.methodLink "LentRoomModel" 79 yX4_taken ∈ AL := al_t4 147 (by decide +kernel) rfl
theorem q_897 : Cond.static yX4_taken ∈ AL := al_t4 148 (by decide +kernel) rfl
set_option maxRecDepth 100000 in
theorem q_898 : Cond.code yX4_taken cX4_taken 2 (Option.some Jvm.ClassFile.FieldType.int) ∈ AL := al_t4 149 rfl rfl
theorem q_899 : Cond.methodLink "LentRoomModel" 57 yX4_borrowed ∈ AL := al_t4 150 (by decide +kernel) rfl
theorem q_900 : Cond.static yX4_borrowed ∈ AL := al_t4 151 (by decide +kernel) rfl
set_option maxRecDepth 100000 in
theorem q_901 : Cond.code yX4_borrowed cX4_borrowed 4 (Option.some Jvm.ClassFile.FieldType.int) ∈ AL := al_t4 152 rfl rfl
theorem q_902 : Cond.methodLink "LentRoomModel" 63 yX4_idle ∈ AL := al_t4 153 (by decide +kernel) rfl
theorem q_903 : Cond.static yX4_idle ∈ AL := al_t4 154 (by decide +kernel) rfl
set_option maxRecDepth 100000 in
theorem q_904 : Cond.code yX4_idle cX4_idle 2 (Option.some Jvm.ClassFile.FieldType.int) ∈ AL := al_t4 155 rfl rfl
theorem q_905 : Cond.methodLink "LentRoomModel" 60 yX4_lends ∈ AL := al_t4 156 (by decide +kernel) rfl
theorem q_906 : Cond.static yX4_lends ∈ AL := al_t4 157 (by decide +kernel) rfl
set_option maxRecDepth 100000 in
theorem q_907 : Cond.code yX4_lends cX4_lends 2 (Option.some Jvm.ClassFile.FieldType.int) ∈ AL := al_t4 158 rfl rfl
theorem q_908 : Cond.methodLink "LentRoomModel" 82 yX4_recall ∈ AL := al_t4 159 (by decide +kernel) rfl
theorem q_910 : Cond.instanceMethod yX4_recall ∈ AL := al_t4 161 (by decide +kernel) rfl
set_option maxRecDepth 100000 in
theorem q_911 : Cond.code yX4_recall cX4_recall 7 (Option.none : Option Jvm.ClassFile.FieldType) ∈ AL := al_t4 162 rfl rfl
theorem q_912 : Cond.methodLink "LentRoomModel" 66 yX4_mostOf ∈ AL := al_t4 163 (by decide +kernel) rfl
theorem q_913 : Cond.static yX4_mostOf ∈ AL := al_t4 164 (by decide +kernel) rfl
set_option maxRecDepth 100000 in
theorem q_914 : Cond.code yX4_mostOf cX4_mostOf 4 (Option.some Jvm.ClassFile.FieldType.int) ∈ AL := al_t4 165 rfl rfl
theorem q_915 : Cond.methodLink "LentRoomModel" 69 yX4_lender ∈ AL := al_t4 166 (by decide +kernel) rfl
theorem q_916 : Cond.static yX4_lender ∈ AL := al_t4 167 (by decide +kernel) rfl
set_option maxRecDepth 100000 in
theorem q_917 : Cond.code yX4_lender cX4_lender 6 (Option.some Jvm.ClassFile.FieldType.int) ∈ AL := al_t4 168 rfl rfl
theorem q_918 : Cond.methodLink "LentRoomModel" 76 yX4_leastPage ∈ AL := al_t4 169 (by decide +kernel) rfl
theorem q_919 : Cond.static yX4_leastPage ∈ AL := al_t4 170 (by decide +kernel) rfl
set_option maxRecDepth 100000 in
theorem q_920 : Cond.code yX4_leastPage cX4_leastPage 5 (Option.some Jvm.ClassFile.FieldType.int) ∈ AL := al_t4 171 rfl rfl
theorem q_921 : Cond.methodLink "LentRoomModel" 145 yX4_canTrim ∈ AL := al_t4 172 (by decide +kernel) rfl
theorem q_922 : Cond.static yX4_canTrim ∈ AL := al_t4 173 (by decide +kernel) rfl
set_option maxRecDepth 100000 in
theorem q_923 : Cond.code yX4_canTrim cX4_canTrim 3 (Option.some Jvm.ClassFile.FieldType.boolean) ∈ AL := al_t4 174 rfl rfl
theorem q_924 : Cond.methodLink "LentRoomModel" 149 yX4_trimOn ∈ AL := al_t4 175 (by decide +kernel) rfl
theorem q_925 : Cond.static yX4_trimOn ∈ AL := al_t4 176 (by decide +kernel) rfl
set_option maxRecDepth 100000 in
theorem q_926 : Cond.code yX4_trimOn cX4_trimOn 4 (Option.some Jvm.ClassFile.FieldType.int) ∈ AL := al_t4 177 rfl rfl
theorem q_927 : Cond.methodLink "LentRoomModel" 89 yX4_mostFrom ∈ AL := al_t4 178 (by decide +kernel) rfl
theorem q_928 : Cond.static yX4_mostFrom ∈ AL := al_t4 179 (by decide +kernel) rfl
set_option maxRecDepth 100000 in
theorem q_929 : Cond.code yX4_mostFrom cX4_mostFrom 4 (Option.some Jvm.ClassFile.FieldType.int) ∈ AL := al_t4 180 rfl rfl
theorem q_930 : Cond.methodLink "LentRoomModel" 152 yX4_doesFloor ∈ AL := al_t4 181 (by decide +kernel) rfl
theorem q_932 : Cond.instanceMethod yX4_doesFloor ∈ AL := al_t4 183 (by decide +kernel) rfl
set_option maxRecDepth 100000 in
theorem q_933 : Cond.code yX4_doesFloor cX4_doesFloor 4 (Option.some Jvm.ClassFile.FieldType.boolean) ∈ AL := al_t4 184 rfl rfl
theorem q_934 : Cond.methodLink "LentRoomModel" 121 yX4_whyNotFloor ∈ AL := al_t4 185 (by decide +kernel) rfl
theorem q_935 : Cond.static yX4_whyNotFloor ∈ AL := al_t4 186 (by decide +kernel) rfl
set_option maxRecDepth 100000 in
theorem q_936 : Cond.code yX4_whyNotFloor cX4_whyNotFloor 3 (Option.some Jvm.ClassFile.FieldType.int) ∈ AL := al_t4 187 rfl rfl
theorem q_937 : Cond.methodLink "LentRoomModel" 98 yX4_least ∈ AL := al_t4 188 (by decide +kernel) rfl
theorem q_938 : Cond.static yX4_least ∈ AL := al_t4 189 (by decide +kernel) rfl
set_option maxRecDepth 100000 in
theorem q_939 : Cond.code yX4_least cX4_least 2 (Option.some Jvm.ClassFile.FieldType.int) ∈ AL := al_t4 190 rfl rfl
theorem q_940 : Cond.methodLink "LentRoomModel" 101 yX4_most ∈ AL := al_t4 191 (by decide +kernel) rfl
theorem q_941 : Cond.static yX4_most ∈ AL := al_t4 192 (by decide +kernel) rfl
set_option maxRecDepth 100000 in
theorem q_942 : Cond.code yX4_most cX4_most 3 (Option.some Jvm.ClassFile.FieldType.int) ∈ AL := al_t4 193 rfl rfl
theorem q_943 : Cond.methodLink "LentRoomModel" 124 yX4_lay ∈ AL := al_t4 194 (by decide +kernel) rfl
theorem q_944 : Cond.static yX4_lay ∈ AL := al_t4 195 (by decide +kernel) rfl
set_option maxRecDepth 100000 in
theorem q_945 : Cond.code yX4_lay cX4_lay 5 (Option.some Jvm.ClassFile.FieldType.int) ∈ AL := al_t4 196 rfl rfl
theorem q_946 : Cond.methodLink "LentRoomModel" 155 yX4_doesWrites ∈ AL := al_t4 197 (by decide +kernel) rfl
theorem q_948 : Cond.instanceMethod yX4_doesWrites ∈ AL := al_t4 199 (by decide +kernel) rfl
set_option maxRecDepth 100000 in
theorem q_949 : Cond.code yX4_doesWrites cX4_doesWrites 6 (Option.some Jvm.ClassFile.FieldType.boolean) ∈ AL := al_t4 200 rfl rfl
theorem q_950 : Cond.methodLink "LentRoomLaw" 113 yX4_load ∈ AL := al_t4 201 (by decide +kernel) rfl
theorem q_951 : Cond.instanceMethod yX4_load ∈ AL := al_t4 202 (by decide +kernel) rfl
theorem q_952 : Cond.selects "LentRoomModel" yX4_load yX4_load ∈ AL := al_t4 203 (by decide +kernel) rfl
set_option maxRecDepth 100000 in
theorem q_953 : Cond.code yX4_load cX4_load 1 (Option.some Jvm.ClassFile.FieldType.int) ∈ AL := al_t4 204 rfl rfl
theorem q_954 : Cond.methodLink "LentRoomModel" 166 yX4_copyState ∈ AL := al_t4 205 (by decide +kernel) rfl
theorem q_955 : Cond.static yX4_copyState ∈ AL := al_t4 206 (by decide +kernel) rfl
set_option maxRecDepth 100000 in
theorem q_956 : Cond.code yX4_copyState cX4_copyState 5 (Option.none : Option Jvm.ClassFile.FieldType) ∈ AL := al_t4 207 rfl rfl
theorem q_957 : Cond.methodLink "LentRoomLaw" 116 yX4_about ∈ AL := al_t4 208 (by decide +kernel) rfl
theorem q_958 : Cond.instanceMethod yX4_about ∈ AL := al_t4 209 (by decide +kernel) rfl
theorem q_959 : Cond.selects "LentRoomModel" yX4_about yX4_about ∈ AL := al_t4 210 (by decide +kernel) rfl
set_option maxRecDepth 100000 in
theorem q_960 : Cond.code yX4_about cX4_about 4 (Option.some Jvm.ClassFile.FieldType.int) ∈ AL := al_t4 211 rfl rfl
theorem q_961 : Cond.constantLong "LentRoomModel" 173 (8) ∈ AL := al_t4 212 (by decide +kernel) rfl
theorem q_962 : Cond.methodLink "LentRoomModel" 175 yX4_written ∈ AL := al_t4 213 (by decide +kernel) rfl
theorem q_963 : Cond.static yX4_written ∈ AL := al_t4 214 (by decide +kernel) rfl
set_option maxRecDepth 100000 in
theorem q_964 : Cond.code yX4_written cX4_written 3 (Option.some Jvm.ClassFile.FieldType.int) ∈ AL := al_t4 215 rfl rfl
theorem q_965 : Cond.methodLink "LentRoomLaw" 120 yX4_space ∈ AL := al_t4 216 (by decide +kernel) rfl
theorem q_966 : Cond.instanceMethod yX4_space ∈ AL := al_t4 217 (by decide +kernel) rfl
theorem q_967 : Cond.selects "LentRoomModel" yX4_space yX4_space ∈ AL := al_t4 218 (by decide +kernel) rfl
set_option maxRecDepth 100000 in
theorem q_968 : Cond.code yX4_space cX4_space 3 (Option.some Jvm.ClassFile.FieldType.int) ∈ AL := al_t4 219 rfl rfl
theorem q_969 : Cond.constantLong "LentRoomModel" 178 (10) ∈ AL := al_t4 220 (by decide +kernel) rfl
theorem q_970 : Cond.methodLink "LentRoomLaw" 123 yX4_loans ∈ AL := al_t4 221 (by decide +kernel) rfl
theorem q_971 : Cond.instanceMethod yX4_loans ∈ AL := al_t4 222 (by decide +kernel) rfl
theorem q_972 : Cond.selects "LentRoomModel" yX4_loans yX4_loans ∈ AL := al_t4 223 (by decide +kernel) rfl
set_option maxRecDepth 100000 in
theorem q_973 : Cond.code yX4_loans cX4_loans 3 (Option.some Jvm.ClassFile.FieldType.int) ∈ AL := al_t4 224 rfl rfl
theorem q_974 : Cond.methodLink "LentRoomLaw" 126 yX4_time ∈ AL := al_t4 225 (by decide +kernel) rfl
theorem q_975 : Cond.instanceMethod yX4_time ∈ AL := al_t4 226 (by decide +kernel) rfl
theorem q_976 : Cond.selects "LentRoomModel" yX4_time yX4_time ∈ AL := al_t4 227 (by decide +kernel) rfl
set_option maxRecDepth 100000 in
theorem q_977 : Cond.code yX4_time cX4_time 4 (Option.some Jvm.ClassFile.FieldType.int) ∈ AL := al_t4 228 rfl rfl
theorem q_978 : Cond.methodLink "LentRoomModel" 180 yX4_isPage ∈ AL := al_t4 229 (by decide +kernel) rfl
theorem q_979 : Cond.static yX4_isPage ∈ AL := al_t4 230 (by decide +kernel) rfl
set_option maxRecDepth 100000 in
theorem q_980 : Cond.code yX4_isPage cX4_isPage 1 (Option.some Jvm.ClassFile.FieldType.boolean) ∈ AL := al_t4 231 rfl rfl
theorem q_981 : Cond.constantLong "LentRoomModel" 43 (39) ∈ AL := al_t4 232 (by decide +kernel) rfl
theorem q_982 : Cond.methodLink "LentRoomLaw" 129 yX4_oldest ∈ AL := al_t4 233 (by decide +kernel) rfl
theorem q_983 : Cond.instanceMethod yX4_oldest ∈ AL := al_t4 234 (by decide +kernel) rfl
theorem q_984 : Cond.selects "LentRoomModel" yX4_oldest yX4_oldest ∈ AL := al_t4 235 (by decide +kernel) rfl
set_option maxRecDepth 100000 in
theorem q_985 : Cond.code yX4_oldest cX4_oldest 7 (Option.some Jvm.ClassFile.FieldType.int) ∈ AL := al_t4 236 rfl rfl
theorem q_986 : Cond.methodLink "LentRoomLaw" 132 yX4_make ∈ AL := al_t4 237 (by decide +kernel) rfl
theorem q_987 : Cond.instanceMethod yX4_make ∈ AL := al_t4 238 (by decide +kernel) rfl
theorem q_988 : Cond.selects "LentRoomModel" yX4_make yX4_make ∈ AL := al_t4 239 (by decide +kernel) rfl
set_option maxRecDepth 100000 in
theorem q_989 : Cond.code yX4_make cX4_make 3 (Option.some Jvm.ClassFile.FieldType.int) ∈ AL := al_t5 0 rfl rfl
theorem q_990 : Cond.methodLink "LentRoomModel" 183 yX4_remember ∈ AL := al_t5 1 (by decide +kernel) rfl
theorem q_992 : Cond.instanceMethod yX4_remember ∈ AL := al_t5 3 (by decide +kernel) rfl
set_option maxRecDepth 100000 in
theorem q_993 : Cond.code yX4_remember cX4_remember 2 (Option.none : Option Jvm.ClassFile.FieldType) ∈ AL := al_t5 4 rfl rfl
theorem q_994 : Cond.methodLink "LentRoomLaw" 135 yX4_write ∈ AL := al_t5 5 (by decide +kernel) rfl
theorem q_995 : Cond.instanceMethod yX4_write ∈ AL := al_t5 6 (by decide +kernel) rfl
theorem q_996 : Cond.selects "LentRoomModel" yX4_write yX4_write ∈ AL := al_t5 7 (by decide +kernel) rfl
set_option maxRecDepth 100000 in
theorem q_997 : Cond.code yX4_write cX4_write 3 (Option.some Jvm.ClassFile.FieldType.int) ∈ AL := al_t5 8 rfl rfl
theorem q_998 : Cond.methodLink "LentRoomLaw" 138 yX4_trim ∈ AL := al_t5 9 (by decide +kernel) rfl
theorem q_999 : Cond.instanceMethod yX4_trim ∈ AL := al_t5 10 (by decide +kernel) rfl
theorem q_1000 : Cond.selects "LentRoomModel" yX4_trim yX4_trim ∈ AL := al_t5 11 (by decide +kernel) rfl
set_option maxRecDepth 100000 in
theorem q_1001 : Cond.code yX4_trim cX4_trim 3 (Option.some Jvm.ClassFile.FieldType.int) ∈ AL := al_t5 12 rfl rfl
theorem q_1002 : Cond.methodLink "LentRoomLaw" 141 yX4_setFloor ∈ AL := al_t5 13 (by decide +kernel) rfl
theorem q_1003 : Cond.instanceMethod yX4_setFloor ∈ AL := al_t5 14 (by decide +kernel) rfl
theorem q_1004 : Cond.selects "LentRoomModel" yX4_setFloor yX4_setFloor ∈ AL := al_t5 15 (by decide +kernel) rfl
set_option maxRecDepth 100000 in
theorem q_1005 : Cond.code yX4_setFloor cX4_setFloor 3 (Option.some Jvm.ClassFile.FieldType.int) ∈ AL := al_t5 16 rfl rfl
theorem q_1006 : Cond.methodLink "LentRoomLaw" 144 yX4_setCeiling ∈ AL := al_t5 17 (by decide +kernel) rfl
theorem q_1007 : Cond.instanceMethod yX4_setCeiling ∈ AL := al_t5 18 (by decide +kernel) rfl
theorem q_1008 : Cond.selects "LentRoomModel" yX4_setCeiling yX4_setCeiling ∈ AL := al_t5 19 (by decide +kernel) rfl
set_option maxRecDepth 100000 in
theorem q_1009 : Cond.code yX4_setCeiling cX4_setCeiling 3 (Option.some Jvm.ClassFile.FieldType.int) ∈ AL := al_t5 20 rfl rfl
theorem q_1010 : Cond.methodLink "LentRoomModel" 186 yX4_whyNotCeiling ∈ AL := al_t5 21 (by decide +kernel) rfl
theorem q_1011 : Cond.static yX4_whyNotCeiling ∈ AL := al_t5 22 (by decide +kernel) rfl
set_option maxRecDepth 100000 in
theorem q_1012 : Cond.code yX4_whyNotCeiling cX4_whyNotCeiling 3 (Option.some Jvm.ClassFile.FieldType.int) ∈ AL := al_t5 23 rfl rfl
theorem q_1013 : Cond.methodLink "LentRoomLaw" 147 yX4_undo ∈ AL := al_t5 24 (by decide +kernel) rfl
theorem q_1014 : Cond.instanceMethod yX4_undo ∈ AL := al_t5 25 (by decide +kernel) rfl
theorem q_1015 : Cond.selects "LentRoomModel" yX4_undo yX4_undo ∈ AL := al_t5 26 (by decide +kernel) rfl
set_option maxRecDepth 100000 in
theorem q_1016 : Cond.code yX4_undo cX4_undo 1 (Option.some Jvm.ClassFile.FieldType.int) ∈ AL := al_t5 27 rfl rfl
theorem q_1017 : Cond.methodLink "LentRoomLaw" 150 yX4_would ∈ AL := al_t5 28 (by decide +kernel) rfl
theorem q_1018 : Cond.instanceMethod yX4_would ∈ AL := al_t5 29 (by decide +kernel) rfl
theorem q_1019 : Cond.selects "LentRoomModel" yX4_would yX4_would ∈ AL := al_t5 30 (by decide +kernel) rfl
set_option maxRecDepth 100000 in
theorem q_1020 : Cond.code yX4_would cX4_would 3 (Option.some Jvm.ClassFile.FieldType.int) ∈ AL := al_t5 31 rfl rfl
theorem q_1021 : Cond.methodLink "LentRoomLaw" 153 yX4_room ∈ AL := al_t5 32 (by decide +kernel) rfl
theorem q_1022 : Cond.instanceMethod yX4_room ∈ AL := al_t5 33 (by decide +kernel) rfl
theorem q_1023 : Cond.selects "LentRoomModel" yX4_room yX4_room ∈ AL := al_t5 34 (by decide +kernel) rfl
set_option maxRecDepth 100000 in
theorem q_1024 : Cond.code yX4_room cX4_room 2 (Option.some Jvm.ClassFile.FieldType.int) ∈ AL := al_t5 35 rfl rfl
theorem q_1025 : Cond.methodLink "LentRoomModel" 189 yX4_go ∈ AL := al_t5 36 (by decide +kernel) rfl
theorem q_1027 : Cond.instanceMethod yX4_go ∈ AL := al_t5 38 (by decide +kernel) rfl
set_option maxRecDepth 100000 in
theorem q_1028 : Cond.code yX4_go cX4_go 5 (Option.some Jvm.ClassFile.FieldType.int) ∈ AL := al_t5 39 rfl rfl
theorem q_1029 : Cond.methodLink "LentRoomLaw" 156 yX4_harm ∈ AL := al_t5 40 (by decide +kernel) rfl
theorem q_1030 : Cond.instanceMethod yX4_harm ∈ AL := al_t5 41 (by decide +kernel) rfl
theorem q_1031 : Cond.selects "LentRoomModel" yX4_harm yX4_harm ∈ AL := al_t5 42 (by decide +kernel) rfl
set_option maxRecDepth 100000 in
theorem q_1032 : Cond.code yX4_harm cX4_harm 3 (Option.some Jvm.ClassFile.FieldType.int) ∈ AL := al_t5 43 rfl rfl
theorem q_1033 : Cond.methodLink "LentRoomLaw" 159 yX4_victim ∈ AL := al_t5 44 (by decide +kernel) rfl
theorem q_1034 : Cond.instanceMethod yX4_victim ∈ AL := al_t5 45 (by decide +kernel) rfl
theorem q_1035 : Cond.selects "LentRoomModel" yX4_victim yX4_victim ∈ AL := al_t5 46 (by decide +kernel) rfl
set_option maxRecDepth 100000 in
theorem q_1036 : Cond.code yX4_victim cX4_victim 2 (Option.some Jvm.ClassFile.FieldType.int) ∈ AL := al_t5 47 rfl rfl
theorem q_1037 : Cond.methodLink "LentRoomLaw" 163 yX4_noisy ∈ AL := al_t5 48 (by decide +kernel) rfl
theorem q_1038 : Cond.instanceMethod yX4_noisy ∈ AL := al_t5 49 (by decide +kernel) rfl
theorem q_1039 : Cond.selects "LentRoomModel" yX4_noisy yX4_noisy ∈ AL := al_t5 50 (by decide +kernel) rfl
set_option maxRecDepth 100000 in
theorem q_1040 : Cond.code yX4_noisy cX4_noisy 5 (Option.some Jvm.ClassFile.FieldType.int) ∈ AL := al_t5 51 rfl rfl
theorem q_1041 : Cond.methodLink "LentRoomLaw" 166 yX4_mostFloor ∈ AL := al_t5 52 (by decide +kernel) rfl
theorem q_1042 : Cond.instanceMethod yX4_mostFloor ∈ AL := al_t5 53 (by decide +kernel) rfl
theorem q_1043 : Cond.selects "LentRoomModel" yX4_mostFloor yX4_mostFloor ∈ AL := al_t5 54 (by decide +kernel) rfl
set_option maxRecDepth 100000 in
theorem q_1044 : Cond.code yX4_mostFloor cX4_mostFloor 2 (Option.some Jvm.ClassFile.FieldType.int) ∈ AL := al_t5 55 rfl rfl
theorem q_1045 : Cond.methodLink "LentRoomLaw" 169 yX4_leastFloor ∈ AL := al_t5 56 (by decide +kernel) rfl
theorem q_1046 : Cond.instanceMethod yX4_leastFloor ∈ AL := al_t5 57 (by decide +kernel) rfl
theorem q_1047 : Cond.selects "LentRoomModel" yX4_leastFloor yX4_leastFloor ∈ AL := al_t5 58 (by decide +kernel) rfl
set_option maxRecDepth 100000 in
theorem q_1048 : Cond.code yX4_leastFloor cX4_leastFloor 2 (Option.some Jvm.ClassFile.FieldType.int) ∈ AL := al_t5 59 rfl rfl
theorem q_1049 : Cond.methodLink "LentRoomLaw" 175 yX4_runScript ∈ AL := al_t5 60 (by decide +kernel) rfl
theorem q_1050 : Cond.instanceMethod yX4_runScript ∈ AL := al_t5 61 (by decide +kernel) rfl
theorem q_1051 : Cond.selects "LentRoomModel" yX4_runScript yX4_runScript ∈ AL := al_t5 62 (by decide +kernel) rfl
set_option maxRecDepth 100000 in
theorem q_1052 : Cond.code yX4_runScript cX4_runScript 8 (Option.some Jvm.ClassFile.FieldType.int) ∈ AL := al_t5 63 rfl rfl
theorem q_1053 : Cond.constantLong "LentRoomModel" 192 (100000) ∈ AL := al_t5 64 (by decide +kernel) rfl
theorem q_1054 : Cond.constantLong "LentRoomModel" 194 (3) ∈ AL := al_t5 65 (by decide +kernel) rfl
theorem q_1055 : Cond.methodLink "LentRoomModel" 196 yX4_command ∈ AL := al_t5 66 (by decide +kernel) rfl
theorem q_1057 : Cond.instanceMethod yX4_command ∈ AL := al_t5 68 (by decide +kernel) rfl
set_option maxRecDepth 100000 in
theorem q_1058 : Cond.code yX4_command cX4_command 6 (Option.some Jvm.ClassFile.FieldType.boolean) ∈ AL := al_t5 69 rfl rfl
theorem q_1059 : Cond.methodLink "LentRoomLaw" 179 yX4_simulate ∈ AL := al_t5 70 (by decide +kernel) rfl
theorem q_1060 : Cond.instanceMethod yX4_simulate ∈ AL := al_t5 71 (by decide +kernel) rfl
theorem q_1061 : Cond.selects "LentRoomModel" yX4_simulate yX4_simulate ∈ AL := al_t5 72 (by decide +kernel) rfl
set_option maxRecDepth 100000 in
theorem q_1062 : Cond.code yX4_simulate cX4_simulate 7 (Option.some Jvm.ClassFile.FieldType.int) ∈ AL := al_t5 73 rfl rfl
theorem q_1063 : Cond.constantLong "LentRoomModel" 200 (99) ∈ AL := al_t5 74 (by decide +kernel) rfl
theorem q_1064 : Cond.constantLong "LentRoomModel" 202 (6364136223846793005) ∈ AL := al_t5 75 (by decide +kernel) rfl
theorem q_1065 : Cond.constantLong "LentRoomModel" 204 (1442695040888963407) ∈ AL := al_t5 76 (by decide +kernel) rfl
theorem q_1066 : Cond.methodLink "LentRoomModel" 206 yX4_turn ∈ AL := al_t5 77 (by decide +kernel) rfl
theorem q_1068 : Cond.instanceMethod yX4_turn ∈ AL := al_t5 79 (by decide +kernel) rfl
set_option maxRecDepth 100000 in
theorem q_1069 : Cond.code yX4_turn cX4_turn 5 (Option.none : Option Jvm.ClassFile.FieldType) ∈ AL := al_t5 80 rfl rfl
theorem q_1070 : Cond.methodLink "LentRoomLaw" 182 yX4_save ∈ AL := al_t5 81 (by decide +kernel) rfl
theorem q_1071 : Cond.instanceMethod yX4_save ∈ AL := al_t5 82 (by decide +kernel) rfl
theorem q_1072 : Cond.selects "LentRoomModel" yX4_save yX4_save ∈ AL := al_t5 83 (by decide +kernel) rfl
set_option maxRecDepth 100000 in
theorem q_1073 : Cond.code yX4_save cX4_save 2 (Option.some Jvm.ClassFile.FieldType.int) ∈ AL := al_t5 84 rfl rfl
theorem q_1074 : Cond.methodLink "LentRoomLaw" 185 yX4_restore ∈ AL := al_t5 85 (by decide +kernel) rfl
theorem q_1075 : Cond.instanceMethod yX4_restore ∈ AL := al_t5 86 (by decide +kernel) rfl
theorem q_1076 : Cond.selects "LentRoomModel" yX4_restore yX4_restore ∈ AL := al_t5 87 (by decide +kernel) rfl
set_option maxRecDepth 100000 in
theorem q_1077 : Cond.code yX4_restore cX4_restore 2 (Option.some Jvm.ClassFile.FieldType.int) ∈ AL := al_t5 88 rfl rfl
theorem q_1078 : Cond.constantLong "LentRoomLaw" 170 (4294967295) ∈ AL := al_t5 89 (by decide +kernel) rfl
theorem q_1079 : Cond.arrayClass Jvm.ClassFile.FieldType.long ∈ AL := al_t5 90 (by decide +kernel) rfl
theorem q_1080 : Cond.sameMethod "java/lang/Throwable" "java/lang/Throwable" "fillInStackTrace" "(I)Ljava/lang/Throwable;" ∈ AL := al_t5 91 (by decide +kernel) rfl
theorem q_1081 : Cond.fieldLink "java/lang/String" 9 "java/lang/String" "value" "[B" ∈ AL := al_t5 92 (by decide +kernel) rfl
theorem q_1082 : Cond.fieldLink "java/lang/String" 15 "java/lang/String" "coder" "B" ∈ AL := al_t5 93 (by decide +kernel) rfl
theorem uin0 : ∀ w ∈ u_ws RX0 TX0 11, w ∈ AL := by decide +kernel
theorem uin1 : ∀ w ∈ u_ws RX1 TX1 3, w ∈ AL := by decide +kernel
theorem uin2 : ∀ w ∈ u_ws RX2 TX2 2, w ∈ AL := by decide +kernel
theorem uin3 : ∀ w ∈ u_ws RX3 TX3 8, w ∈ AL := by decide +kernel
theorem uin4 : ∀ w ∈ u_ws RX4 TX4 13, w ∈ AL := by decide +kernel
