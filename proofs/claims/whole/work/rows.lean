section
-- ===== PART A: goes FIRST, ahead of the names: the tables' words, and 'selects' of the private methods out of them =====
/-- a private method of a class that the tables say can be made, by its rows of tables_1 -/
def lw_okq (q : MethodName × Nat) : Prop := (q.1.cls ≠ "java/lang/invoke/MethodHandle" ∧ q.1.cls ≠ "java/lang/invoke/VarHandle") ∧ Cond.instantiable q.1.cls q.2 ∈ tables_1 ∧ Cond.privateMethod q.1 ∈ tables_1 ∧ Cond.instanceMethod q.1 ∈ tables_1
theorem lw_p0 : lw_okq (⟨"LentRoom$Text", "fits", "(CI)Z"⟩, 2) := ⟨⟨by decide +kernel, by decide +kernel⟩, List.mem_of_getElem? (i := 27) (by decide +kernel), List.mem_of_getElem? (i := 200) (by decide +kernel), List.mem_of_getElem? (i := 201) (by decide +kernel)⟩
theorem lw_p1 : lw_okq (⟨"java/lang/Throwable", "fillInStackTrace", "(I)Ljava/lang/Throwable;"⟩, 6) := ⟨⟨by decide +kernel, by decide +kernel⟩, List.mem_of_getElem? (i := 284) (by decide +kernel), List.mem_of_getElem? (i := 282) (by decide +kernel), List.mem_of_getElem? (i := 283) (by decide +kernel)⟩
theorem lw_p2 : lw_okq (⟨"LentRoom", "obeyText", "(I)Z"⟩, 8) := ⟨⟨by decide +kernel, by decide +kernel⟩, List.mem_of_getElem? (i := 19) (by decide +kernel), List.mem_of_getElem? (i := 364) (by decide +kernel), List.mem_of_getElem? (i := 365) (by decide +kernel)⟩
theorem lw_p3 : lw_okq (⟨"LentRoom$Device", "recallLoan", "(I)V"⟩, 11) := ⟨⟨by decide +kernel, by decide +kernel⟩, List.mem_of_getElem? (i := 42) (by decide +kernel), List.mem_of_getElem? (i := 417) (by decide +kernel), List.mem_of_getElem? (i := 418) (by decide +kernel)⟩
theorem lw_p4 : lw_okq (⟨"LentRoom$Device", "greatestBorrower", "(I)I"⟩, 11) := ⟨⟨by decide +kernel, by decide +kernel⟩, List.mem_of_getElem? (i := 42) (by decide +kernel), List.mem_of_getElem? (i := 421) (by decide +kernel), List.mem_of_getElem? (i := 422) (by decide +kernel)⟩
theorem lw_p5 : lw_okq (⟨"LentRoom$Device", "idlestBut", "(II)I"⟩, 11) := ⟨⟨by decide +kernel, by decide +kernel⟩, List.mem_of_getElem? (i := 42) (by decide +kernel), List.mem_of_getElem? (i := 425) (by decide +kernel), List.mem_of_getElem? (i := 426) (by decide +kernel)⟩
theorem lw_p6 : lw_okq (⟨"LentRoom$Device", "loseOldest", "(I)V"⟩, 11) := ⟨⟨by decide +kernel, by decide +kernel⟩, List.mem_of_getElem? (i := 42) (by decide +kernel), List.mem_of_getElem? (i := 429) (by decide +kernel), List.mem_of_getElem? (i := 430) (by decide +kernel)⟩
theorem lw_p7 : lw_okq (⟨"LentRoom$Device", "oldestAfter", "(II)I"⟩, 11) := ⟨⟨by decide +kernel, by decide +kernel⟩, List.mem_of_getElem? (i := 42) (by decide +kernel), List.mem_of_getElem? (i := 433) (by decide +kernel), List.mem_of_getElem? (i := 434) (by decide +kernel)⟩
theorem lw_p8 : lw_okq (⟨"LentRoom$Device", "greatestLender", "(I)I"⟩, 11) := ⟨⟨by decide +kernel, by decide +kernel⟩, List.mem_of_getElem? (i := 42) (by decide +kernel), List.mem_of_getElem? (i := 441) (by decide +kernel), List.mem_of_getElem? (i := 442) (by decide +kernel)⟩
theorem lw_p9 : lw_okq (⟨"LentRoom", "needSpace", "(I)V"⟩, 8) := ⟨⟨by decide +kernel, by decide +kernel⟩, List.mem_of_getElem? (i := 19) (by decide +kernel), List.mem_of_getElem? (i := 497) (by decide +kernel), List.mem_of_getElem? (i := 498) (by decide +kernel)⟩
theorem lw_p10 : lw_okq (⟨"LentRoom", "needPage", "(II)V"⟩, 8) := ⟨⟨by decide +kernel, by decide +kernel⟩, List.mem_of_getElem? (i := 19) (by decide +kernel), List.mem_of_getElem? (i := 544) (by decide +kernel), List.mem_of_getElem? (i := 545) (by decide +kernel)⟩
theorem lw_p11 : lw_okq (⟨"LentRoom", "growGuess", "(LLentRoom$Device;II)I"⟩, 8) := ⟨⟨by decide +kernel, by decide +kernel⟩, List.mem_of_getElem? (i := 19) (by decide +kernel), List.mem_of_getElem? (i := 652) (by decide +kernel), List.mem_of_getElem? (i := 653) (by decide +kernel)⟩
theorem lw_p12 : lw_okq (⟨"LentRoom", "obeyGroup", "(I)Z"⟩, 8) := ⟨⟨by decide +kernel, by decide +kernel⟩, List.mem_of_getElem? (i := 19) (by decide +kernel), List.mem_of_getElem? (i := 706) (by decide +kernel), List.mem_of_getElem? (i := 707) (by decide +kernel)⟩
theorem lw_p13 : lw_okq (⟨"LentRoom", "obeyForSpace", "(III)Z"⟩, 8) := ⟨⟨by decide +kernel, by decide +kernel⟩, List.mem_of_getElem? (i := 19) (by decide +kernel), List.mem_of_getElem? (i := 710) (by decide +kernel), List.mem_of_getElem? (i := 711) (by decide +kernel)⟩
theorem lw_p14 : lw_okq (⟨"LentRoom", "takeTurn", "(I)V"⟩, 8) := ⟨⟨by decide +kernel, by decide +kernel⟩, List.mem_of_getElem? (i := 19) (by decide +kernel), List.mem_of_getElem? (i := 724) (by decide +kernel), List.mem_of_getElem? (i := 725) (by decide +kernel)⟩
theorem lw_p15 : lw_okq (⟨"LentRoomModel", "refused", "(I)Z"⟩, 13) := ⟨⟨by decide +kernel, by decide +kernel⟩, List.mem_of_getElem? (i := 751) (by decide +kernel), List.mem_of_getElem? (i := 809) (by decide +kernel), List.mem_of_getElem? (i := 810) (by decide +kernel)⟩
def lw_privs_1 : List (MethodName × Nat) := [(⟨"LentRoom$Text", "fits", "(CI)Z"⟩, 2), (⟨"java/lang/Throwable", "fillInStackTrace", "(I)Ljava/lang/Throwable;"⟩, 6), (⟨"LentRoom", "obeyText", "(I)Z"⟩, 8), (⟨"LentRoom$Device", "recallLoan", "(I)V"⟩, 11), (⟨"LentRoom$Device", "greatestBorrower", "(I)I"⟩, 11), (⟨"LentRoom$Device", "idlestBut", "(II)I"⟩, 11), (⟨"LentRoom$Device", "loseOldest", "(I)V"⟩, 11), (⟨"LentRoom$Device", "oldestAfter", "(II)I"⟩, 11), (⟨"LentRoom$Device", "greatestLender", "(I)I"⟩, 11), (⟨"LentRoom", "needSpace", "(I)V"⟩, 8), (⟨"LentRoom", "needPage", "(II)V"⟩, 8), (⟨"LentRoom", "growGuess", "(LLentRoom$Device;II)I"⟩, 8), (⟨"LentRoom", "obeyGroup", "(I)Z"⟩, 8), (⟨"LentRoom", "obeyForSpace", "(III)Z"⟩, 8), (⟨"LentRoom", "takeTurn", "(I)V"⟩, 8), (⟨"LentRoomModel", "refused", "(I)Z"⟩, 13)]
theorem lw_r1 : ∀ q ∈ lw_privs_1, lw_okq q := List.forall_mem_cons.mpr ⟨lw_p0, List.forall_mem_cons.mpr ⟨lw_p1, List.forall_mem_cons.mpr ⟨lw_p2, List.forall_mem_cons.mpr ⟨lw_p3, List.forall_mem_cons.mpr ⟨lw_p4, List.forall_mem_cons.mpr ⟨lw_p5, List.forall_mem_cons.mpr ⟨lw_p6, List.forall_mem_cons.mpr ⟨lw_p7, List.forall_mem_cons.mpr ⟨lw_p8, List.forall_mem_cons.mpr ⟨lw_p9, List.forall_mem_cons.mpr ⟨lw_p10, List.forall_mem_cons.mpr ⟨lw_p11, List.forall_mem_cons.mpr ⟨lw_p12, List.forall_mem_cons.mpr ⟨lw_p13, List.forall_mem_cons.mpr ⟨lw_p14, List.forall_mem_cons.mpr ⟨lw_p15, fun _ h => absurd h List.not_mem_nil⟩⟩⟩⟩⟩⟩⟩⟩⟩⟩⟩⟩⟩⟩⟩⟩
theorem lw_p16 : lw_okq (⟨"LentRoomModel", "readText", "([I)I"⟩, 13) := ⟨⟨by decide +kernel, by decide +kernel⟩, List.mem_of_getElem? (i := 751) (by decide +kernel), List.mem_of_getElem? (i := 821) (by decide +kernel), List.mem_of_getElem? (i := 822) (by decide +kernel)⟩
theorem lw_p17 : lw_okq (⟨"LentRoomModel", "readCommand", "([I)Z"⟩, 13) := ⟨⟨by decide +kernel, by decide +kernel⟩, List.mem_of_getElem? (i := 751) (by decide +kernel), List.mem_of_getElem? (i := 825) (by decide +kernel), List.mem_of_getElem? (i := 826) (by decide +kernel)⟩
theorem lw_p18 : lw_okq (⟨"LentRoomModel", "figures", "(IIII)I"⟩, 13) := ⟨⟨by decide +kernel, by decide +kernel⟩, List.mem_of_getElem? (i := 751) (by decide +kernel), List.mem_of_getElem? (i := 829) (by decide +kernel), List.mem_of_getElem? (i := 830) (by decide +kernel)⟩
theorem lw_p19 : lw_okq (⟨"LentRoomModel", "leftOut", "(Z)V"⟩, 13) := ⟨⟨by decide +kernel, by decide +kernel⟩, List.mem_of_getElem? (i := 751) (by decide +kernel), List.mem_of_getElem? (i := 853) (by decide +kernel), List.mem_of_getElem? (i := 854) (by decide +kernel)⟩
theorem lw_p20 : lw_okq (⟨"LentRoomModel", "writeOn", "([III)I"⟩, 13) := ⟨⟨by decide +kernel, by decide +kernel⟩, List.mem_of_getElem? (i := 751) (by decide +kernel), List.mem_of_getElem? (i := 860) (by decide +kernel), List.mem_of_getElem? (i := 861) (by decide +kernel)⟩
theorem lw_p21 : lw_okq (⟨"LentRoomModel", "need", "([II)I"⟩, 13) := ⟨⟨by decide +kernel, by decide +kernel⟩, List.mem_of_getElem? (i := 751) (by decide +kernel), List.mem_of_getElem? (i := 864) (by decide +kernel), List.mem_of_getElem? (i := 865) (by decide +kernel)⟩
theorem lw_p22 : lw_okq (⟨"LentRoomModel", "recall", "([II)V"⟩, 13) := ⟨⟨by decide +kernel, by decide +kernel⟩, List.mem_of_getElem? (i := 751) (by decide +kernel), List.mem_of_getElem? (i := 880) (by decide +kernel), List.mem_of_getElem? (i := 881) (by decide +kernel)⟩
theorem lw_p23 : lw_okq (⟨"LentRoomModel", "doesFloor", "([III)Z"⟩, 13) := ⟨⟨by decide +kernel, by decide +kernel⟩, List.mem_of_getElem? (i := 751) (by decide +kernel), List.mem_of_getElem? (i := 902) (by decide +kernel), List.mem_of_getElem? (i := 903) (by decide +kernel)⟩
theorem lw_p24 : lw_okq (⟨"LentRoomModel", "doesWrites", "([IIII)Z"⟩, 13) := ⟨⟨by decide +kernel, by decide +kernel⟩, List.mem_of_getElem? (i := 751) (by decide +kernel), List.mem_of_getElem? (i := 918) (by decide +kernel), List.mem_of_getElem? (i := 919) (by decide +kernel)⟩
theorem lw_p25 : lw_okq (⟨"LentRoomModel", "remember", "()V"⟩, 13) := ⟨⟨by decide +kernel, by decide +kernel⟩, List.mem_of_getElem? (i := 751) (by decide +kernel), List.mem_of_getElem? (i := 962) (by decide +kernel), List.mem_of_getElem? (i := 963) (by decide +kernel)⟩
theorem lw_p26 : lw_okq (⟨"LentRoomModel", "go", "([III)I"⟩, 13) := ⟨⟨by decide +kernel, by decide +kernel⟩, List.mem_of_getElem? (i := 751) (by decide +kernel), List.mem_of_getElem? (i := 997) (by decide +kernel), List.mem_of_getElem? (i := 998) (by decide +kernel)⟩
theorem lw_p27 : lw_okq (⟨"LentRoomModel", "command", "(IIII)Z"⟩, 13) := ⟨⟨by decide +kernel, by decide +kernel⟩, List.mem_of_getElem? (i := 751) (by decide +kernel), List.mem_of_getElem? (i := 1027) (by decide +kernel), List.mem_of_getElem? (i := 1028) (by decide +kernel)⟩
theorem lw_p28 : lw_okq (⟨"LentRoomModel", "turn", "(I)V"⟩, 13) := ⟨⟨by decide +kernel, by decide +kernel⟩, List.mem_of_getElem? (i := 751) (by decide +kernel), List.mem_of_getElem? (i := 1038) (by decide +kernel), List.mem_of_getElem? (i := 1039) (by decide +kernel)⟩
def lw_privs_2 : List (MethodName × Nat) := [(⟨"LentRoomModel", "readText", "([I)I"⟩, 13), (⟨"LentRoomModel", "readCommand", "([I)Z"⟩, 13), (⟨"LentRoomModel", "figures", "(IIII)I"⟩, 13), (⟨"LentRoomModel", "leftOut", "(Z)V"⟩, 13), (⟨"LentRoomModel", "writeOn", "([III)I"⟩, 13), (⟨"LentRoomModel", "need", "([II)I"⟩, 13), (⟨"LentRoomModel", "recall", "([II)V"⟩, 13), (⟨"LentRoomModel", "doesFloor", "([III)Z"⟩, 13), (⟨"LentRoomModel", "doesWrites", "([IIII)Z"⟩, 13), (⟨"LentRoomModel", "remember", "()V"⟩, 13), (⟨"LentRoomModel", "go", "([III)I"⟩, 13), (⟨"LentRoomModel", "command", "(IIII)Z"⟩, 13), (⟨"LentRoomModel", "turn", "(I)V"⟩, 13)]
theorem lw_r2 : ∀ q ∈ lw_privs_2, lw_okq q := List.forall_mem_cons.mpr ⟨lw_p16, List.forall_mem_cons.mpr ⟨lw_p17, List.forall_mem_cons.mpr ⟨lw_p18, List.forall_mem_cons.mpr ⟨lw_p19, List.forall_mem_cons.mpr ⟨lw_p20, List.forall_mem_cons.mpr ⟨lw_p21, List.forall_mem_cons.mpr ⟨lw_p22, List.forall_mem_cons.mpr ⟨lw_p23, List.forall_mem_cons.mpr ⟨lw_p24, List.forall_mem_cons.mpr ⟨lw_p25, List.forall_mem_cons.mpr ⟨lw_p26, List.forall_mem_cons.mpr ⟨lw_p27, List.forall_mem_cons.mpr ⟨lw_p28, fun _ h => absurd h List.not_mem_nil⟩⟩⟩⟩⟩⟩⟩⟩⟩⟩⟩⟩⟩
def lw_privs : List (MethodName × Nat) := lw_privs_1 ++ (lw_privs_2)
def lw_tbl : List Cond := k2_sels lw_privs ++ tables_1
theorem lw_privs_ok : ∀ q ∈ lw_privs, lw_okq q := by
  show ∀ q ∈ lw_privs_1 ++ (lw_privs_2), lw_okq q
  exact List.forall_mem_append.mpr ⟨lw_r1, lw_r2⟩
def RX0 : String := "LentRoom$Device"
def TX0 : u_T := fun k => match k with
  | 0 => ("LentRoom$Device", "spaces", "I", false)
  | 1 => ("LentRoom$Device", "clock", "I", false)
  | 2 => ("LentRoom$Device", "floor", "[I", true)
  | 3 => ("LentRoom$Device", "ceiling", "[I", true)
  | 4 => ("LentRoom$Device", "own", "[I", true)
  | 5 => ("LentRoom$Device", "common", "[I", true)
  | 6 => ("LentRoom$Device", "loan", "[[I", true)
  | 7 => ("LentRoom$Device", "written", "[[I", true)
  | 8 => ("LentRoom$Device", "recalls", "[I", true)
  | 9 => ("LentRoom$Device", "lost", "[I", true)
  | _ => ("LentRoom$Device", "refused", "[I", true)
def tyX0 : Nat → FieldType := fun k => match k with
  | 0 => .int
  | 1 => .int
  | 2 => .array .int
  | 3 => .array .int
  | 4 => .array .int
  | 5 => .array .int
  | 6 => .array (.array .int)
  | 7 => .array (.array .int)
  | 8 => .array .int
  | 9 => .array .int
  | _ => .array .int
theorem nmX0 : ∀ a, a < 11 → ∀ b, b < 11 → a ≠ b → (TX0 a).2.1 ≠ (TX0 b).2.1 := by decide +kernel
theorem tyX0_ok : ∀ k, k < 11 → parseFieldDescriptor (TX0 k).2.2.1 = some (tyX0 k) := by decide +kernel
abbrev cX0_init : ByteArray := prog_2_method_1_code
def yX0_init : MethodName := ⟨RX0, "<init>", "()V"⟩
abbrev cX0_become : ByteArray := prog_2_method_2_code
def yX0_become : MethodName := ⟨RX0, "become", "(LLentRoom$Device;)V"⟩
abbrev cX0_copyRow : ByteArray := prog_2_method_3_code
def yX0_copyRow : MethodName := ⟨RX0, "copyRow", "([I[I)V"⟩
abbrev cX0_sum : ByteArray := prog_2_method_4_code
def yX0_sum : MethodName := ⟨RX0, "sum", "([I)I"⟩
abbrev cX0_hasSpace : ByteArray := prog_2_method_5_code
def yX0_hasSpace : MethodName := ⟨RX0, "hasSpace", "(I)Z"⟩
abbrev cX0_hasPage : ByteArray := prog_2_method_6_code
def yX0_hasPage : MethodName := ⟨RX0, "hasPage", "(II)Z"⟩
abbrev cX0_isWritten : ByteArray := prog_2_method_7_code
def yX0_isWritten : MethodName := ⟨RX0, "isWritten", "(II)Z"⟩
abbrev cX0_pagesOf : ByteArray := prog_2_method_8_code
def yX0_pagesOf : MethodName := ⟨RX0, "pagesOf", "(I)I"⟩
abbrev cX0_pagesOfAll : ByteArray := prog_2_method_9_code
def yX0_pagesOfAll : MethodName := ⟨RX0, "pagesOfAll", "()I"⟩
abbrev cX0_idleOf : ByteArray := prog_2_method_10_code
def yX0_idleOf : MethodName := ⟨RX0, "idleOf", "(I)I"⟩
abbrev cX0_lendsOf : ByteArray := prog_2_method_11_code
def yX0_lendsOf : MethodName := ⟨RX0, "lendsOf", "(I)I"⟩
abbrev cX0_commonRoom : ByteArray := prog_2_method_12_code
def yX0_commonRoom : MethodName := ⟨RX0, "commonRoom", "()I"⟩
abbrev cX0_freeCommonRoom : ByteArray := prog_2_method_13_code
def yX0_freeCommonRoom : MethodName := ⟨RX0, "freeCommonRoom", "()I"⟩
abbrev cX0_loansOfAll : ByteArray := prog_2_method_14_code
def yX0_loansOfAll : MethodName := ⟨RX0, "loansOfAll", "()I"⟩
abbrev cX0_lostByAll : ByteArray := prog_2_method_15_code
def yX0_lostByAll : MethodName := ⟨RX0, "lostByAll", "()I"⟩
abbrev cX0_noiseOf : ByteArray := prog_2_method_16_code
def yX0_noiseOf : MethodName := ⟨RX0, "noiseOf", "(I)I"⟩
abbrev cX0_firstLoserSince : ByteArray := prog_2_method_17_code
def yX0_firstLoserSince : MethodName := ⟨RX0, "firstLoserSince", "(LLentRoom$Device;)I"⟩
abbrev cX0_numberOfAll : ByteArray := prog_2_method_18_code
def yX0_numberOfAll : MethodName := ⟨RX0, "numberOfAll", "(I)I"⟩
abbrev cX0_sizeOf : ByteArray := prog_2_method_19_code
def yX0_sizeOf : MethodName := ⟨RX0, "sizeOf", "(II)I"⟩
abbrev cX0_countOf : ByteArray := prog_2_method_20_code
def yX0_countOf : MethodName := ⟨RX0, "countOf", "(II)I"⟩
abbrev cX0_pageByAge : ByteArray := prog_2_method_21_code
def yX0_pageByAge : MethodName := ⟨RX0, "pageByAge", "(II)I"⟩
abbrev cX0_oldestAfter : ByteArray := prog_2_method_22_code
def yX0_oldestAfter : MethodName := ⟨RX0, "oldestAfter", "(II)I"⟩
abbrev cX0_areBounds : ByteArray := prog_2_method_23_code
def yX0_areBounds : MethodName := ⟨RX0, "areBounds", "(II)Z"⟩
abbrev cX0_hasRoomForSpace : ByteArray := prog_2_method_24_code
def yX0_hasRoomForSpace : MethodName := ⟨RX0, "hasRoomForSpace", "(I)Z"⟩
abbrev cX0_addSpace : ByteArray := prog_2_method_25_code
def yX0_addSpace : MethodName := ⟨RX0, "addSpace", "(II)I"⟩
abbrev cX0_smallestFloor : ByteArray := prog_2_method_26_code
def yX0_smallestFloor : MethodName := ⟨RX0, "smallestFloor", "(I)I"⟩
abbrev cX0_greatestFloor : ByteArray := prog_2_method_27_code
def yX0_greatestFloor : MethodName := ⟨RX0, "greatestFloor", "(I)I"⟩
abbrev cX0_takesFloor : ByteArray := prog_2_method_28_code
def yX0_takesFloor : MethodName := ⟨RX0, "takesFloor", "(II)Z"⟩
abbrev cX0_changeFloor : ByteArray := prog_2_method_29_code
def yX0_changeFloor : MethodName := ⟨RX0, "changeFloor", "(II)Z"⟩
abbrev cX0_takesCeiling : ByteArray := prog_2_method_30_code
def yX0_takesCeiling : MethodName := ⟨RX0, "takesCeiling", "(II)Z"⟩
abbrev cX0_changeCeiling : ByteArray := prog_2_method_31_code
def yX0_changeCeiling : MethodName := ⟨RX0, "changeCeiling", "(II)Z"⟩
abbrev cX0_putPage : ByteArray := prog_2_method_32_code
def yX0_putPage : MethodName := ⟨RX0, "putPage", "(II)I"⟩
abbrev cX0_dropPage : ByteArray := prog_2_method_33_code
def yX0_dropPage : MethodName := ⟨RX0, "dropPage", "(II)Z"⟩
abbrev cX0_takeBlock : ByteArray := prog_2_method_34_code
def yX0_takeBlock : MethodName := ⟨RX0, "takeBlock", "(I)I"⟩
abbrev cX0_recallLoan : ByteArray := prog_2_method_35_code
def yX0_recallLoan : MethodName := ⟨RX0, "recallLoan", "(I)V"⟩
abbrev cX0_loseOldest : ByteArray := prog_2_method_36_code
def yX0_loseOldest : MethodName := ⟨RX0, "loseOldest", "(I)V"⟩
abbrev cX0_greatestBorrower : ByteArray := prog_2_method_37_code
def yX0_greatestBorrower : MethodName := ⟨RX0, "greatestBorrower", "(I)I"⟩
abbrev cX0_greatestLender : ByteArray := prog_2_method_38_code
def yX0_greatestLender : MethodName := ⟨RX0, "greatestLender", "(I)I"⟩
abbrev cX0_idlestBut : ByteArray := prog_2_method_39_code
def yX0_idlestBut : MethodName := ⟨RX0, "idlestBut", "(II)I"⟩
def RX1 : String := "LentRoom$History"
def TX1 : u_T := fun k => match k with
  | 0 => ("LentRoom$History", "states", "[LLentRoom$Device;", true)
  | 1 => ("LentRoom$History", "first", "I", false)
  | _ => ("LentRoom$History", "count", "I", false)
def tyX1 : Nat → FieldType := fun k => match k with
  | 0 => .array (.object "LentRoom$Device")
  | 1 => .int
  | _ => .int
theorem nmX1 : ∀ a, a < 3 → ∀ b, b < 3 → a ≠ b → (TX1 a).2.1 ≠ (TX1 b).2.1 := by decide +kernel
theorem tyX1_ok : ∀ k, k < 3 → parseFieldDescriptor (TX1 k).2.2.1 = some (tyX1 k) := by decide +kernel
abbrev cX1_init : ByteArray := prog_3_method_1_code
def yX1_init : MethodName := ⟨RX1, "<init>", "()V"⟩
abbrev cX1_isEmpty : ByteArray := prog_3_method_2_code
def yX1_isEmpty : MethodName := ⟨RX1, "isEmpty", "()Z"⟩
abbrev cX1_forgetAll : ByteArray := prog_3_method_3_code
def yX1_forgetAll : MethodName := ⟨RX1, "forgetAll", "()V"⟩
abbrev cX1_remember : ByteArray := prog_3_method_4_code
def yX1_remember : MethodName := ⟨RX1, "remember", "(LLentRoom$Device;)V"⟩
abbrev cX1_takeBack : ByteArray := prog_3_method_5_code
def yX1_takeBack : MethodName := ⟨RX1, "takeBack", "(LLentRoom$Device;)I"⟩
def RX2 : String := "LentRoom$Text"
def TX2 : u_T := fun k => match k with
  | 0 => ("LentRoom$Text", "length", "I", false)
  | _ => ("LentRoom$Text", "signs", "[C", true)
def tyX2 : Nat → FieldType := fun k => match k with
  | 0 => .int
  | _ => .array .char
theorem nmX2 : ∀ a, a < 2 → ∀ b, b < 2 → a ≠ b → (TX2 a).2.1 ≠ (TX2 b).2.1 := by decide +kernel
theorem tyX2_ok : ∀ k, k < 2 → parseFieldDescriptor (TX2 k).2.2.1 = some (tyX2 k) := by decide +kernel
abbrev cX2_init : ByteArray := prog_4_method_1_code
def yX2_init : MethodName := ⟨RX2, "<init>", "()V"⟩
abbrev cX2_isFull : ByteArray := prog_4_method_2_code
def yX2_isFull : MethodName := ⟨RX2, "isFull", "()Z"⟩
abbrev cX2_add : ByteArray := prog_4_method_3_code
def yX2_add : MethodName := ⟨RX2, "add", "(C)I"⟩
abbrev cX2_empty : ByteArray := prog_4_method_4_code
def yX2_empty : MethodName := ⟨RX2, "empty", "()I"⟩
abbrev cX2_sign : ByteArray := prog_4_method_5_code
def yX2_sign : MethodName := ⟨RX2, "sign", "(I)C"⟩
abbrev cX2_isDigit : ByteArray := prog_4_method_6_code
def yX2_isDigit : MethodName := ⟨RX2, "isDigit", "(I)Z"⟩
abbrev cX2_number : ByteArray := prog_4_method_7_code
def yX2_number : MethodName := ⟨RX2, "number", "(II)I"⟩
abbrev cX2_firstError : ByteArray := prog_4_method_8_code
def yX2_firstError : MethodName := ⟨RX2, "firstError", "()I"⟩
abbrev cX2_placesBehind : ByteArray := prog_4_method_9_code
def yX2_placesBehind : MethodName := ⟨RX2, "placesBehind", "(C)Ljava/lang/String;"⟩
abbrev cX2_fits : ByteArray := prog_4_method_10_code
def yX2_fits : MethodName := ⟨RX2, "fits", "(CI)Z"⟩
def RX3 : String := "LentRoom"
def TX3 : u_T := fun k => match k with
  | 0 => ("LentRoom", "text", "LLentRoom$Text;", true)
  | 1 => ("LentRoom", "device", "LLentRoom$Device;", true)
  | 2 => ("LentRoom", "history", "LLentRoom$History;", true)
  | 3 => ("LentRoom", "slots", "[LLentRoom$Device;", true)
  | 4 => ("LentRoom", "filled", "[Z", true)
  | 5 => ("LentRoom", "blank", "LLentRoom$Device;", true)
  | 6 => ("LentRoom", "trial", "LLentRoom$Device;", true)
  | _ => ("LentRoom", "guess", "LLentRoom$Device;", true)
def tyX3 : Nat → FieldType := fun k => match k with
  | 0 => .object "LentRoom$Text"
  | 1 => .object "LentRoom$Device"
  | 2 => .object "LentRoom$History"
  | 3 => .array (.object "LentRoom$Device")
  | 4 => .array .boolean
  | 5 => .object "LentRoom$Device"
  | 6 => .object "LentRoom$Device"
  | _ => .object "LentRoom$Device"
theorem nmX3 : ∀ a, a < 8 → ∀ b, b < 8 → a ≠ b → (TX3 a).2.1 ≠ (TX3 b).2.1 := by decide +kernel
theorem tyX3_ok : ∀ k, k < 8 → parseFieldDescriptor (TX3 k).2.2.1 = some (tyX3 k) := by decide +kernel
abbrev cX3_init : ByteArray := prog_1_method_1_code
def yX3_init : MethodName := ⟨RX3, "<init>", "()V"⟩
abbrev cX3_append : ByteArray := prog_1_method_2_code
def yX3_append : MethodName := ⟨RX3, "append", "(I)I"⟩
abbrev cX3_clearText : ByteArray := prog_1_method_3_code
def yX3_clearText : MethodName := ⟨RX3, "clearText", "()I"⟩
abbrev cX3_errorPosition : ByteArray := prog_1_method_4_code
def yX3_errorPosition : MethodName := ⟨RX3, "errorPosition", "()I"⟩
abbrev cX3_load : ByteArray := prog_1_method_5_code
def yX3_load : MethodName := ⟨RX3, "load", "()I"⟩
abbrev cX3_obeyText : ByteArray := prog_1_method_6_code
def yX3_obeyText : MethodName := ⟨RX3, "obeyText", "(I)Z"⟩
abbrev cX3_about : ByteArray := prog_1_method_7_code
def yX3_about : MethodName := ⟨RX3, "about", "(I)I"⟩
abbrev cX3_space : ByteArray := prog_1_method_8_code
def yX3_space : MethodName := ⟨RX3, "space", "(II)I"⟩
abbrev cX3_loans : ByteArray := prog_1_method_9_code
def yX3_loans : MethodName := ⟨RX3, "loans", "(II)I"⟩
abbrev cX3_time : ByteArray := prog_1_method_10_code
def yX3_time : MethodName := ⟨RX3, "time", "(II)I"⟩
abbrev cX3_oldest : ByteArray := prog_1_method_11_code
def yX3_oldest : MethodName := ⟨RX3, "oldest", "(II)I"⟩
abbrev cX3_make : ByteArray := prog_1_method_12_code
def yX3_make : MethodName := ⟨RX3, "make", "(II)I"⟩
abbrev cX3_write : ByteArray := prog_1_method_13_code
def yX3_write : MethodName := ⟨RX3, "write", "(II)I"⟩
abbrev cX3_trim : ByteArray := prog_1_method_14_code
def yX3_trim : MethodName := ⟨RX3, "trim", "(II)I"⟩
abbrev cX3_setFloor : ByteArray := prog_1_method_15_code
def yX3_setFloor : MethodName := ⟨RX3, "setFloor", "(II)I"⟩
abbrev cX3_setCeiling : ByteArray := prog_1_method_16_code
def yX3_setCeiling : MethodName := ⟨RX3, "setCeiling", "(II)I"⟩
abbrev cX3_undo : ByteArray := prog_1_method_17_code
def yX3_undo : MethodName := ⟨RX3, "undo", "()I"⟩
abbrev cX3_would : ByteArray := prog_1_method_18_code
def yX3_would : MethodName := ⟨RX3, "would", "(II)I"⟩
abbrev cX3_room : ByteArray := prog_1_method_19_code
def yX3_room : MethodName := ⟨RX3, "room", "(I)I"⟩
abbrev cX3_harm : ByteArray := prog_1_method_20_code
def yX3_harm : MethodName := ⟨RX3, "harm", "(II)I"⟩
abbrev cX3_victim : ByteArray := prog_1_method_21_code
def yX3_victim : MethodName := ⟨RX3, "victim", "(I)I"⟩
abbrev cX3_noisy : ByteArray := prog_1_method_22_code
def yX3_noisy : MethodName := ⟨RX3, "noisy", "()I"⟩
abbrev cX3_mostFloor : ByteArray := prog_1_method_23_code
def yX3_mostFloor : MethodName := ⟨RX3, "mostFloor", "(I)I"⟩
abbrev cX3_leastFloor : ByteArray := prog_1_method_24_code
def yX3_leastFloor : MethodName := ⟨RX3, "leastFloor", "(I)I"⟩
abbrev cX3_growGuess : ByteArray := prog_1_method_25_code
def yX3_growGuess : MethodName := ⟨RX3, "growGuess", "(LLentRoom$Device;II)I"⟩
abbrev cX3_runScript : ByteArray := prog_1_method_26_code
def yX3_runScript : MethodName := ⟨RX3, "runScript", "(IJ)I"⟩
abbrev cX3_withoutGroups : ByteArray := prog_1_method_27_code
def yX3_withoutGroups : MethodName := ⟨RX3, "withoutGroups", "(JI)J"⟩
abbrev cX3_obeyGroup : ByteArray := prog_1_method_28_code
def yX3_obeyGroup : MethodName := ⟨RX3, "obeyGroup", "(I)Z"⟩
abbrev cX3_obeyForSpace : ByteArray := prog_1_method_29_code
def yX3_obeyForSpace : MethodName := ⟨RX3, "obeyForSpace", "(III)Z"⟩
abbrev cX3_simulate : ByteArray := prog_1_method_30_code
def yX3_simulate : MethodName := ⟨RX3, "simulate", "(JI)I"⟩
abbrev cX3_takeTurn : ByteArray := prog_1_method_31_code
def yX3_takeTurn : MethodName := ⟨RX3, "takeTurn", "(I)V"⟩
abbrev cX3_save : ByteArray := prog_1_method_32_code
def yX3_save : MethodName := ⟨RX3, "save", "(I)I"⟩
abbrev cX3_restore : ByteArray := prog_1_method_33_code
def yX3_restore : MethodName := ⟨RX3, "restore", "(I)I"⟩
abbrev cX3_needSpace : ByteArray := prog_1_method_34_code
def yX3_needSpace : MethodName := ⟨RX3, "needSpace", "(I)V"⟩
abbrev cX3_needPage : ByteArray := prog_1_method_35_code
def yX3_needPage : MethodName := ⟨RX3, "needPage", "(II)V"⟩
abbrev cX3_needSlot : ByteArray := prog_1_method_36_code
def yX3_needSlot : MethodName := ⟨RX3, "needSlot", "(I)V"⟩
def RX4 : String := "LentRoomModel"
def TX4 : u_T := fun k => match k with
  | 0 => ("LentRoomModel", "refusal", "I", false)
  | 1 => ("LentRoomModel", "text", "[I", true)
  | 2 => ("LentRoomModel", "size", "I", false)
  | 3 => ("LentRoomModel", "now", "[I", true)
  | 4 => ("LentRoomModel", "trial", "[I", true)
  | 5 => ("LentRoomModel", "diary", "[I", true)
  | 6 => ("LentRoomModel", "acts", "I", false)
  | 7 => ("LentRoomModel", "kept", "[I", true)
  | 8 => ("LentRoomModel", "isKept", "[Z", true)
  | 9 => ("LentRoomModel", "loser", "I", false)
  | 10 => ("LentRoomModel", "spot", "I", false)
  | 11 => ("LentRoomModel", "out", "I", false)
  | _ => ("LentRoomModel", "apart", "[I", true)
def tyX4 : Nat → FieldType := fun k => match k with
  | 0 => .int
  | 1 => .array .int
  | 2 => .int
  | 3 => .array .int
  | 4 => .array .int
  | 5 => .array .int
  | 6 => .int
  | 7 => .array .int
  | 8 => .array .boolean
  | 9 => .int
  | 10 => .int
  | 11 => .int
  | _ => .array .int
theorem nmX4 : ∀ a, a < 13 → ∀ b, b < 13 → a ≠ b → (TX4 a).2.1 ≠ (TX4 b).2.1 := by decide +kernel
theorem tyX4_ok : ∀ k, k < 13 → parseFieldDescriptor (TX4 k).2.2.1 = some (tyX4 k) := by decide +kernel
abbrev cX4_init : ByteArray := prog_6_method_1_code
def yX4_init : MethodName := ⟨RX4, "<init>", "()V"⟩
abbrev cX4_thrown : ByteArray := prog_6_method_2_code
def yX4_thrown : MethodName := ⟨RX4, "thrown", "()I"⟩
abbrev cX4_refused : ByteArray := prog_6_method_3_code
def yX4_refused : MethodName := ⟨RX4, "refused", "(I)Z"⟩
abbrev cX4_in : ByteArray := prog_6_method_4_code
def yX4_in : MethodName := ⟨RX4, "in", "(JJJ)Z"⟩
abbrev cX4_copyState : ByteArray := prog_6_method_5_code
def yX4_copyState : MethodName := ⟨RX4, "copyState", "([II[II)V"⟩
abbrev cX4_isSpace : ByteArray := prog_6_method_6_code
def yX4_isSpace : MethodName := ⟨RX4, "isSpace", "([II)Z"⟩
abbrev cX4_isPage : ByteArray := prog_6_method_7_code
def yX4_isPage : MethodName := ⟨RX4, "isPage", "(I)Z"⟩
abbrev cX4_at : ByteArray := prog_6_method_8_code
def yX4_at : MethodName := ⟨RX4, "at", "(I)I"⟩
abbrev cX4_of : ByteArray := prog_6_method_9_code
def yX4_of : MethodName := ⟨RX4, "of", "([III)I"⟩
abbrev cX4_sum : ByteArray := prog_6_method_10_code
def yX4_sum : MethodName := ⟨RX4, "sum", "([II)I"⟩
abbrev cX4_lends : ByteArray := prog_6_method_11_code
def yX4_lends : MethodName := ⟨RX4, "lends", "([II)I"⟩
abbrev cX4_borrowed : ByteArray := prog_6_method_12_code
def yX4_borrowed : MethodName := ⟨RX4, "borrowed", "([II)I"⟩
abbrev cX4_taken : ByteArray := prog_6_method_13_code
def yX4_taken : MethodName := ⟨RX4, "taken", "([II)I"⟩
abbrev cX4_idle : ByteArray := prog_6_method_14_code
def yX4_idle : MethodName := ⟨RX4, "idle", "([II)I"⟩
abbrev cX4_free : ByteArray := prog_6_method_15_code
def yX4_free : MethodName := ⟨RX4, "free", "([I)I"⟩
abbrev cX4_lender : ByteArray := prog_6_method_16_code
def yX4_lender : MethodName := ⟨RX4, "lender", "([III)I"⟩
abbrev cX4_mostFrom : ByteArray := prog_6_method_17_code
def yX4_mostFrom : MethodName := ⟨RX4, "mostFrom", "([II)I"⟩
abbrev cX4_mostOf : ByteArray := prog_6_method_18_code
def yX4_mostOf : MethodName := ⟨RX4, "mostOf", "([II)I"⟩
abbrev cX4_leastPage : ByteArray := prog_6_method_19_code
def yX4_leastPage : MethodName := ⟨RX4, "leastPage", "([II)I"⟩
abbrev cX4_recall : ByteArray := prog_6_method_20_code
def yX4_recall : MethodName := ⟨RX4, "recall", "([II)V"⟩
abbrev cX4_need : ByteArray := prog_6_method_21_code
def yX4_need : MethodName := ⟨RX4, "need", "([II)I"⟩
abbrev cX4_writeOn : ByteArray := prog_6_method_22_code
def yX4_writeOn : MethodName := ⟨RX4, "writeOn", "([III)I"⟩
abbrev cX4_canTrim : ByteArray := prog_6_method_23_code
def yX4_canTrim : MethodName := ⟨RX4, "canTrim", "([III)Z"⟩
abbrev cX4_trimOn : ByteArray := prog_6_method_24_code
def yX4_trimOn : MethodName := ⟨RX4, "trimOn", "([III)I"⟩
abbrev cX4_whyNotMake : ByteArray := prog_6_method_25_code
def yX4_whyNotMake : MethodName := ⟨RX4, "whyNotMake", "([III)I"⟩
abbrev cX4_makeOn : ByteArray := prog_6_method_26_code
def yX4_makeOn : MethodName := ⟨RX4, "makeOn", "([III)I"⟩
abbrev cX4_most : ByteArray := prog_6_method_27_code
def yX4_most : MethodName := ⟨RX4, "most", "([II)I"⟩
abbrev cX4_least : ByteArray := prog_6_method_28_code
def yX4_least : MethodName := ⟨RX4, "least", "([II)I"⟩
abbrev cX4_whyNotFloor : ByteArray := prog_6_method_29_code
def yX4_whyNotFloor : MethodName := ⟨RX4, "whyNotFloor", "([III)I"⟩
abbrev cX4_lay : ByteArray := prog_6_method_30_code
def yX4_lay : MethodName := ⟨RX4, "lay", "([IIII)I"⟩
abbrev cX4_whyNotCeiling : ByteArray := prog_6_method_31_code
def yX4_whyNotCeiling : MethodName := ⟨RX4, "whyNotCeiling", "([III)I"⟩
abbrev cX4_append : ByteArray := prog_6_method_32_code
def yX4_append : MethodName := ⟨RX4, "append", "(I)I"⟩
abbrev cX4_clearText : ByteArray := prog_6_method_33_code
def yX4_clearText : MethodName := ⟨RX4, "clearText", "()I"⟩
abbrev cX4_figures : ByteArray := prog_6_method_34_code
def yX4_figures : MethodName := ⟨RX4, "figures", "(IIII)I"⟩
abbrev cX4_leftOut : ByteArray := prog_6_method_35_code
def yX4_leftOut : MethodName := ⟨RX4, "leftOut", "(Z)V"⟩
abbrev cX4_doesFloor : ByteArray := prog_6_method_36_code
def yX4_doesFloor : MethodName := ⟨RX4, "doesFloor", "([III)Z"⟩
abbrev cX4_doesWrites : ByteArray := prog_6_method_37_code
def yX4_doesWrites : MethodName := ⟨RX4, "doesWrites", "([IIII)Z"⟩
abbrev cX4_readCommand : ByteArray := prog_6_method_38_code
def yX4_readCommand : MethodName := ⟨RX4, "readCommand", "([I)Z"⟩
abbrev cX4_readText : ByteArray := prog_6_method_39_code
def yX4_readText : MethodName := ⟨RX4, "readText", "([I)I"⟩
abbrev cX4_errorPosition : ByteArray := prog_6_method_40_code
def yX4_errorPosition : MethodName := ⟨RX4, "errorPosition", "()I"⟩
abbrev cX4_load : ByteArray := prog_6_method_41_code
def yX4_load : MethodName := ⟨RX4, "load", "()I"⟩
abbrev cX4_written : ByteArray := prog_6_method_42_code
def yX4_written : MethodName := ⟨RX4, "written", "([I)I"⟩
abbrev cX4_about : ByteArray := prog_6_method_43_code
def yX4_about : MethodName := ⟨RX4, "about", "(I)I"⟩
abbrev cX4_space : ByteArray := prog_6_method_44_code
def yX4_space : MethodName := ⟨RX4, "space", "(II)I"⟩
abbrev cX4_loans : ByteArray := prog_6_method_45_code
def yX4_loans : MethodName := ⟨RX4, "loans", "(II)I"⟩
abbrev cX4_time : ByteArray := prog_6_method_46_code
def yX4_time : MethodName := ⟨RX4, "time", "(II)I"⟩
abbrev cX4_oldest : ByteArray := prog_6_method_47_code
def yX4_oldest : MethodName := ⟨RX4, "oldest", "(II)I"⟩
abbrev cX4_remember : ByteArray := prog_6_method_48_code
def yX4_remember : MethodName := ⟨RX4, "remember", "()V"⟩
abbrev cX4_make : ByteArray := prog_6_method_49_code
def yX4_make : MethodName := ⟨RX4, "make", "(II)I"⟩
abbrev cX4_write : ByteArray := prog_6_method_50_code
def yX4_write : MethodName := ⟨RX4, "write", "(II)I"⟩
abbrev cX4_trim : ByteArray := prog_6_method_51_code
def yX4_trim : MethodName := ⟨RX4, "trim", "(II)I"⟩
abbrev cX4_setFloor : ByteArray := prog_6_method_52_code
def yX4_setFloor : MethodName := ⟨RX4, "setFloor", "(II)I"⟩
abbrev cX4_setCeiling : ByteArray := prog_6_method_53_code
def yX4_setCeiling : MethodName := ⟨RX4, "setCeiling", "(II)I"⟩
abbrev cX4_undo : ByteArray := prog_6_method_54_code
def yX4_undo : MethodName := ⟨RX4, "undo", "()I"⟩
abbrev cX4_would : ByteArray := prog_6_method_55_code
def yX4_would : MethodName := ⟨RX4, "would", "(II)I"⟩
abbrev cX4_go : ByteArray := prog_6_method_56_code
def yX4_go : MethodName := ⟨RX4, "go", "([III)I"⟩
abbrev cX4_room : ByteArray := prog_6_method_57_code
def yX4_room : MethodName := ⟨RX4, "room", "(I)I"⟩
abbrev cX4_harm : ByteArray := prog_6_method_58_code
def yX4_harm : MethodName := ⟨RX4, "harm", "(II)I"⟩
abbrev cX4_victim : ByteArray := prog_6_method_59_code
def yX4_victim : MethodName := ⟨RX4, "victim", "(I)I"⟩
abbrev cX4_noisy : ByteArray := prog_6_method_60_code
def yX4_noisy : MethodName := ⟨RX4, "noisy", "()I"⟩
abbrev cX4_mostFloor : ByteArray := prog_6_method_61_code
def yX4_mostFloor : MethodName := ⟨RX4, "mostFloor", "(I)I"⟩
abbrev cX4_leastFloor : ByteArray := prog_6_method_62_code
def yX4_leastFloor : MethodName := ⟨RX4, "leastFloor", "(I)I"⟩
abbrev cX4_command : ByteArray := prog_6_method_63_code
def yX4_command : MethodName := ⟨RX4, "command", "(IIII)Z"⟩
abbrev cX4_runScript : ByteArray := prog_6_method_64_code
def yX4_runScript : MethodName := ⟨RX4, "runScript", "(IJ)I"⟩
abbrev cX4_turn : ByteArray := prog_6_method_65_code
def yX4_turn : MethodName := ⟨RX4, "turn", "(I)V"⟩
abbrev cX4_simulate : ByteArray := prog_6_method_66_code
def yX4_simulate : MethodName := ⟨RX4, "simulate", "(JI)I"⟩
abbrev cX4_save : ByteArray := prog_6_method_67_code
def yX4_save : MethodName := ⟨RX4, "save", "(I)I"⟩
abbrev cX4_restore : ByteArray := prog_6_method_68_code
def yX4_restore : MethodName := ⟨RX4, "restore", "(I)I"⟩
def RJ9 : String := "java/lang/Math"
abbrev cJ9_max_7cf53 : ByteArray := prog_11_method_65_code
def yJ9_max_7cf53 : MethodName := ⟨RJ9, "max", "(II)I"⟩
abbrev cJ9_min_7cf53 : ByteArray := prog_11_method_69_code
def yJ9_min_7cf53 : MethodName := ⟨RJ9, "min", "(II)I"⟩
def RJ0 : String := "java/lang/String"
abbrev cJ0_length_8abf5 : ByteArray := prog_13_method_54_code
def yJ0_length_8abf5 : MethodName := ⟨RJ0, "length", "()I"⟩
abbrev cJ0_isEmpty_aae02 : ByteArray := prog_13_method_55_code
def yJ0_isEmpty_aae02 : MethodName := ⟨RJ0, "isEmpty", "()Z"⟩
abbrev cJ0_charAt_5068e : ByteArray := prog_13_method_56_code
def yJ0_charAt_5068e : MethodName := ⟨RJ0, "charAt", "(I)C"⟩
abbrev cJ0_coder_7d493 : ByteArray := prog_13_method_152_code
def yJ0_coder_7d493 : MethodName := ⟨RJ0, "coder", "()B"⟩
abbrev cJ0_isLatin1_aae02 : ByteArray := prog_13_method_154_code
def yJ0_isLatin1_aae02 : MethodName := ⟨RJ0, "isLatin1", "()Z"⟩
abbrev cJ0_checkIndex_df160 : ByteArray := prog_13_method_155_code
def yJ0_checkIndex_df160 : MethodName := ⟨RJ0, "checkIndex", "(II)V"⟩
def RJ1 : String := "java/lang/StringLatin1"
abbrev cJ1_charAt_3b067 : ByteArray := prog_14_method_2_code
def yJ1_charAt_3b067 : MethodName := ⟨RJ1, "charAt", "([BI)C"⟩
def RJ2 : String := "java/lang/StringUTF16"
abbrev cJ2_getChar_3b067 : ByteArray := prog_15_method_5_code
def yJ2_getChar_3b067 : MethodName := ⟨RJ2, "getChar", "([BI)C"⟩
abbrev cJ2_length_9d52b : ByteArray := prog_15_method_6_code
def yJ2_length_9d52b : MethodName := ⟨RJ2, "length", "([B)I"⟩
abbrev cJ2_charAt_3b067 : ByteArray := prog_15_method_83_code
def yJ2_charAt_3b067 : MethodName := ⟨RJ2, "charAt", "([BI)C"⟩
abbrev cJ2_checkIndex_2214a : ByteArray := prog_15_method_91_code
def yJ2_checkIndex_2214a : MethodName := ⟨RJ2, "checkIndex", "(I[B)V"⟩
def RJ10 : String := "java/lang/System"
def RJ3 : String := "jdk/internal/util/Preconditions"
abbrev cJ3_checkIndex_8e157 : ByteArray := prog_18_method_11_code
def yJ3_checkIndex_8e157 : MethodName := ⟨RJ3, "checkIndex", "(IILjava/util/function/BiFunction;)I"⟩
def RL : String := "LentRoomLaw"
abbrev cL_append : ByteArray := method_3_code
def yL_append : MethodName := ⟨RL, "append", "(LLentRoom;I[J)I"⟩
abbrev cL_load : ByteArray := method_4_code
def yL_load : MethodName := ⟨RL, "load", "(LLentRoom;[J)I"⟩
abbrev cL_about : ByteArray := method_5_code
def yL_about : MethodName := ⟨RL, "about", "(LLentRoom;I[J)I"⟩
abbrev cL_space : ByteArray := method_6_code
def yL_space : MethodName := ⟨RL, "space", "(LLentRoom;II[J)I"⟩
abbrev cL_loans : ByteArray := method_7_code
def yL_loans : MethodName := ⟨RL, "loans", "(LLentRoom;II[J)I"⟩
abbrev cL_time : ByteArray := method_8_code
def yL_time : MethodName := ⟨RL, "time", "(LLentRoom;II[J)I"⟩
abbrev cL_oldest : ByteArray := method_9_code
def yL_oldest : MethodName := ⟨RL, "oldest", "(LLentRoom;II[J)I"⟩
abbrev cL_make : ByteArray := method_10_code
def yL_make : MethodName := ⟨RL, "make", "(LLentRoom;II[J)I"⟩
abbrev cL_write : ByteArray := method_11_code
def yL_write : MethodName := ⟨RL, "write", "(LLentRoom;II[J)I"⟩
abbrev cL_trim : ByteArray := method_12_code
def yL_trim : MethodName := ⟨RL, "trim", "(LLentRoom;II[J)I"⟩
abbrev cL_setFloor : ByteArray := method_13_code
def yL_setFloor : MethodName := ⟨RL, "setFloor", "(LLentRoom;II[J)I"⟩
abbrev cL_setCeiling : ByteArray := method_14_code
def yL_setCeiling : MethodName := ⟨RL, "setCeiling", "(LLentRoom;II[J)I"⟩
abbrev cL_undo : ByteArray := method_15_code
def yL_undo : MethodName := ⟨RL, "undo", "(LLentRoom;[J)I"⟩
abbrev cL_would : ByteArray := method_16_code
def yL_would : MethodName := ⟨RL, "would", "(LLentRoom;II[J)I"⟩
abbrev cL_room : ByteArray := method_17_code
def yL_room : MethodName := ⟨RL, "room", "(LLentRoom;I[J)I"⟩
abbrev cL_harm : ByteArray := method_18_code
def yL_harm : MethodName := ⟨RL, "harm", "(LLentRoom;II[J)I"⟩
abbrev cL_victim : ByteArray := method_19_code
def yL_victim : MethodName := ⟨RL, "victim", "(LLentRoom;I[J)I"⟩
abbrev cL_mostFloor : ByteArray := method_20_code
def yL_mostFloor : MethodName := ⟨RL, "mostFloor", "(LLentRoom;I[J)I"⟩
abbrev cL_leastFloor : ByteArray := method_21_code
def yL_leastFloor : MethodName := ⟨RL, "leastFloor", "(LLentRoom;I[J)I"⟩
abbrev cL_runScript : ByteArray := method_22_code
def yL_runScript : MethodName := ⟨RL, "runScript", "(LLentRoom;IJ[J)I"⟩
abbrev cL_simulate : ByteArray := method_23_code
def yL_simulate : MethodName := ⟨RL, "simulate", "(LLentRoom;JI[J)I"⟩
abbrev cL_save : ByteArray := method_24_code
def yL_save : MethodName := ⟨RL, "save", "(LLentRoom;I[J)I"⟩
abbrev cL_restore : ByteArray := method_25_code
def yL_restore : MethodName := ⟨RL, "restore", "(LLentRoom;I[J)I"⟩
abbrev cL_law : ByteArray := code
def yL_law : MethodName := ⟨RL, "law", "([I)Z"⟩
abbrev vwCl : List vw_C := [(RX0, TX0, 11), (RX1, TX1, 3), (RX2, TX2, 2), (RX3, TX3, 8), (RX4, TX4, 13)]
def AL : List Cond := lw_tbl.filter goodWord
theorem al_in {w : Cond} (i : Nat) (h : lw_tbl[i]? = some w) (g : goodWord w = true) : w ∈ AL := List.mem_filter.mpr ⟨List.mem_of_getElem? h, g⟩
theorem al_good {w : Cond} (h : w ∈ AL) : (w.onTables && w.keeps) = true ∨ ∃ ty, w = .arrayClass ty := good_of_word (List.mem_filter.mp h).2
theorem al_hts {args : Array Value} {s : State} (h : ∀ w ∈ lw_tbl, w.before args s = true) : ∀ w ∈ AL, w.before args s = true := fun w hw => h w (List.mem_filter.mp hw).1
theorem al_t1 {w : Cond} (i : Nat) (h : tables_1_1[i]? = some w) (g : goodWord w = true) : w ∈ AL := List.mem_filter.mpr ⟨List.mem_append_right _ (List.mem_append_left _ (List.mem_of_getElem? h)), g⟩
theorem al_t2 {w : Cond} (i : Nat) (h : tables_1_2[i]? = some w) (g : goodWord w = true) : w ∈ AL := List.mem_filter.mpr ⟨List.mem_append_right _ (List.mem_append_right _ (List.mem_append_left _ (List.mem_of_getElem? h))), g⟩
theorem al_t3 {w : Cond} (i : Nat) (h : tables_1_3[i]? = some w) (g : goodWord w = true) : w ∈ AL := List.mem_filter.mpr ⟨List.mem_append_right _ (List.mem_append_right _ (List.mem_append_right _ (List.mem_append_left _ (List.mem_of_getElem? h)))), g⟩
theorem al_t4 {w : Cond} (i : Nat) (h : tables_1_4[i]? = some w) (g : goodWord w = true) : w ∈ AL := List.mem_filter.mpr ⟨List.mem_append_right _ (List.mem_append_right _ (List.mem_append_right _ (List.mem_append_right _ (List.mem_append_left _ (List.mem_of_getElem? h))))), g⟩
theorem al_t5 {w : Cond} (i : Nat) (h : tables_1_5[i]? = some w) (g : goodWord w = true) : w ∈ AL := List.mem_filter.mpr ⟨List.mem_append_right _ (List.mem_append_right _ (List.mem_append_right _ (List.mem_append_right _ (List.mem_append_right _ (List.mem_of_getElem? h))))), g⟩
theorem q_0 : Cond.selects "LentRoom$Text" yX2_fits yX2_fits ∈ AL := al_in 0 (by decide +kernel) rfl
theorem q_1 : Cond.selects "java/lang/Throwable" ⟨"java/lang/Throwable", "fillInStackTrace", "(I)Ljava/lang/Throwable;"⟩ ⟨"java/lang/Throwable", "fillInStackTrace", "(I)Ljava/lang/Throwable;"⟩ ∈ AL := al_in 1 (by decide +kernel) rfl
theorem q_2 : Cond.selects "LentRoom" yX3_obeyText yX3_obeyText ∈ AL := al_in 2 (by decide +kernel) rfl
theorem q_3 : Cond.selects "LentRoom$Device" yX0_recallLoan yX0_recallLoan ∈ AL := al_in 3 (by decide +kernel) rfl
theorem q_4 : Cond.selects "LentRoom$Device" yX0_greatestBorrower yX0_greatestBorrower ∈ AL := al_in 4 (by decide +kernel) rfl
theorem q_5 : Cond.selects "LentRoom$Device" yX0_idlestBut yX0_idlestBut ∈ AL := al_in 5 (by decide +kernel) rfl
theorem q_6 : Cond.selects "LentRoom$Device" yX0_loseOldest yX0_loseOldest ∈ AL := al_in 6 (by decide +kernel) rfl
theorem q_7 : Cond.selects "LentRoom$Device" yX0_oldestAfter yX0_oldestAfter ∈ AL := al_in 7 (by decide +kernel) rfl
theorem q_8 : Cond.selects "LentRoom$Device" yX0_greatestLender yX0_greatestLender ∈ AL := al_in 8 (by decide +kernel) rfl
theorem q_9 : Cond.selects "LentRoom" yX3_needSpace yX3_needSpace ∈ AL := al_in 9 (by decide +kernel) rfl
theorem q_10 : Cond.selects "LentRoom" yX3_needPage yX3_needPage ∈ AL := al_in 10 (by decide +kernel) rfl
theorem q_11 : Cond.selects "LentRoom" yX3_growGuess yX3_growGuess ∈ AL := al_in 11 (by decide +kernel) rfl
theorem q_12 : Cond.selects "LentRoom" yX3_obeyGroup yX3_obeyGroup ∈ AL := al_in 12 (by decide +kernel) rfl
theorem q_13 : Cond.selects "LentRoom" yX3_obeyForSpace yX3_obeyForSpace ∈ AL := al_in 13 (by decide +kernel) rfl
theorem q_14 : Cond.selects "LentRoom" yX3_takeTurn yX3_takeTurn ∈ AL := al_in 14 (by decide +kernel) rfl
theorem q_15 : Cond.selects "LentRoomModel" yX4_refused yX4_refused ∈ AL := al_in 15 (by decide +kernel) rfl
theorem q_16 : Cond.selects "LentRoomModel" yX4_readText yX4_readText ∈ AL := al_in 16 (by decide +kernel) rfl
theorem q_17 : Cond.selects "LentRoomModel" yX4_readCommand yX4_readCommand ∈ AL := al_in 17 (by decide +kernel) rfl
theorem q_18 : Cond.selects "LentRoomModel" yX4_figures yX4_figures ∈ AL := al_in 18 (by decide +kernel) rfl
theorem q_19 : Cond.selects "LentRoomModel" yX4_leftOut yX4_leftOut ∈ AL := al_in 19 (by decide +kernel) rfl
theorem q_20 : Cond.selects "LentRoomModel" yX4_writeOn yX4_writeOn ∈ AL := al_in 20 (by decide +kernel) rfl
theorem q_21 : Cond.selects "LentRoomModel" yX4_need yX4_need ∈ AL := al_in 21 (by decide +kernel) rfl
theorem q_22 : Cond.selects "LentRoomModel" yX4_recall yX4_recall ∈ AL := al_in 22 (by decide +kernel) rfl
theorem q_23 : Cond.selects "LentRoomModel" yX4_doesFloor yX4_doesFloor ∈ AL := al_in 23 (by decide +kernel) rfl
theorem q_24 : Cond.selects "LentRoomModel" yX4_doesWrites yX4_doesWrites ∈ AL := al_in 24 (by decide +kernel) rfl
theorem q_25 : Cond.selects "LentRoomModel" yX4_remember yX4_remember ∈ AL := al_in 25 (by decide +kernel) rfl
theorem q_26 : Cond.selects "LentRoomModel" yX4_go yX4_go ∈ AL := al_in 26 (by decide +kernel) rfl
theorem q_27 : Cond.selects "LentRoomModel" yX4_command yX4_command ∈ AL := al_in 27 (by decide +kernel) rfl
theorem q_28 : Cond.selects "LentRoomModel" yX4_turn yX4_turn ∈ AL := al_in 28 (by decide +kernel) rfl
theorem q_29 : Cond.initialized "LentRoomLaw" ∈ AL := al_t1 0 (by decide +kernel) rfl
theorem q_30 : Cond.initialized "LentRoom" ∈ AL := al_t1 1 (by decide +kernel) rfl
theorem q_31 : Cond.initialized "LentRoom$Text" ∈ AL := al_t1 2 (by decide +kernel) rfl
theorem q_32 : Cond.initialized "LentRoom$Device" ∈ AL := al_t1 3 (by decide +kernel) rfl
theorem q_33 : Cond.initialized "LentRoom$History" ∈ AL := al_t1 4 (by decide +kernel) rfl
theorem q_34 : Cond.initialized "LentRoomModel" ∈ AL := al_t1 5 (by decide +kernel) rfl
theorem q_35 : Cond.initialized "java/lang/Throwable" ∈ AL := al_t1 6 (by decide +kernel) rfl
theorem q_36 : Cond.initialized "java/lang/Exception" ∈ AL := al_t1 7 (by decide +kernel) rfl
theorem q_37 : Cond.initialized "java/lang/RuntimeException" ∈ AL := al_t1 8 (by decide +kernel) rfl
theorem q_38 : Cond.initialized "java/lang/IllegalArgumentException" ∈ AL := al_t1 9 (by decide +kernel) rfl
theorem q_39 : Cond.initialized "java/lang/IllegalStateException" ∈ AL := al_t1 10 (by decide +kernel) rfl
theorem q_40 : Cond.initialized "java/lang/String" ∈ AL := al_t1 11 (by decide +kernel) rfl
theorem q_41 : Cond.initialized "java/lang/StringLatin1" ∈ AL := al_t1 12 (by decide +kernel) rfl
theorem q_42 : Cond.initialized "jdk/internal/util/Preconditions" ∈ AL := al_t1 13 (by decide +kernel) rfl
theorem q_43 : Cond.initialized "java/lang/StringUTF16" ∈ AL := al_t1 14 (by decide +kernel) rfl
theorem q_44 : Cond.initialized "java/lang/Math" ∈ AL := al_t1 15 (by decide +kernel) rfl
theorem q_45 : Cond.initialized "java/lang/System" ∈ AL := al_t1 16 (by decide +kernel) rfl
theorem q_46 : Cond.initialized "java/lang/IndexOutOfBoundsException" ∈ AL := al_t1 17 (by decide +kernel) rfl
theorem q_47 : Cond.classLink "LentRoomLaw" 8 "LentRoom" ∈ AL := al_t1 18 (by decide +kernel) rfl
theorem q_48 : Cond.instantiable "LentRoom" 8 ∈ AL := al_t1 19 (by decide +kernel) rfl
theorem q_49 : Cond.methodLink "LentRoomLaw" 89 yX3_init ∈ AL := al_t1 20 (by decide +kernel) rfl
theorem q_50 : Cond.instanceMethod yX3_init ∈ AL := al_t1 21 (by decide +kernel) rfl
set_option maxRecDepth 100000 in
theorem q_51 : Cond.code yX3_init cX3_init 2 (Option.none : Option Jvm.ClassFile.FieldType) ∈ AL := al_t1 22 rfl rfl
theorem q_52 : Cond.methodLink "LentRoom" 1 ⟨"java/lang/Object", "<init>", "()V"⟩ ∈ AL := al_t1 23 (by decide +kernel) rfl
theorem q_53 : Cond.instanceMethod ⟨"java/lang/Object", "<init>", "()V"⟩ ∈ AL := al_t1 24 (by decide +kernel) rfl
set_option maxRecDepth 100000 in
theorem q_54 : Cond.code ⟨"java/lang/Object", "<init>", "()V"⟩ object_method_1_code 1 (Option.none : Option Jvm.ClassFile.FieldType) ∈ AL := al_t1 25 rfl rfl
theorem q_55 : Cond.classLink "LentRoom" 7 "LentRoom$Text" ∈ AL := al_t1 26 (by decide +kernel) rfl
theorem q_56 : Cond.instantiable "LentRoom$Text" 2 ∈ AL := al_t1 27 (by decide +kernel) rfl
theorem q_58 : Cond.instanceMethod yX2_init ∈ AL := al_t1 29 (by decide +kernel) rfl
set_option maxRecDepth 100000 in
theorem q_59 : Cond.code yX2_init cX2_init 1 (Option.none : Option Jvm.ClassFile.FieldType) ∈ AL := al_t1 30 rfl rfl
theorem q_60 : Cond.methodLink "LentRoom$Text" 3 ⟨"java/lang/Object", "<init>", "()V"⟩ ∈ AL := al_t1 31 (by decide +kernel) rfl
theorem q_61 : Cond.fieldLink "LentRoom$Text" 15 "LentRoom$Text" "length" "I" ∈ AL := al_t1 32 (by decide +kernel) rfl
theorem q_62 : Cond.fieldLink "LentRoom" 83 "LentRoom$Text" "length" "I" ∈ AL := al_t1 33 (by decide +kernel) rfl
theorem q_63 : Cond.fieldLink "LentRoom$Text" 9 "LentRoom$Text" "signs" "[C" ∈ AL := al_t1 34 (by decide +kernel) rfl
theorem q_64 : Cond.lays "LentRoom$Text" "LentRoom$Text" "length" "I" ∈ AL := al_t1 35 (by decide +kernel) rfl
theorem q_66 : Cond.laysFinal "LentRoom$Text" "LentRoom$Text" "signs" "[C" ∈ AL := al_t1 37 (by decide +kernel) rfl
theorem q_68 : Cond.superclass "LentRoom$Text" "java/lang/Object" ∈ AL := al_t1 39 (by decide +kernel) rfl
theorem q_69 : Cond.arrayClass Jvm.ClassFile.FieldType.char ∈ AL := al_t1 40 (by decide +kernel) rfl
theorem q_70 : Cond.classLink "LentRoom" 16 "LentRoom$Device" ∈ AL := al_t1 41 (by decide +kernel) rfl
theorem q_71 : Cond.instantiable "LentRoom$Device" 11 ∈ AL := al_t1 42 (by decide +kernel) rfl
theorem q_73 : Cond.instanceMethod yX0_init ∈ AL := al_t1 44 (by decide +kernel) rfl
set_option maxRecDepth 100000 in
theorem q_74 : Cond.code yX0_init cX0_init 1 (Option.none : Option Jvm.ClassFile.FieldType) ∈ AL := al_t1 45 rfl rfl
theorem q_75 : Cond.methodLink "LentRoom$Device" 3 ⟨"java/lang/Object", "<init>", "()V"⟩ ∈ AL := al_t1 46 (by decide +kernel) rfl
theorem q_76 : Cond.classLink "LentRoom$Device" 24 "[[I" ∈ AL := al_t1 47 (by decide +kernel) rfl
theorem q_78 : Cond.fieldLink "LentRoom$Device" 41 "LentRoom$Device" "spaces" "I" ∈ AL := al_t1 49 (by decide +kernel) rfl
theorem q_79 : Cond.fieldLink "LentRoom" 214 "LentRoom$Device" "spaces" "I" ∈ AL := al_t1 50 (by decide +kernel) rfl
theorem q_80 : Cond.fieldLink "LentRoom$Device" 45 "LentRoom$Device" "clock" "I" ∈ AL := al_t1 51 (by decide +kernel) rfl
theorem q_81 : Cond.fieldLink "LentRoom$Device" 9 "LentRoom$Device" "floor" "[I" ∈ AL := al_t1 52 (by decide +kernel) rfl
theorem q_82 : Cond.fieldLink "LentRoom" 175 "LentRoom$Device" "floor" "[I" ∈ AL := al_t1 53 (by decide +kernel) rfl
theorem q_83 : Cond.fieldLink "LentRoom$Device" 15 "LentRoom$Device" "ceiling" "[I" ∈ AL := al_t1 54 (by decide +kernel) rfl
theorem q_84 : Cond.fieldLink "LentRoom" 184 "LentRoom$Device" "ceiling" "[I" ∈ AL := al_t1 55 (by decide +kernel) rfl
theorem q_85 : Cond.fieldLink "LentRoom$Device" 18 "LentRoom$Device" "own" "[I" ∈ AL := al_t1 56 (by decide +kernel) rfl
theorem q_86 : Cond.fieldLink "LentRoom$Device" 21 "LentRoom$Device" "common" "[I" ∈ AL := al_t1 57 (by decide +kernel) rfl
theorem q_87 : Cond.fieldLink "LentRoom$Device" 26 "LentRoom$Device" "loan" "[[I" ∈ AL := al_t1 58 (by decide +kernel) rfl
theorem q_88 : Cond.fieldLink "LentRoom" 131 "LentRoom$Device" "loan" "[[I" ∈ AL := al_t1 59 (by decide +kernel) rfl
theorem q_89 : Cond.fieldLink "LentRoom$Device" 29 "LentRoom$Device" "written" "[[I" ∈ AL := al_t1 60 (by decide +kernel) rfl
theorem q_90 : Cond.fieldLink "LentRoom" 142 "LentRoom$Device" "written" "[[I" ∈ AL := al_t1 61 (by decide +kernel) rfl
theorem q_91 : Cond.fieldLink "LentRoom$Device" 32 "LentRoom$Device" "recalls" "[I" ∈ AL := al_t1 62 (by decide +kernel) rfl
theorem q_92 : Cond.fieldLink "LentRoom$Device" 35 "LentRoom$Device" "lost" "[I" ∈ AL := al_t1 63 (by decide +kernel) rfl
theorem q_93 : Cond.fieldLink "LentRoom$Device" 38 "LentRoom$Device" "refused" "[I" ∈ AL := al_t1 64 (by decide +kernel) rfl
theorem q_94 : Cond.lays "LentRoom$Device" "LentRoom$Device" "spaces" "I" ∈ AL := al_t1 65 (by decide +kernel) rfl
theorem q_96 : Cond.lays "LentRoom$Device" "LentRoom$Device" "clock" "I" ∈ AL := al_t1 67 (by decide +kernel) rfl
theorem q_98 : Cond.laysFinal "LentRoom$Device" "LentRoom$Device" "floor" "[I" ∈ AL := al_t1 69 (by decide +kernel) rfl
theorem q_100 : Cond.laysFinal "LentRoom$Device" "LentRoom$Device" "ceiling" "[I" ∈ AL := al_t1 71 (by decide +kernel) rfl
theorem q_102 : Cond.laysFinal "LentRoom$Device" "LentRoom$Device" "own" "[I" ∈ AL := al_t1 73 (by decide +kernel) rfl
theorem q_104 : Cond.laysFinal "LentRoom$Device" "LentRoom$Device" "common" "[I" ∈ AL := al_t1 75 (by decide +kernel) rfl
theorem q_106 : Cond.laysFinal "LentRoom$Device" "LentRoom$Device" "loan" "[[I" ∈ AL := al_t1 77 (by decide +kernel) rfl
theorem q_108 : Cond.laysFinal "LentRoom$Device" "LentRoom$Device" "written" "[[I" ∈ AL := al_t1 79 (by decide +kernel) rfl
theorem q_110 : Cond.laysFinal "LentRoom$Device" "LentRoom$Device" "recalls" "[I" ∈ AL := al_t1 81 (by decide +kernel) rfl
theorem q_112 : Cond.laysFinal "LentRoom$Device" "LentRoom$Device" "lost" "[I" ∈ AL := al_t1 83 (by decide +kernel) rfl
theorem q_114 : Cond.laysFinal "LentRoom$Device" "LentRoom$Device" "refused" "[I" ∈ AL := al_t1 85 (by decide +kernel) rfl
theorem q_116 : Cond.superclass "LentRoom$Device" "java/lang/Object" ∈ AL := al_t1 87 (by decide +kernel) rfl
theorem q_117 : Cond.arrayClass Jvm.ClassFile.FieldType.int ∈ AL := al_t1 88 (by decide +kernel) rfl
theorem q_118 : Cond.classLink "LentRoom" 23 "LentRoom$History" ∈ AL := al_t1 89 (by decide +kernel) rfl
theorem q_119 : Cond.instantiable "LentRoom$History" 3 ∈ AL := al_t1 90 (by decide +kernel) rfl
theorem q_120 : Cond.methodLink "LentRoom" 25 yX1_init ∈ AL := al_t1 91 (by decide +kernel) rfl
theorem q_121 : Cond.instanceMethod yX1_init ∈ AL := al_t1 92 (by decide +kernel) rfl
set_option maxRecDepth 100000 in
theorem q_122 : Cond.code yX1_init cX1_init 2 (Option.none : Option Jvm.ClassFile.FieldType) ∈ AL := al_t1 93 rfl rfl
theorem q_123 : Cond.methodLink "LentRoom$History" 3 ⟨"java/lang/Object", "<init>", "()V"⟩ ∈ AL := al_t1 94 (by decide +kernel) rfl
theorem q_124 : Cond.classLink "LentRoom$History" 9 "LentRoom$Device" ∈ AL := al_t1 95 (by decide +kernel) rfl
theorem q_127 : Cond.fieldLink "LentRoom$History" 11 "LentRoom$History" "states" "[LLentRoom$Device;" ∈ AL := al_t1 98 (by decide +kernel) rfl
theorem q_128 : Cond.fieldLink "LentRoom$History" 22 "LentRoom$History" "first" "I" ∈ AL := al_t1 99 (by decide +kernel) rfl
theorem q_129 : Cond.fieldLink "LentRoom$History" 18 "LentRoom$History" "count" "I" ∈ AL := al_t1 100 (by decide +kernel) rfl
theorem q_130 : Cond.laysFinal "LentRoom$History" "LentRoom$History" "states" "[LLentRoom$Device;" ∈ AL := al_t1 101 (by decide +kernel) rfl
theorem q_132 : Cond.lays "LentRoom$History" "LentRoom$History" "first" "I" ∈ AL := al_t1 103 (by decide +kernel) rfl
theorem q_134 : Cond.lays "LentRoom$History" "LentRoom$History" "count" "I" ∈ AL := al_t1 105 (by decide +kernel) rfl
theorem q_136 : Cond.superclass "LentRoom$History" "java/lang/Object" ∈ AL := al_t1 107 (by decide +kernel) rfl
theorem q_137 : Cond.fieldLink "LentRoom" 10 "LentRoom" "text" "LLentRoom$Text;" ∈ AL := al_t1 108 (by decide +kernel) rfl
theorem q_138 : Cond.fieldLink "LentRoom" 19 "LentRoom" "device" "LLentRoom$Device;" ∈ AL := al_t1 109 (by decide +kernel) rfl
theorem q_139 : Cond.fieldLink "LentRoom" 26 "LentRoom" "history" "LLentRoom$History;" ∈ AL := al_t1 110 (by decide +kernel) rfl
theorem q_140 : Cond.fieldLink "LentRoom" 30 "LentRoom" "slots" "[LLentRoom$Device;" ∈ AL := al_t1 111 (by decide +kernel) rfl
theorem q_141 : Cond.fieldLink "LentRoom" 34 "LentRoom" "filled" "[Z" ∈ AL := al_t1 112 (by decide +kernel) rfl
theorem q_142 : Cond.fieldLink "LentRoom" 38 "LentRoom" "blank" "LLentRoom$Device;" ∈ AL := al_t1 113 (by decide +kernel) rfl
theorem q_143 : Cond.fieldLink "LentRoom" 41 "LentRoom" "trial" "LLentRoom$Device;" ∈ AL := al_t1 114 (by decide +kernel) rfl
theorem q_144 : Cond.fieldLink "LentRoom" 44 "LentRoom" "guess" "LLentRoom$Device;" ∈ AL := al_t1 115 (by decide +kernel) rfl
theorem q_145 : Cond.laysFinal "LentRoom" "LentRoom" "text" "LLentRoom$Text;" ∈ AL := al_t1 116 (by decide +kernel) rfl
theorem q_147 : Cond.laysFinal "LentRoom" "LentRoom" "device" "LLentRoom$Device;" ∈ AL := al_t1 118 (by decide +kernel) rfl
theorem q_149 : Cond.laysFinal "LentRoom" "LentRoom" "history" "LLentRoom$History;" ∈ AL := al_t1 120 (by decide +kernel) rfl
theorem q_151 : Cond.laysFinal "LentRoom" "LentRoom" "slots" "[LLentRoom$Device;" ∈ AL := al_t1 122 (by decide +kernel) rfl
theorem q_153 : Cond.laysFinal "LentRoom" "LentRoom" "filled" "[Z" ∈ AL := al_t1 124 (by decide +kernel) rfl
theorem q_155 : Cond.laysFinal "LentRoom" "LentRoom" "blank" "LLentRoom$Device;" ∈ AL := al_t1 126 (by decide +kernel) rfl
theorem q_157 : Cond.laysFinal "LentRoom" "LentRoom" "trial" "LLentRoom$Device;" ∈ AL := al_t1 128 (by decide +kernel) rfl
theorem q_159 : Cond.laysFinal "LentRoom" "LentRoom" "guess" "LLentRoom$Device;" ∈ AL := al_t1 130 (by decide +kernel) rfl
theorem q_161 : Cond.superclass "LentRoom" "java/lang/Object" ∈ AL := al_t1 132 (by decide +kernel) rfl
theorem q_162 : Cond.arrayClass Jvm.ClassFile.FieldType.boolean ∈ AL := al_t1 133 (by decide +kernel) rfl
theorem q_163 : Cond.methodLink "LentRoomLaw" 102 yX3_clearText ∈ AL := al_t1 134 (by decide +kernel) rfl
theorem q_164 : Cond.instanceMethod yX3_clearText ∈ AL := al_t1 135 (by decide +kernel) rfl
theorem q_165 : Cond.selects "LentRoom" yX3_clearText yX3_clearText ∈ AL := al_t1 136 (by decide +kernel) rfl
set_option maxRecDepth 100000 in
theorem q_166 : Cond.code yX3_clearText cX3_clearText 1 (Option.some Jvm.ClassFile.FieldType.int) ∈ AL := al_t1 137 rfl rfl
theorem q_167 : Cond.methodLink "LentRoom" 67 yX2_empty ∈ AL := al_t1 138 (by decide +kernel) rfl
theorem q_168 : Cond.instanceMethod yX2_empty ∈ AL := al_t1 139 (by decide +kernel) rfl
theorem q_169 : Cond.selects "LentRoom$Text" yX2_empty yX2_empty ∈ AL := al_t1 140 (by decide +kernel) rfl
set_option maxRecDepth 100000 in
theorem q_170 : Cond.code yX2_empty cX2_empty 2 (Option.some Jvm.ClassFile.FieldType.int) ∈ AL := al_t1 141 rfl rfl
theorem q_171 : Cond.methodLink "LentRoomLaw" 106 yX3_errorPosition ∈ AL := al_t1 142 (by decide +kernel) rfl
theorem q_172 : Cond.instanceMethod yX3_errorPosition ∈ AL := al_t1 143 (by decide +kernel) rfl
theorem q_173 : Cond.selects "LentRoom" yX3_errorPosition yX3_errorPosition ∈ AL := al_t1 144 (by decide +kernel) rfl
set_option maxRecDepth 100000 in
theorem q_174 : Cond.code yX3_errorPosition cX3_errorPosition 1 (Option.some Jvm.ClassFile.FieldType.int) ∈ AL := al_t1 145 rfl rfl
theorem q_175 : Cond.methodLink "LentRoom" 71 yX2_firstError ∈ AL := al_t1 146 (by decide +kernel) rfl
theorem q_176 : Cond.instanceMethod yX2_firstError ∈ AL := al_t1 147 (by decide +kernel) rfl
theorem q_177 : Cond.selects "LentRoom$Text" yX2_firstError yX2_firstError ∈ AL := al_t1 148 (by decide +kernel) rfl
set_option maxRecDepth 100000 in
theorem q_178 : Cond.code yX2_firstError cX2_firstError 4 (Option.some Jvm.ClassFile.FieldType.int) ∈ AL := al_t1 149 rfl rfl
theorem q_180 : Cond.methodLink "LentRoom$Text" 33 yJ0_length_8abf5 ∈ AL := al_t1 151 (by decide +kernel) rfl
theorem q_181 : Cond.instanceMethod yJ0_length_8abf5 ∈ AL := al_t1 152 (by decide +kernel) rfl
theorem q_182 : Cond.selects "java/lang/String" yJ0_length_8abf5 yJ0_length_8abf5 ∈ AL := al_t1 153 (by decide +kernel) rfl
set_option maxRecDepth 100000 in
theorem q_183 : Cond.code yJ0_length_8abf5 cJ0_length_8abf5 1 (Option.some Jvm.ClassFile.FieldType.int) ∈ AL := al_t1 154 rfl rfl
theorem q_184 : Cond.methodLink "java/lang/String" 335 yJ0_coder_7d493 ∈ AL := al_t1 155 (by decide +kernel) rfl
theorem q_185 : Cond.instanceMethod yJ0_coder_7d493 ∈ AL := al_t1 156 (by decide +kernel) rfl
theorem q_186 : Cond.selects "java/lang/String" yJ0_coder_7d493 yJ0_coder_7d493 ∈ AL := al_t1 157 (by decide +kernel) rfl
set_option maxRecDepth 100000 in
theorem q_187 : Cond.code yJ0_coder_7d493 cJ0_coder_7d493 1 (Option.some Jvm.ClassFile.FieldType.byte) ∈ AL := al_t1 158 rfl rfl
theorem q_188 : Cond.fieldLink "java/lang/String" 38 "java/lang/String" "COMPACT_STRINGS" "Z" ∈ AL := al_t1 159 (by decide +kernel) rfl
theorem q_190 : Cond.methodLink "LentRoom$Text" 38 yJ0_charAt_5068e ∈ AL := al_t1 161 (by decide +kernel) rfl
theorem q_191 : Cond.instanceMethod yJ0_charAt_5068e ∈ AL := al_t1 162 (by decide +kernel) rfl
theorem q_192 : Cond.selects "java/lang/String" yJ0_charAt_5068e yJ0_charAt_5068e ∈ AL := al_t1 163 (by decide +kernel) rfl
set_option maxRecDepth 100000 in
theorem q_193 : Cond.code yJ0_charAt_5068e cJ0_charAt_5068e 2 (Option.some Jvm.ClassFile.FieldType.char) ∈ AL := al_t1 164 rfl rfl
theorem q_194 : Cond.methodLink "java/lang/String" 492 yJ0_isLatin1_aae02 ∈ AL := al_t1 165 (by decide +kernel) rfl
theorem q_195 : Cond.instanceMethod yJ0_isLatin1_aae02 ∈ AL := al_t1 166 (by decide +kernel) rfl
theorem q_196 : Cond.selects "java/lang/String" yJ0_isLatin1_aae02 yJ0_isLatin1_aae02 ∈ AL := al_t1 167 (by decide +kernel) rfl
set_option maxRecDepth 100000 in
theorem q_197 : Cond.code yJ0_isLatin1_aae02 cJ0_isLatin1_aae02 1 (Option.some Jvm.ClassFile.FieldType.boolean) ∈ AL := al_t1 168 rfl rfl
theorem q_198 : Cond.methodLink "java/lang/String" 495 yJ1_charAt_3b067 ∈ AL := al_t1 169 (by decide +kernel) rfl
theorem q_199 : Cond.static yJ1_charAt_3b067 ∈ AL := al_t1 170 (by decide +kernel) rfl
set_option maxRecDepth 100000 in
theorem q_200 : Cond.code yJ1_charAt_3b067 cJ1_charAt_3b067 2 (Option.some Jvm.ClassFile.FieldType.char) ∈ AL := al_t1 171 rfl rfl
theorem q_201 : Cond.methodLink "java/lang/StringLatin1" 9 yJ0_checkIndex_df160 ∈ AL := al_t1 172 (by decide +kernel) rfl
theorem q_202 : Cond.static yJ0_checkIndex_df160 ∈ AL := al_t1 173 (by decide +kernel) rfl
set_option maxRecDepth 100000 in
theorem q_203 : Cond.code yJ0_checkIndex_df160 cJ0_checkIndex_df160 2 (Option.none : Option Jvm.ClassFile.FieldType) ∈ AL := al_t1 174 rfl rfl
theorem q_204 : Cond.fieldLink "java/lang/String" 1053 "jdk/internal/util/Preconditions" "SIOOBE_FORMATTER" "Ljava/util/function/BiFunction;" ∈ AL := al_t1 175 (by decide +kernel) rfl
theorem q_206 : Cond.methodLink "java/lang/String" 1059 yJ3_checkIndex_8e157 ∈ AL := al_t1 177 (by decide +kernel) rfl
theorem q_207 : Cond.static yJ3_checkIndex_8e157 ∈ AL := al_t1 178 (by decide +kernel) rfl
set_option maxRecDepth 100000 in
theorem q_208 : Cond.code yJ3_checkIndex_8e157 cJ3_checkIndex_8e157 3 (Option.some Jvm.ClassFile.FieldType.int) ∈ AL := al_t1 179 rfl rfl
theorem q_209 : Cond.methodLink "java/lang/String" 498 yJ2_charAt_3b067 ∈ AL := al_t1 180 (by decide +kernel) rfl
theorem q_210 : Cond.static yJ2_charAt_3b067 ∈ AL := al_t1 181 (by decide +kernel) rfl
set_option maxRecDepth 100000 in
theorem q_211 : Cond.code yJ2_charAt_3b067 cJ2_charAt_3b067 2 (Option.some Jvm.ClassFile.FieldType.char) ∈ AL := al_t1 182 rfl rfl
theorem q_212 : Cond.methodLink "java/lang/StringUTF16" 67 yJ2_checkIndex_2214a ∈ AL := al_t1 183 (by decide +kernel) rfl
theorem q_213 : Cond.static yJ2_checkIndex_2214a ∈ AL := al_t1 184 (by decide +kernel) rfl
set_option maxRecDepth 100000 in
theorem q_214 : Cond.code yJ2_checkIndex_2214a cJ2_checkIndex_2214a 2 (Option.none : Option Jvm.ClassFile.FieldType) ∈ AL := al_t1 185 rfl rfl
theorem q_215 : Cond.methodLink "java/lang/StringUTF16" 48 yJ2_length_9d52b ∈ AL := al_t1 186 (by decide +kernel) rfl
theorem q_216 : Cond.static yJ2_length_9d52b ∈ AL := al_t1 187 (by decide +kernel) rfl
set_option maxRecDepth 100000 in
theorem q_217 : Cond.code yJ2_length_9d52b cJ2_length_9d52b 1 (Option.some Jvm.ClassFile.FieldType.int) ∈ AL := al_t1 188 rfl rfl
theorem q_218 : Cond.methodLink "java/lang/StringUTF16" 414 yJ0_checkIndex_df160 ∈ AL := al_t1 189 (by decide +kernel) rfl
theorem q_219 : Cond.methodLink "java/lang/StringUTF16" 71 yJ2_getChar_3b067 ∈ AL := al_t1 190 (by decide +kernel) rfl
theorem q_220 : Cond.static yJ2_getChar_3b067 ∈ AL := al_t1 191 (by decide +kernel) rfl
set_option maxRecDepth 100000 in
theorem q_221 : Cond.code yJ2_getChar_3b067 cJ2_getChar_3b067 2 (Option.some Jvm.ClassFile.FieldType.char) ∈ AL := al_t1 192 rfl rfl
theorem q_222 : Cond.fieldLink "java/lang/StringUTF16" 44 "java/lang/StringUTF16" "$assertionsDisabled" "Z" ∈ AL := al_t1 193 (by decide +kernel) rfl
theorem q_224 : Cond.fieldLink "java/lang/StringUTF16" 59 "java/lang/StringUTF16" "HI_BYTE_SHIFT" "I" ∈ AL := al_t1 195 (by decide +kernel) rfl
theorem q_226 : Cond.fieldLink "java/lang/StringUTF16" 63 "java/lang/StringUTF16" "LO_BYTE_SHIFT" "I" ∈ AL := al_t1 197 (by decide +kernel) rfl
theorem q_228 : Cond.methodLink "LentRoom$Text" 41 yX2_fits ∈ AL := al_t1 199 (by decide +kernel) rfl
theorem q_230 : Cond.instanceMethod yX2_fits ∈ AL := al_t1 201 (by decide +kernel) rfl
set_option maxRecDepth 100000 in
theorem q_231 : Cond.code yX2_fits cX2_fits 4 (Option.some Jvm.ClassFile.FieldType.boolean) ∈ AL := al_t1 202 rfl rfl
theorem q_232 : Cond.methodLink "LentRoom$Text" 23 yX2_sign ∈ AL := al_t1 203 (by decide +kernel) rfl
theorem q_233 : Cond.instanceMethod yX2_sign ∈ AL := al_t1 204 (by decide +kernel) rfl
theorem q_234 : Cond.selects "LentRoom$Text" yX2_sign yX2_sign ∈ AL := al_t1 205 (by decide +kernel) rfl
set_option maxRecDepth 100000 in
theorem q_235 : Cond.code yX2_sign cX2_sign 2 (Option.some Jvm.ClassFile.FieldType.char) ∈ AL := al_t1 206 rfl rfl
theorem q_236 : Cond.methodLink "LentRoom$Text" 27 yX2_isDigit ∈ AL := al_t1 207 (by decide +kernel) rfl
theorem q_237 : Cond.instanceMethod yX2_isDigit ∈ AL := al_t1 208 (by decide +kernel) rfl
theorem q_238 : Cond.selects "LentRoom$Text" yX2_isDigit yX2_isDigit ∈ AL := al_t1 209 (by decide +kernel) rfl
set_option maxRecDepth 100000 in
theorem q_239 : Cond.code yX2_isDigit cX2_isDigit 2 (Option.some Jvm.ClassFile.FieldType.boolean) ∈ AL := al_t1 210 rfl rfl
theorem q_240 : Cond.methodLink "LentRoom$Text" 62 yX2_number ∈ AL := al_t1 211 (by decide +kernel) rfl
theorem q_241 : Cond.instanceMethod yX2_number ∈ AL := al_t1 212 (by decide +kernel) rfl
theorem q_242 : Cond.selects "LentRoom$Text" yX2_number yX2_number ∈ AL := al_t1 213 (by decide +kernel) rfl
set_option maxRecDepth 100000 in
theorem q_243 : Cond.code yX2_number cX2_number 5 (Option.some Jvm.ClassFile.FieldType.int) ∈ AL := al_t1 214 rfl rfl
theorem q_244 : Cond.methodLink "LentRoom$Text" 45 yX2_placesBehind ∈ AL := al_t1 215 (by decide +kernel) rfl
theorem q_245 : Cond.static yX2_placesBehind ∈ AL := al_t1 216 (by decide +kernel) rfl
set_option maxRecDepth 100000 in
theorem q_246 : Cond.code yX2_placesBehind cX2_placesBehind 1 (Option.some (Jvm.ClassFile.FieldType.object "java/lang/String")) ∈ AL := al_t1 217 rfl rfl
theorem q_252 : Cond.methodLink "LentRoom$Text" 49 yJ0_isEmpty_aae02 ∈ AL := al_t1 223 (by decide +kernel) rfl
theorem q_253 : Cond.instanceMethod yJ0_isEmpty_aae02 ∈ AL := al_t1 224 (by decide +kernel) rfl
theorem q_254 : Cond.selects "java/lang/String" yJ0_isEmpty_aae02 yJ0_isEmpty_aae02 ∈ AL := al_t1 225 (by decide +kernel) rfl
set_option maxRecDepth 100000 in
theorem q_255 : Cond.code yJ0_isEmpty_aae02 cJ0_isEmpty_aae02 1 (Option.some Jvm.ClassFile.FieldType.boolean) ∈ AL := al_t1 226 rfl rfl
theorem q_256 : Cond.arrayClass Jvm.ClassFile.FieldType.byte ∈ AL := al_t1 227 (by decide +kernel) rfl
theorem q_257 : Cond.methodLink "LentRoomLaw" 160 yX3_noisy ∈ AL := al_t1 228 (by decide +kernel) rfl
theorem q_258 : Cond.instanceMethod yX3_noisy ∈ AL := al_t1 229 (by decide +kernel) rfl
theorem q_259 : Cond.selects "LentRoom" yX3_noisy yX3_noisy ∈ AL := al_t1 230 (by decide +kernel) rfl
set_option maxRecDepth 100000 in
theorem q_260 : Cond.code yX3_noisy cX3_noisy 3 (Option.some Jvm.ClassFile.FieldType.int) ∈ AL := al_t1 231 rfl rfl
theorem q_261 : Cond.methodLink "LentRoom" 217 yX0_noiseOf ∈ AL := al_t1 232 (by decide +kernel) rfl
theorem q_262 : Cond.instanceMethod yX0_noiseOf ∈ AL := al_t1 233 (by decide +kernel) rfl
theorem q_263 : Cond.selects "LentRoom$Device" yX0_noiseOf yX0_noiseOf ∈ AL := al_t1 234 (by decide +kernel) rfl
set_option maxRecDepth 100000 in
theorem q_264 : Cond.code yX0_noiseOf cX0_noiseOf 2 (Option.some Jvm.ClassFile.FieldType.int) ∈ AL := al_t1 235 rfl rfl
theorem q_265 : Cond.methodLink "LentRoomLaw" 93 yL_append ∈ AL := al_t1 236 (by decide +kernel) rfl
theorem q_266 : Cond.static yL_append ∈ AL := al_t1 237 (by decide +kernel) rfl
set_option maxRecDepth 100000 in
theorem q_267 : Cond.codeWith yL_append cL_append 4 (Option.some Jvm.ClassFile.FieldType.int) [((0 : Nat), (9 : Nat), (12 : Nat), (13 : Nat)), ((0 : Nat), (9 : Nat), (15 : Nat), (15 : Nat))] ∈ AL := al_t1 238 rfl rfl
theorem q_268 : Cond.classLink "LentRoomLaw" 13 "java/lang/IllegalArgumentException" ∈ AL := al_t1 239 (by decide +kernel) rfl
theorem q_269 : Cond.classLink "LentRoomLaw" 15 "java/lang/IllegalStateException" ∈ AL := al_t2 0 (by decide +kernel) rfl
theorem q_270 : Cond.methodLink "LentRoomLaw" 7 yX3_append ∈ AL := al_t2 1 (by decide +kernel) rfl
theorem q_271 : Cond.instanceMethod yX3_append ∈ AL := al_t2 2 (by decide +kernel) rfl
theorem q_272 : Cond.selects "LentRoom" yX3_append yX3_append ∈ AL := al_t2 3 (by decide +kernel) rfl
set_option maxRecDepth 100000 in
theorem q_273 : Cond.code yX3_append cX3_append 2 (Option.some Jvm.ClassFile.FieldType.int) ∈ AL := al_t2 4 rfl rfl
theorem q_274 : Cond.classLink "LentRoom" 47 "java/lang/IllegalArgumentException" ∈ AL := al_t2 5 (by decide +kernel) rfl
theorem q_275 : Cond.instantiable "java/lang/IllegalArgumentException" 6 ∈ AL := al_t2 6 (by decide +kernel) rfl
theorem q_283 : Cond.selects "java/lang/IllegalArgumentException" ⟨"java/lang/Throwable", "fillInStackTrace", "(I)Ljava/lang/Throwable;"⟩ ⟨"java/lang/Throwable", "fillInStackTrace", "(I)Ljava/lang/Throwable;"⟩ ∈ AL := al_t2 14 (by decide +kernel) rfl
theorem q_284 : Cond.selects "java/lang/IllegalArgumentException" ⟨"java/lang/Throwable", "fillInStackTrace", "()Ljava/lang/Throwable;"⟩ ⟨"java/lang/Throwable", "fillInStackTrace", "()Ljava/lang/Throwable;"⟩ ∈ AL := al_t2 15 (by decide +kernel) rfl
theorem q_285 : Cond.lays "java/lang/IllegalArgumentException" "java/lang/Throwable" "cause" "Ljava/lang/Throwable;" ∈ AL := al_t2 16 (by decide +kernel) rfl
theorem q_286 : Cond.lays "java/lang/Throwable" "java/lang/Throwable" "cause" "Ljava/lang/Throwable;" ∈ AL := al_t2 17 (by decide +kernel) rfl
theorem q_287 : Cond.lays "java/lang/IllegalArgumentException" "java/lang/Throwable" "stackTrace" "[Ljava/lang/StackTraceElement;" ∈ AL := al_t2 18 (by decide +kernel) rfl
theorem q_288 : Cond.lays "java/lang/Throwable" "java/lang/Throwable" "stackTrace" "[Ljava/lang/StackTraceElement;" ∈ AL := al_t2 19 (by decide +kernel) rfl
theorem q_289 : Cond.lays "java/lang/IllegalArgumentException" "java/lang/Throwable" "suppressedExceptions" "Ljava/util/List;" ∈ AL := al_t2 20 (by decide +kernel) rfl
theorem q_290 : Cond.lays "java/lang/Throwable" "java/lang/Throwable" "suppressedExceptions" "Ljava/util/List;" ∈ AL := al_t2 21 (by decide +kernel) rfl
theorem q_291 : Cond.lays "java/lang/IllegalArgumentException" "java/lang/Throwable" "detailMessage" "Ljava/lang/String;" ∈ AL := al_t2 22 (by decide +kernel) rfl
theorem q_292 : Cond.lays "java/lang/Throwable" "java/lang/Throwable" "detailMessage" "Ljava/lang/String;" ∈ AL := al_t2 23 (by decide +kernel) rfl
theorem q_293 : Cond.lays "java/lang/IllegalArgumentException" "java/lang/Throwable" "backtrace" "Ljava/lang/Object;" ∈ AL := al_t2 24 (by decide +kernel) rfl
theorem q_294 : Cond.lays "java/lang/Throwable" "java/lang/Throwable" "backtrace" "Ljava/lang/Object;" ∈ AL := al_t2 25 (by decide +kernel) rfl
theorem q_295 : Cond.fieldLink "java/lang/Throwable" 198 "java/lang/Throwable" "backtrace" "Ljava/lang/Object;" ∈ AL := al_t2 26 (by decide +kernel) rfl
theorem q_296 : Cond.superclass "java/lang/Throwable" "java/lang/Object" ∈ AL := al_t2 27 (by decide +kernel) rfl
theorem q_297 : Cond.instanceMethod ⟨"java/lang/Throwable", "<init>", "()V"⟩ ∈ AL := al_t2 28 (by decide +kernel) rfl
set_option maxRecDepth 100000 in
theorem q_298 : Cond.code ⟨"java/lang/Throwable", "<init>", "()V"⟩ prog_17_method_1_code 1 (Option.none : Option Jvm.ClassFile.FieldType) ∈ AL := al_t2 29 rfl rfl
theorem q_299 : Cond.methodLink "java/lang/Throwable" 1 ⟨"java/lang/Object", "<init>", "()V"⟩ ∈ AL := al_t2 30 (by decide +kernel) rfl
theorem q_300 : Cond.fieldLink "java/lang/Throwable" 13 "java/lang/Throwable" "UNASSIGNED_STACK" "[Ljava/lang/StackTraceElement;" ∈ AL := al_t2 31 (by decide +kernel) rfl
theorem q_302 : Cond.fieldLink "java/lang/Throwable" 20 "java/lang/Throwable" "SUPPRESSED_SENTINEL" "Ljava/util/List;" ∈ AL := al_t2 33 (by decide +kernel) rfl
theorem q_304 : Cond.methodLink "java/lang/Throwable" 27 ⟨"java/lang/Throwable", "fillInStackTrace", "()Ljava/lang/Throwable;"⟩ ∈ AL := al_t2 35 (by decide +kernel) rfl
theorem q_305 : Cond.instanceMethod ⟨"java/lang/Throwable", "fillInStackTrace", "()Ljava/lang/Throwable;"⟩ ∈ AL := al_t2 36 (by decide +kernel) rfl
theorem q_306 : Cond.sameMethod "java/lang/Throwable" "java/lang/Throwable" "fillInStackTrace" "()Ljava/lang/Throwable;" ∈ AL := al_t2 37 (by decide +kernel) rfl
theorem q_307 : Cond.selects "java/lang/IllegalStateException" ⟨"java/lang/Throwable", "fillInStackTrace", "()Ljava/lang/Throwable;"⟩ ⟨"java/lang/Throwable", "fillInStackTrace", "()Ljava/lang/Throwable;"⟩ ∈ AL := al_t2 38 (by decide +kernel) rfl
theorem q_308 : Cond.selects "java/lang/IndexOutOfBoundsException" ⟨"java/lang/Throwable", "fillInStackTrace", "()Ljava/lang/Throwable;"⟩ ⟨"java/lang/Throwable", "fillInStackTrace", "()Ljava/lang/Throwable;"⟩ ∈ AL := al_t2 39 (by decide +kernel) rfl
theorem q_310 : Cond.methodLink "java/lang/Throwable" 202 ⟨"java/lang/Throwable", "fillInStackTrace", "(I)Ljava/lang/Throwable;"⟩ ∈ AL := al_t2 41 (by decide +kernel) rfl
theorem q_312 : Cond.instanceMethod ⟨"java/lang/Throwable", "fillInStackTrace", "(I)Ljava/lang/Throwable;"⟩ ∈ AL := al_t2 43 (by decide +kernel) rfl
theorem q_313 : Cond.instantiable "java/lang/Throwable" 6 ∈ AL := al_t2 44 (by decide +kernel) rfl
theorem q_314 : Cond.native ⟨"java/lang/Throwable", "fillInStackTrace", "(I)Ljava/lang/Throwable;"⟩ ∈ AL := al_t2 45 (by decide +kernel) rfl
theorem q_316 : Cond.methodLink "LentRoom" 51 ⟨"java/lang/IllegalArgumentException", "<init>", "(Ljava/lang/String;)V"⟩ ∈ AL := al_t2 47 (by decide +kernel) rfl
theorem q_317 : Cond.instanceMethod ⟨"java/lang/IllegalArgumentException", "<init>", "(Ljava/lang/String;)V"⟩ ∈ AL := al_t2 48 (by decide +kernel) rfl
set_option maxRecDepth 100000 in
theorem q_318 : Cond.code ⟨"java/lang/IllegalArgumentException", "<init>", "(Ljava/lang/String;)V"⟩ prog_8_method_2_code 2 (Option.none : Option Jvm.ClassFile.FieldType) ∈ AL := al_t2 49 rfl rfl
theorem q_319 : Cond.methodLink "java/lang/IllegalArgumentException" 7 ⟨"java/lang/RuntimeException", "<init>", "(Ljava/lang/String;)V"⟩ ∈ AL := al_t2 50 (by decide +kernel) rfl
theorem q_320 : Cond.instanceMethod ⟨"java/lang/RuntimeException", "<init>", "(Ljava/lang/String;)V"⟩ ∈ AL := al_t2 51 (by decide +kernel) rfl
set_option maxRecDepth 100000 in
theorem q_321 : Cond.code ⟨"java/lang/RuntimeException", "<init>", "(Ljava/lang/String;)V"⟩ prog_12_method_2_code 2 (Option.none : Option Jvm.ClassFile.FieldType) ∈ AL := al_t2 52 rfl rfl
theorem q_322 : Cond.methodLink "java/lang/RuntimeException" 7 ⟨"java/lang/Exception", "<init>", "(Ljava/lang/String;)V"⟩ ∈ AL := al_t2 53 (by decide +kernel) rfl
theorem q_323 : Cond.instanceMethod ⟨"java/lang/Exception", "<init>", "(Ljava/lang/String;)V"⟩ ∈ AL := al_t2 54 (by decide +kernel) rfl
set_option maxRecDepth 100000 in
theorem q_324 : Cond.code ⟨"java/lang/Exception", "<init>", "(Ljava/lang/String;)V"⟩ prog_7_method_2_code 2 (Option.none : Option Jvm.ClassFile.FieldType) ∈ AL := al_t2 55 rfl rfl
theorem q_325 : Cond.methodLink "java/lang/Exception" 7 ⟨"java/lang/Throwable", "<init>", "(Ljava/lang/String;)V"⟩ ∈ AL := al_t2 56 (by decide +kernel) rfl
theorem q_326 : Cond.instanceMethod ⟨"java/lang/Throwable", "<init>", "(Ljava/lang/String;)V"⟩ ∈ AL := al_t2 57 (by decide +kernel) rfl
set_option maxRecDepth 100000 in
theorem q_327 : Cond.code ⟨"java/lang/Throwable", "<init>", "(Ljava/lang/String;)V"⟩ prog_17_method_2_code 2 (Option.none : Option Jvm.ClassFile.FieldType) ∈ AL := al_t2 58 rfl rfl
theorem q_329 : Cond.fieldLink "java/lang/Throwable" 31 "java/lang/Throwable" "detailMessage" "Ljava/lang/String;" ∈ AL := al_t2 60 (by decide +kernel) rfl
theorem q_330 : Cond.fieldLink "java/lang/Throwable" 7 "java/lang/Throwable" "cause" "Ljava/lang/Throwable;" ∈ AL := al_t2 61 (by decide +kernel) rfl
theorem q_331 : Cond.fieldLink "java/lang/Throwable" 17 "java/lang/Throwable" "stackTrace" "[Ljava/lang/StackTraceElement;" ∈ AL := al_t2 62 (by decide +kernel) rfl
theorem q_332 : Cond.fieldLink "java/lang/Throwable" 24 "java/lang/Throwable" "suppressedExceptions" "Ljava/util/List;" ∈ AL := al_t2 63 (by decide +kernel) rfl
theorem q_337 : Cond.lays "java/lang/IllegalArgumentException" "java/lang/Throwable" "depth" "I" ∈ AL := al_t2 68 (by decide +kernel) rfl
theorem q_340 : Cond.superclass "java/lang/IllegalArgumentException" "java/lang/RuntimeException" ∈ AL := al_t2 71 (by decide +kernel) rfl
theorem q_341 : Cond.methodLink "LentRoom" 54 yX2_isFull ∈ AL := al_t2 72 (by decide +kernel) rfl
theorem q_342 : Cond.instanceMethod yX2_isFull ∈ AL := al_t2 73 (by decide +kernel) rfl
theorem q_343 : Cond.selects "LentRoom$Text" yX2_isFull yX2_isFull ∈ AL := al_t2 74 (by decide +kernel) rfl
set_option maxRecDepth 100000 in
theorem q_344 : Cond.code yX2_isFull cX2_isFull 1 (Option.some Jvm.ClassFile.FieldType.boolean) ∈ AL := al_t2 75 rfl rfl
theorem q_345 : Cond.classLink "LentRoom" 58 "java/lang/IllegalStateException" ∈ AL := al_t2 76 (by decide +kernel) rfl
theorem q_346 : Cond.instantiable "java/lang/IllegalStateException" 6 ∈ AL := al_t2 77 (by decide +kernel) rfl
theorem q_348 : Cond.selects "java/lang/IllegalStateException" ⟨"java/lang/Throwable", "fillInStackTrace", "(I)Ljava/lang/Throwable;"⟩ ⟨"java/lang/Throwable", "fillInStackTrace", "(I)Ljava/lang/Throwable;"⟩ ∈ AL := al_t2 79 (by decide +kernel) rfl
theorem q_349 : Cond.lays "java/lang/IllegalStateException" "java/lang/Throwable" "cause" "Ljava/lang/Throwable;" ∈ AL := al_t2 80 (by decide +kernel) rfl
theorem q_350 : Cond.lays "java/lang/IllegalStateException" "java/lang/Throwable" "stackTrace" "[Ljava/lang/StackTraceElement;" ∈ AL := al_t2 81 (by decide +kernel) rfl
theorem q_351 : Cond.lays "java/lang/IllegalStateException" "java/lang/Throwable" "suppressedExceptions" "Ljava/util/List;" ∈ AL := al_t2 82 (by decide +kernel) rfl
theorem q_352 : Cond.lays "java/lang/IllegalStateException" "java/lang/Throwable" "detailMessage" "Ljava/lang/String;" ∈ AL := al_t2 83 (by decide +kernel) rfl
theorem q_353 : Cond.lays "java/lang/IllegalStateException" "java/lang/Throwable" "backtrace" "Ljava/lang/Object;" ∈ AL := al_t2 84 (by decide +kernel) rfl
theorem q_355 : Cond.methodLink "LentRoom" 62 ⟨"java/lang/IllegalStateException", "<init>", "(Ljava/lang/String;)V"⟩ ∈ AL := al_t2 86 (by decide +kernel) rfl
theorem q_356 : Cond.instanceMethod ⟨"java/lang/IllegalStateException", "<init>", "(Ljava/lang/String;)V"⟩ ∈ AL := al_t2 87 (by decide +kernel) rfl
set_option maxRecDepth 100000 in
theorem q_357 : Cond.code ⟨"java/lang/IllegalStateException", "<init>", "(Ljava/lang/String;)V"⟩ prog_9_method_2_code 2 (Option.none : Option Jvm.ClassFile.FieldType) ∈ AL := al_t2 88 rfl rfl
theorem q_358 : Cond.methodLink "java/lang/IllegalStateException" 7 ⟨"java/lang/RuntimeException", "<init>", "(Ljava/lang/String;)V"⟩ ∈ AL := al_t2 89 (by decide +kernel) rfl
theorem q_359 : Cond.lays "java/lang/IllegalStateException" "java/lang/Throwable" "depth" "I" ∈ AL := al_t2 90 (by decide +kernel) rfl
theorem q_360 : Cond.superclass "java/lang/IllegalStateException" "java/lang/RuntimeException" ∈ AL := al_t2 91 (by decide +kernel) rfl
theorem q_361 : Cond.methodLink "LentRoom" 63 yX2_add ∈ AL := al_t2 92 (by decide +kernel) rfl
theorem q_362 : Cond.instanceMethod yX2_add ∈ AL := al_t2 93 (by decide +kernel) rfl
theorem q_363 : Cond.selects "LentRoom$Text" yX2_add yX2_add ∈ AL := al_t2 94 (by decide +kernel) rfl
set_option maxRecDepth 100000 in
theorem q_364 : Cond.code yX2_add cX2_add 2 (Option.some Jvm.ClassFile.FieldType.int) ∈ AL := al_t2 95 rfl rfl
theorem q_365 : Cond.methodLink "LentRoom$Text" 19 yX2_isFull ∈ AL := al_t2 96 (by decide +kernel) rfl
theorem q_366 : Cond.methodLink "LentRoomLaw" 110 yL_load ∈ AL := al_t2 97 (by decide +kernel) rfl
theorem q_367 : Cond.static yL_load ∈ AL := al_t2 98 (by decide +kernel) rfl
set_option maxRecDepth 100000 in
theorem q_368 : Cond.codeWith yL_load cL_load 3 (Option.some Jvm.ClassFile.FieldType.int) [((0 : Nat), (8 : Nat), (11 : Nat), (15 : Nat))] ∈ AL := al_t2 99 rfl rfl
theorem q_369 : Cond.methodLink "LentRoomLaw" 17 yX3_load ∈ AL := al_t2 100 (by decide +kernel) rfl
theorem q_370 : Cond.instanceMethod yX3_load ∈ AL := al_t2 101 (by decide +kernel) rfl
theorem q_371 : Cond.selects "LentRoom" yX3_load yX3_load ∈ AL := al_t2 102 (by decide +kernel) rfl
set_option maxRecDepth 100000 in
theorem q_372 : Cond.code yX3_load cX3_load 3 (Option.some Jvm.ClassFile.FieldType.int) ∈ AL := al_t2 103 rfl rfl
theorem q_374 : Cond.methodLink "LentRoom" 76 yX0_become ∈ AL := al_t2 105 (by decide +kernel) rfl
theorem q_375 : Cond.instanceMethod yX0_become ∈ AL := al_t2 106 (by decide +kernel) rfl
theorem q_376 : Cond.selects "LentRoom$Device" yX0_become yX0_become ∈ AL := al_t2 107 (by decide +kernel) rfl
set_option maxRecDepth 100000 in
theorem q_377 : Cond.code yX0_become cX0_become 3 (Option.none : Option Jvm.ClassFile.FieldType) ∈ AL := al_t2 108 rfl rfl
theorem q_378 : Cond.methodLink "LentRoom$Device" 48 yX0_copyRow ∈ AL := al_t2 109 (by decide +kernel) rfl
theorem q_379 : Cond.static yX0_copyRow ∈ AL := al_t2 110 (by decide +kernel) rfl
set_option maxRecDepth 100000 in
theorem q_380 : Cond.code yX0_copyRow cX0_copyRow 2 (Option.none : Option Jvm.ClassFile.FieldType) ∈ AL := al_t2 111 rfl rfl
theorem q_381 : Cond.methodLink "LentRoom$Device" 52 yJ9_min_7cf53 ∈ AL := al_t2 112 (by decide +kernel) rfl
theorem q_382 : Cond.static yJ9_min_7cf53 ∈ AL := al_t2 113 (by decide +kernel) rfl
set_option maxRecDepth 100000 in
theorem q_383 : Cond.code yJ9_min_7cf53 cJ9_min_7cf53 2 (Option.some Jvm.ClassFile.FieldType.int) ∈ AL := al_t2 114 rfl rfl
theorem q_384 : Cond.methodLink "LentRoom$Device" 58 ⟨"java/lang/System", "arraycopy", "(Ljava/lang/Object;ILjava/lang/Object;II)V"⟩ ∈ AL := al_t2 115 (by decide +kernel) rfl
theorem q_385 : Cond.static ⟨"java/lang/System", "arraycopy", "(Ljava/lang/Object;ILjava/lang/Object;II)V"⟩ ∈ AL := al_t2 116 (by decide +kernel) rfl
theorem q_386 : Cond.native ⟨"java/lang/System", "arraycopy", "(Ljava/lang/Object;ILjava/lang/Object;II)V"⟩ ∈ AL := al_t2 117 (by decide +kernel) rfl
theorem q_387 : Cond.methodLink "LentRoom" 80 yX1_forgetAll ∈ AL := al_t2 118 (by decide +kernel) rfl
theorem q_388 : Cond.instanceMethod yX1_forgetAll ∈ AL := al_t2 119 (by decide +kernel) rfl
theorem q_389 : Cond.selects "LentRoom$History" yX1_forgetAll yX1_forgetAll ∈ AL := al_t2 120 (by decide +kernel) rfl
set_option maxRecDepth 100000 in
theorem q_390 : Cond.code yX1_forgetAll cX1_forgetAll 1 (Option.none : Option Jvm.ClassFile.FieldType) ∈ AL := al_t2 121 rfl rfl
theorem q_391 : Cond.methodLink "LentRoom" 87 yX2_isDigit ∈ AL := al_t2 122 (by decide +kernel) rfl
theorem q_392 : Cond.methodLink "LentRoom" 91 yX3_obeyText ∈ AL := al_t2 123 (by decide +kernel) rfl
theorem q_394 : Cond.instanceMethod yX3_obeyText ∈ AL := al_t2 125 (by decide +kernel) rfl
set_option maxRecDepth 100000 in
theorem q_395 : Cond.code yX3_obeyText cX3_obeyText 7 (Option.some Jvm.ClassFile.FieldType.boolean) ∈ AL := al_t2 126 rfl rfl
theorem q_396 : Cond.methodLink "LentRoom" 94 yX2_number ∈ AL := al_t2 127 (by decide +kernel) rfl
theorem q_397 : Cond.methodLink "LentRoom" 98 yX2_sign ∈ AL := al_t2 128 (by decide +kernel) rfl
theorem q_398 : Cond.methodLink "LentRoom" 102 yX0_addSpace ∈ AL := al_t2 129 (by decide +kernel) rfl
theorem q_399 : Cond.instanceMethod yX0_addSpace ∈ AL := al_t2 130 (by decide +kernel) rfl
theorem q_400 : Cond.selects "LentRoom$Device" yX0_addSpace yX0_addSpace ∈ AL := al_t2 131 (by decide +kernel) rfl
set_option maxRecDepth 100000 in
theorem q_401 : Cond.code yX0_addSpace cX0_addSpace 3 (Option.some Jvm.ClassFile.FieldType.int) ∈ AL := al_t2 132 rfl rfl
theorem q_402 : Cond.methodLink "LentRoom$Device" 105 yX0_areBounds ∈ AL := al_t2 133 (by decide +kernel) rfl
theorem q_403 : Cond.instanceMethod yX0_areBounds ∈ AL := al_t2 134 (by decide +kernel) rfl
theorem q_404 : Cond.selects "LentRoom$Device" yX0_areBounds yX0_areBounds ∈ AL := al_t2 135 (by decide +kernel) rfl
set_option maxRecDepth 100000 in
theorem q_405 : Cond.code yX0_areBounds cX0_areBounds 3 (Option.some Jvm.ClassFile.FieldType.boolean) ∈ AL := al_t2 136 rfl rfl
theorem q_406 : Cond.methodLink "LentRoom$Device" 108 yX0_hasRoomForSpace ∈ AL := al_t2 137 (by decide +kernel) rfl
theorem q_407 : Cond.instanceMethod yX0_hasRoomForSpace ∈ AL := al_t2 138 (by decide +kernel) rfl
theorem q_408 : Cond.selects "LentRoom$Device" yX0_hasRoomForSpace yX0_hasRoomForSpace ∈ AL := al_t2 139 (by decide +kernel) rfl
set_option maxRecDepth 100000 in
theorem q_409 : Cond.code yX0_hasRoomForSpace cX0_hasRoomForSpace 2 (Option.some Jvm.ClassFile.FieldType.boolean) ∈ AL := al_t2 140 rfl rfl
theorem q_410 : Cond.methodLink "LentRoom$Device" 90 yX0_freeCommonRoom ∈ AL := al_t2 141 (by decide +kernel) rfl
theorem q_411 : Cond.instanceMethod yX0_freeCommonRoom ∈ AL := al_t2 142 (by decide +kernel) rfl
theorem q_412 : Cond.selects "LentRoom$Device" yX0_freeCommonRoom yX0_freeCommonRoom ∈ AL := al_t2 143 (by decide +kernel) rfl
set_option maxRecDepth 100000 in
theorem q_413 : Cond.code yX0_freeCommonRoom cX0_freeCommonRoom 1 (Option.some Jvm.ClassFile.FieldType.int) ∈ AL := al_t2 144 rfl rfl
theorem q_414 : Cond.methodLink "LentRoom$Device" 72 yX0_sum ∈ AL := al_t2 145 (by decide +kernel) rfl
theorem q_415 : Cond.static yX0_sum ∈ AL := al_t2 146 (by decide +kernel) rfl
set_option maxRecDepth 100000 in
theorem q_416 : Cond.code yX0_sum cX0_sum 6 (Option.some Jvm.ClassFile.FieldType.int) ∈ AL := al_t2 147 rfl rfl
theorem q_417 : Cond.methodLink "LentRoom" 105 yX0_putPage ∈ AL := al_t2 148 (by decide +kernel) rfl
theorem q_418 : Cond.instanceMethod yX0_putPage ∈ AL := al_t2 149 (by decide +kernel) rfl
theorem q_419 : Cond.selects "LentRoom$Device" yX0_putPage yX0_putPage ∈ AL := al_t2 150 (by decide +kernel) rfl
set_option maxRecDepth 100000 in
theorem q_420 : Cond.code yX0_putPage cX0_putPage 4 (Option.some Jvm.ClassFile.FieldType.int) ∈ AL := al_t2 151 rfl rfl
theorem q_421 : Cond.methodLink "LentRoom$Device" 68 yX0_hasPage ∈ AL := al_t2 152 (by decide +kernel) rfl
theorem q_422 : Cond.instanceMethod yX0_hasPage ∈ AL := al_t2 153 (by decide +kernel) rfl
theorem q_423 : Cond.selects "LentRoom$Device" yX0_hasPage yX0_hasPage ∈ AL := al_t2 154 (by decide +kernel) rfl
set_option maxRecDepth 100000 in
theorem q_424 : Cond.code yX0_hasPage cX0_hasPage 3 (Option.some Jvm.ClassFile.FieldType.boolean) ∈ AL := al_t2 155 rfl rfl
theorem q_425 : Cond.methodLink "LentRoom$Device" 64 yX0_hasSpace ∈ AL := al_t2 156 (by decide +kernel) rfl
theorem q_426 : Cond.instanceMethod yX0_hasSpace ∈ AL := al_t2 157 (by decide +kernel) rfl
theorem q_427 : Cond.selects "LentRoom$Device" yX0_hasSpace yX0_hasSpace ∈ AL := al_t2 158 (by decide +kernel) rfl
set_option maxRecDepth 100000 in
theorem q_428 : Cond.code yX0_hasSpace cX0_hasSpace 2 (Option.some Jvm.ClassFile.FieldType.boolean) ∈ AL := al_t2 159 rfl rfl
theorem q_429 : Cond.methodLink "LentRoom$Device" 123 yX0_isWritten ∈ AL := al_t2 160 (by decide +kernel) rfl
theorem q_430 : Cond.instanceMethod yX0_isWritten ∈ AL := al_t2 161 (by decide +kernel) rfl
theorem q_431 : Cond.selects "LentRoom$Device" yX0_isWritten yX0_isWritten ∈ AL := al_t2 162 (by decide +kernel) rfl
set_option maxRecDepth 100000 in
theorem q_432 : Cond.code yX0_isWritten cX0_isWritten 3 (Option.some Jvm.ClassFile.FieldType.boolean) ∈ AL := al_t2 163 rfl rfl
theorem q_433 : Cond.methodLink "LentRoom$Device" 126 yX0_takeBlock ∈ AL := al_t2 164 (by decide +kernel) rfl
theorem q_434 : Cond.instanceMethod yX0_takeBlock ∈ AL := al_t2 165 (by decide +kernel) rfl
theorem q_435 : Cond.selects "LentRoom$Device" yX0_takeBlock yX0_takeBlock ∈ AL := al_t2 166 (by decide +kernel) rfl
set_option maxRecDepth 100000 in
theorem q_436 : Cond.code yX0_takeBlock cX0_takeBlock 3 (Option.some Jvm.ClassFile.FieldType.int) ∈ AL := al_t2 167 rfl rfl
theorem q_437 : Cond.methodLink "LentRoom$Device" 76 yX0_pagesOf ∈ AL := al_t2 168 (by decide +kernel) rfl
theorem q_438 : Cond.instanceMethod yX0_pagesOf ∈ AL := al_t2 169 (by decide +kernel) rfl
theorem q_439 : Cond.selects "LentRoom$Device" yX0_pagesOf yX0_pagesOf ∈ AL := al_t2 170 (by decide +kernel) rfl
set_option maxRecDepth 100000 in
theorem q_440 : Cond.code yX0_pagesOf cX0_pagesOf 2 (Option.some Jvm.ClassFile.FieldType.int) ∈ AL := al_t2 171 rfl rfl
theorem q_441 : Cond.methodLink "LentRoom$Device" 80 yX0_idleOf ∈ AL := al_t2 172 (by decide +kernel) rfl
theorem q_442 : Cond.instanceMethod yX0_idleOf ∈ AL := al_t2 173 (by decide +kernel) rfl
theorem q_443 : Cond.selects "LentRoom$Device" yX0_idleOf yX0_idleOf ∈ AL := al_t2 174 (by decide +kernel) rfl
set_option maxRecDepth 100000 in
theorem q_444 : Cond.code yX0_idleOf cX0_idleOf 4 (Option.some Jvm.ClassFile.FieldType.int) ∈ AL := al_t2 175 rfl rfl
theorem q_445 : Cond.methodLink "LentRoom$Device" 132 yX0_recallLoan ∈ AL := al_t2 176 (by decide +kernel) rfl
theorem q_447 : Cond.instanceMethod yX0_recallLoan ∈ AL := al_t2 178 (by decide +kernel) rfl
set_option maxRecDepth 100000 in
theorem q_448 : Cond.code yX0_recallLoan cX0_recallLoan 4 (Option.none : Option Jvm.ClassFile.FieldType) ∈ AL := al_t2 179 rfl rfl
theorem q_449 : Cond.methodLink "LentRoom$Device" 139 yX0_greatestBorrower ∈ AL := al_t2 180 (by decide +kernel) rfl
theorem q_451 : Cond.instanceMethod yX0_greatestBorrower ∈ AL := al_t2 182 (by decide +kernel) rfl
set_option maxRecDepth 100000 in
theorem q_452 : Cond.code yX0_greatestBorrower cX0_greatestBorrower 4 (Option.some Jvm.ClassFile.FieldType.int) ∈ AL := al_t2 183 rfl rfl
theorem q_453 : Cond.methodLink "LentRoom$Device" 136 yX0_idlestBut ∈ AL := al_t2 184 (by decide +kernel) rfl
theorem q_455 : Cond.instanceMethod yX0_idlestBut ∈ AL := al_t2 186 (by decide +kernel) rfl
set_option maxRecDepth 100000 in
theorem q_456 : Cond.code yX0_idlestBut cX0_idlestBut 7 (Option.some Jvm.ClassFile.FieldType.int) ∈ AL := al_t2 187 rfl rfl
theorem q_457 : Cond.methodLink "LentRoom$Device" 142 yX0_loseOldest ∈ AL := al_t2 188 (by decide +kernel) rfl
theorem q_459 : Cond.instanceMethod yX0_loseOldest ∈ AL := al_t2 190 (by decide +kernel) rfl
set_option maxRecDepth 100000 in
theorem q_460 : Cond.code yX0_loseOldest cX0_loseOldest 3 (Option.none : Option Jvm.ClassFile.FieldType) ∈ AL := al_t2 191 rfl rfl
theorem q_461 : Cond.methodLink "LentRoom$Device" 102 yX0_oldestAfter ∈ AL := al_t2 192 (by decide +kernel) rfl
theorem q_463 : Cond.instanceMethod yX0_oldestAfter ∈ AL := al_t2 194 (by decide +kernel) rfl
set_option maxRecDepth 100000 in
theorem q_464 : Cond.code yX0_oldestAfter cX0_oldestAfter 5 (Option.some Jvm.ClassFile.FieldType.int) ∈ AL := al_t2 195 rfl rfl
theorem q_465 : Cond.methodLink "LentRoom" 108 yX0_dropPage ∈ AL := al_t2 196 (by decide +kernel) rfl
theorem q_466 : Cond.instanceMethod yX0_dropPage ∈ AL := al_t2 197 (by decide +kernel) rfl
theorem q_467 : Cond.selects "LentRoom$Device" yX0_dropPage yX0_dropPage ∈ AL := al_t2 198 (by decide +kernel) rfl
set_option maxRecDepth 100000 in
theorem q_468 : Cond.code yX0_dropPage cX0_dropPage 4 (Option.some Jvm.ClassFile.FieldType.boolean) ∈ AL := al_t2 199 rfl rfl
theorem q_469 : Cond.methodLink "LentRoom$Device" 129 yX0_greatestLender ∈ AL := al_t2 200 (by decide +kernel) rfl
theorem q_471 : Cond.instanceMethod yX0_greatestLender ∈ AL := al_t2 202 (by decide +kernel) rfl
set_option maxRecDepth 100000 in
theorem q_472 : Cond.code yX0_greatestLender cX0_greatestLender 4 (Option.some Jvm.ClassFile.FieldType.int) ∈ AL := al_t2 203 rfl rfl
theorem q_473 : Cond.methodLink "LentRoom" 112 yX0_changeFloor ∈ AL := al_t2 204 (by decide +kernel) rfl
theorem q_474 : Cond.instanceMethod yX0_changeFloor ∈ AL := al_t2 205 (by decide +kernel) rfl
theorem q_475 : Cond.selects "LentRoom$Device" yX0_changeFloor yX0_changeFloor ∈ AL := al_t2 206 (by decide +kernel) rfl
set_option maxRecDepth 100000 in
theorem q_476 : Cond.code yX0_changeFloor cX0_changeFloor 3 (Option.some Jvm.ClassFile.FieldType.boolean) ∈ AL := al_t2 207 rfl rfl
theorem q_477 : Cond.methodLink "LentRoom$Device" 117 yX0_takesFloor ∈ AL := al_t2 208 (by decide +kernel) rfl
theorem q_478 : Cond.instanceMethod yX0_takesFloor ∈ AL := al_t2 209 (by decide +kernel) rfl
theorem q_479 : Cond.selects "LentRoom$Device" yX0_takesFloor yX0_takesFloor ∈ AL := al_t2 210 (by decide +kernel) rfl
set_option maxRecDepth 100000 in
theorem q_480 : Cond.code yX0_takesFloor cX0_takesFloor 3 (Option.some Jvm.ClassFile.FieldType.boolean) ∈ AL := al_t2 211 rfl rfl
theorem q_481 : Cond.methodLink "LentRoom$Device" 111 yX0_smallestFloor ∈ AL := al_t2 212 (by decide +kernel) rfl
theorem q_482 : Cond.instanceMethod yX0_smallestFloor ∈ AL := al_t2 213 (by decide +kernel) rfl
theorem q_483 : Cond.selects "LentRoom$Device" yX0_smallestFloor yX0_smallestFloor ∈ AL := al_t2 214 (by decide +kernel) rfl
set_option maxRecDepth 100000 in
theorem q_484 : Cond.code yX0_smallestFloor cX0_smallestFloor 2 (Option.some Jvm.ClassFile.FieldType.int) ∈ AL := al_t2 215 rfl rfl
theorem q_485 : Cond.methodLink "LentRoom$Device" 114 yX0_greatestFloor ∈ AL := al_t2 216 (by decide +kernel) rfl
theorem q_486 : Cond.instanceMethod yX0_greatestFloor ∈ AL := al_t2 217 (by decide +kernel) rfl
theorem q_487 : Cond.selects "LentRoom$Device" yX0_greatestFloor yX0_greatestFloor ∈ AL := al_t2 218 (by decide +kernel) rfl
set_option maxRecDepth 100000 in
theorem q_488 : Cond.code yX0_greatestFloor cX0_greatestFloor 2 (Option.some Jvm.ClassFile.FieldType.int) ∈ AL := al_t2 219 rfl rfl
theorem q_489 : Cond.methodLink "LentRoomLaw" 114 yL_about ∈ AL := al_t2 220 (by decide +kernel) rfl
theorem q_490 : Cond.static yL_about ∈ AL := al_t2 221 (by decide +kernel) rfl
set_option maxRecDepth 100000 in
theorem q_491 : Cond.codeWith yL_about cL_about 4 (Option.some Jvm.ClassFile.FieldType.int) [((0 : Nat), (9 : Nat), (12 : Nat), (13 : Nat))] ∈ AL := al_t2 222 rfl rfl
theorem q_492 : Cond.methodLink "LentRoomLaw" 21 yX3_about ∈ AL := al_t2 223 (by decide +kernel) rfl
theorem q_493 : Cond.instanceMethod yX3_about ∈ AL := al_t2 224 (by decide +kernel) rfl
theorem q_494 : Cond.selects "LentRoom" yX3_about yX3_about ∈ AL := al_t2 225 (by decide +kernel) rfl
set_option maxRecDepth 100000 in
theorem q_495 : Cond.code yX3_about cX3_about 2 (Option.some Jvm.ClassFile.FieldType.int) ∈ AL := al_t2 226 rfl rfl
theorem q_497 : Cond.methodLink "LentRoom" 117 yX0_numberOfAll ∈ AL := al_t2 228 (by decide +kernel) rfl
theorem q_498 : Cond.instanceMethod yX0_numberOfAll ∈ AL := al_t2 229 (by decide +kernel) rfl
theorem q_499 : Cond.selects "LentRoom$Device" yX0_numberOfAll yX0_numberOfAll ∈ AL := al_t2 230 (by decide +kernel) rfl
set_option maxRecDepth 100000 in
theorem q_500 : Cond.code yX0_numberOfAll cX0_numberOfAll 2 (Option.some Jvm.ClassFile.FieldType.int) ∈ AL := al_t2 231 rfl rfl
theorem q_501 : Cond.methodLink "LentRoom$Device" 83 yX0_pagesOfAll ∈ AL := al_t2 232 (by decide +kernel) rfl
theorem q_502 : Cond.instanceMethod yX0_pagesOfAll ∈ AL := al_t2 233 (by decide +kernel) rfl
theorem q_503 : Cond.selects "LentRoom$Device" yX0_pagesOfAll yX0_pagesOfAll ∈ AL := al_t2 234 (by decide +kernel) rfl
set_option maxRecDepth 100000 in
theorem q_504 : Cond.code yX0_pagesOfAll cX0_pagesOfAll 3 (Option.some Jvm.ClassFile.FieldType.int) ∈ AL := al_t2 235 rfl rfl
theorem q_505 : Cond.methodLink "LentRoom$Device" 87 yX0_commonRoom ∈ AL := al_t2 236 (by decide +kernel) rfl
theorem q_506 : Cond.instanceMethod yX0_commonRoom ∈ AL := al_t2 237 (by decide +kernel) rfl
theorem q_507 : Cond.selects "LentRoom$Device" yX0_commonRoom yX0_commonRoom ∈ AL := al_t2 238 (by decide +kernel) rfl
set_option maxRecDepth 100000 in
theorem q_508 : Cond.code yX0_commonRoom cX0_commonRoom 1 (Option.some Jvm.ClassFile.FieldType.int) ∈ AL := al_t2 239 rfl rfl
theorem q_509 : Cond.methodLink "LentRoom$Device" 93 yX0_loansOfAll ∈ AL := al_t3 0 (by decide +kernel) rfl
theorem q_510 : Cond.instanceMethod yX0_loansOfAll ∈ AL := al_t3 1 (by decide +kernel) rfl
theorem q_511 : Cond.selects "LentRoom$Device" yX0_loansOfAll yX0_loansOfAll ∈ AL := al_t3 2 (by decide +kernel) rfl
set_option maxRecDepth 100000 in
theorem q_512 : Cond.code yX0_loansOfAll cX0_loansOfAll 3 (Option.some Jvm.ClassFile.FieldType.int) ∈ AL := al_t3 3 rfl rfl
theorem q_513 : Cond.methodLink "LentRoom$Device" 96 yX0_lostByAll ∈ AL := al_t3 4 (by decide +kernel) rfl
theorem q_514 : Cond.instanceMethod yX0_lostByAll ∈ AL := al_t3 5 (by decide +kernel) rfl
theorem q_515 : Cond.selects "LentRoom$Device" yX0_lostByAll yX0_lostByAll ∈ AL := al_t3 6 (by decide +kernel) rfl
set_option maxRecDepth 100000 in
theorem q_516 : Cond.code yX0_lostByAll cX0_lostByAll 1 (Option.some Jvm.ClassFile.FieldType.int) ∈ AL := al_t3 7 rfl rfl
theorem q_517 : Cond.methodLink "LentRoomLaw" 117 yL_space ∈ AL := al_t3 8 (by decide +kernel) rfl
theorem q_518 : Cond.static yL_space ∈ AL := al_t3 9 (by decide +kernel) rfl
set_option maxRecDepth 100000 in
theorem q_519 : Cond.codeWith yL_space cL_space 5 (Option.some Jvm.ClassFile.FieldType.int) [((0 : Nat), (10 : Nat), (13 : Nat), (28 : Nat)), ((0 : Nat), (10 : Nat), (17 : Nat), (13 : Nat))] ∈ AL := al_t3 10 rfl rfl
theorem q_520 : Cond.classLink "LentRoomLaw" 28 "java/lang/IndexOutOfBoundsException" ∈ AL := al_t3 11 (by decide +kernel) rfl
theorem q_521 : Cond.methodLink "LentRoomLaw" 24 yX3_space ∈ AL := al_t3 12 (by decide +kernel) rfl
theorem q_522 : Cond.instanceMethod yX3_space ∈ AL := al_t3 13 (by decide +kernel) rfl
theorem q_523 : Cond.selects "LentRoom" yX3_space yX3_space ∈ AL := al_t3 14 (by decide +kernel) rfl
set_option maxRecDepth 100000 in
theorem q_524 : Cond.code yX3_space cX3_space 3 (Option.some Jvm.ClassFile.FieldType.int) ∈ AL := al_t3 15 rfl rfl
theorem q_525 : Cond.methodLink "LentRoom" 121 yX3_needSpace ∈ AL := al_t3 16 (by decide +kernel) rfl
theorem q_527 : Cond.instanceMethod yX3_needSpace ∈ AL := al_t3 18 (by decide +kernel) rfl
set_option maxRecDepth 100000 in
theorem q_528 : Cond.code yX3_needSpace cX3_needSpace 2 (Option.none : Option Jvm.ClassFile.FieldType) ∈ AL := al_t3 19 rfl rfl
theorem q_529 : Cond.methodLink "LentRoom" 239 yX0_hasSpace ∈ AL := al_t3 20 (by decide +kernel) rfl
theorem q_530 : Cond.classLink "LentRoom" 268 "java/lang/IndexOutOfBoundsException" ∈ AL := al_t3 21 (by decide +kernel) rfl
theorem q_531 : Cond.instantiable "java/lang/IndexOutOfBoundsException" 6 ∈ AL := al_t3 22 (by decide +kernel) rfl
theorem q_533 : Cond.selects "java/lang/IndexOutOfBoundsException" ⟨"java/lang/Throwable", "fillInStackTrace", "(I)Ljava/lang/Throwable;"⟩ ⟨"java/lang/Throwable", "fillInStackTrace", "(I)Ljava/lang/Throwable;"⟩ ∈ AL := al_t3 24 (by decide +kernel) rfl
theorem q_534 : Cond.lays "java/lang/IndexOutOfBoundsException" "java/lang/Throwable" "cause" "Ljava/lang/Throwable;" ∈ AL := al_t3 25 (by decide +kernel) rfl
theorem q_535 : Cond.lays "java/lang/IndexOutOfBoundsException" "java/lang/Throwable" "stackTrace" "[Ljava/lang/StackTraceElement;" ∈ AL := al_t3 26 (by decide +kernel) rfl
theorem q_536 : Cond.lays "java/lang/IndexOutOfBoundsException" "java/lang/Throwable" "suppressedExceptions" "Ljava/util/List;" ∈ AL := al_t3 27 (by decide +kernel) rfl
theorem q_537 : Cond.lays "java/lang/IndexOutOfBoundsException" "java/lang/Throwable" "detailMessage" "Ljava/lang/String;" ∈ AL := al_t3 28 (by decide +kernel) rfl
theorem q_538 : Cond.lays "java/lang/IndexOutOfBoundsException" "java/lang/Throwable" "backtrace" "Ljava/lang/Object;" ∈ AL := al_t3 29 (by decide +kernel) rfl
theorem q_540 : Cond.methodLink "LentRoom" 272 ⟨"java/lang/IndexOutOfBoundsException", "<init>", "(Ljava/lang/String;)V"⟩ ∈ AL := al_t3 31 (by decide +kernel) rfl
theorem q_541 : Cond.instanceMethod ⟨"java/lang/IndexOutOfBoundsException", "<init>", "(Ljava/lang/String;)V"⟩ ∈ AL := al_t3 32 (by decide +kernel) rfl
set_option maxRecDepth 100000 in
theorem q_542 : Cond.code ⟨"java/lang/IndexOutOfBoundsException", "<init>", "(Ljava/lang/String;)V"⟩ prog_10_method_2_code 2 (Option.none : Option Jvm.ClassFile.FieldType) ∈ AL := al_t3 33 rfl rfl
theorem q_543 : Cond.methodLink "java/lang/IndexOutOfBoundsException" 7 ⟨"java/lang/RuntimeException", "<init>", "(Ljava/lang/String;)V"⟩ ∈ AL := al_t3 34 (by decide +kernel) rfl
theorem q_544 : Cond.lays "java/lang/IndexOutOfBoundsException" "java/lang/Throwable" "depth" "I" ∈ AL := al_t3 35 (by decide +kernel) rfl
theorem q_545 : Cond.superclass "java/lang/IndexOutOfBoundsException" "java/lang/RuntimeException" ∈ AL := al_t3 36 (by decide +kernel) rfl
theorem q_546 : Cond.methodLink "LentRoom" 125 yX0_sizeOf ∈ AL := al_t3 37 (by decide +kernel) rfl
theorem q_547 : Cond.instanceMethod yX0_sizeOf ∈ AL := al_t3 38 (by decide +kernel) rfl
theorem q_548 : Cond.selects "LentRoom$Device" yX0_sizeOf yX0_sizeOf ∈ AL := al_t3 39 (by decide +kernel) rfl
set_option maxRecDepth 100000 in
theorem q_549 : Cond.code yX0_sizeOf cX0_sizeOf 3 (Option.some Jvm.ClassFile.FieldType.int) ∈ AL := al_t3 40 rfl rfl
theorem q_550 : Cond.methodLink "LentRoom$Device" 99 yX0_lendsOf ∈ AL := al_t3 41 (by decide +kernel) rfl
theorem q_551 : Cond.instanceMethod yX0_lendsOf ∈ AL := al_t3 42 (by decide +kernel) rfl
theorem q_552 : Cond.selects "LentRoom$Device" yX0_lendsOf yX0_lendsOf ∈ AL := al_t3 43 (by decide +kernel) rfl
set_option maxRecDepth 100000 in
theorem q_553 : Cond.code yX0_lendsOf cX0_lendsOf 2 (Option.some Jvm.ClassFile.FieldType.int) ∈ AL := al_t3 44 rfl rfl
theorem q_554 : Cond.methodLink "LentRoom" 128 yX0_countOf ∈ AL := al_t3 45 (by decide +kernel) rfl
theorem q_555 : Cond.instanceMethod yX0_countOf ∈ AL := al_t3 46 (by decide +kernel) rfl
theorem q_556 : Cond.selects "LentRoom$Device" yX0_countOf yX0_countOf ∈ AL := al_t3 47 (by decide +kernel) rfl
set_option maxRecDepth 100000 in
theorem q_557 : Cond.code yX0_countOf cX0_countOf 3 (Option.some Jvm.ClassFile.FieldType.int) ∈ AL := al_t3 48 rfl rfl
theorem q_558 : Cond.methodLink "LentRoomLaw" 121 yL_loans ∈ AL := al_t3 49 (by decide +kernel) rfl
theorem q_559 : Cond.static yL_loans ∈ AL := al_t3 50 (by decide +kernel) rfl
set_option maxRecDepth 100000 in
theorem q_560 : Cond.codeWith yL_loans cL_loans 5 (Option.some Jvm.ClassFile.FieldType.int) [((0 : Nat), (10 : Nat), (13 : Nat), (28 : Nat))] ∈ AL := al_t3 51 rfl rfl
theorem q_561 : Cond.methodLink "LentRoomLaw" 30 yX3_loans ∈ AL := al_t3 52 (by decide +kernel) rfl
theorem q_562 : Cond.instanceMethod yX3_loans ∈ AL := al_t3 53 (by decide +kernel) rfl
theorem q_563 : Cond.selects "LentRoom" yX3_loans yX3_loans ∈ AL := al_t3 54 (by decide +kernel) rfl
set_option maxRecDepth 100000 in
theorem q_564 : Cond.code yX3_loans cX3_loans 3 (Option.some Jvm.ClassFile.FieldType.int) ∈ AL := al_t3 55 rfl rfl
theorem q_565 : Cond.methodLink "LentRoomLaw" 124 yL_time ∈ AL := al_t3 56 (by decide +kernel) rfl
theorem q_566 : Cond.static yL_time ∈ AL := al_t3 57 (by decide +kernel) rfl
set_option maxRecDepth 100000 in
theorem q_567 : Cond.codeWith yL_time cL_time 5 (Option.some Jvm.ClassFile.FieldType.int) [((0 : Nat), (10 : Nat), (13 : Nat), (28 : Nat))] ∈ AL := al_t3 58 rfl rfl
theorem q_568 : Cond.methodLink "LentRoomLaw" 33 yX3_time ∈ AL := al_t3 59 (by decide +kernel) rfl
theorem q_569 : Cond.instanceMethod yX3_time ∈ AL := al_t3 60 (by decide +kernel) rfl
theorem q_570 : Cond.selects "LentRoom" yX3_time yX3_time ∈ AL := al_t3 61 (by decide +kernel) rfl
set_option maxRecDepth 100000 in
theorem q_571 : Cond.code yX3_time cX3_time 3 (Option.some Jvm.ClassFile.FieldType.int) ∈ AL := al_t3 62 rfl rfl
theorem q_572 : Cond.methodLink "LentRoom" 135 yX3_needPage ∈ AL := al_t3 63 (by decide +kernel) rfl
theorem q_574 : Cond.instanceMethod yX3_needPage ∈ AL := al_t3 65 (by decide +kernel) rfl
set_option maxRecDepth 100000 in
theorem q_575 : Cond.code yX3_needPage cX3_needPage 3 (Option.none : Option Jvm.ClassFile.FieldType) ∈ AL := al_t3 66 rfl rfl
theorem q_576 : Cond.methodLink "LentRoom" 273 yX0_hasPage ∈ AL := al_t3 67 (by decide +kernel) rfl
theorem q_578 : Cond.methodLink "LentRoom" 139 yX0_isWritten ∈ AL := al_t3 69 (by decide +kernel) rfl
theorem q_579 : Cond.methodLink "LentRoomLaw" 127 yL_oldest ∈ AL := al_t3 70 (by decide +kernel) rfl
theorem q_580 : Cond.static yL_oldest ∈ AL := al_t3 71 (by decide +kernel) rfl
set_option maxRecDepth 100000 in
theorem q_581 : Cond.codeWith yL_oldest cL_oldest 5 (Option.some Jvm.ClassFile.FieldType.int) [((0 : Nat), (10 : Nat), (13 : Nat), (28 : Nat)), ((0 : Nat), (10 : Nat), (17 : Nat), (13 : Nat))] ∈ AL := al_t3 72 rfl rfl
theorem q_582 : Cond.methodLink "LentRoomLaw" 36 yX3_oldest ∈ AL := al_t3 73 (by decide +kernel) rfl
theorem q_583 : Cond.instanceMethod yX3_oldest ∈ AL := al_t3 74 (by decide +kernel) rfl
theorem q_584 : Cond.selects "LentRoom" yX3_oldest yX3_oldest ∈ AL := al_t3 75 (by decide +kernel) rfl
set_option maxRecDepth 100000 in
theorem q_585 : Cond.code yX3_oldest cX3_oldest 3 (Option.some Jvm.ClassFile.FieldType.int) ∈ AL := al_t3 76 rfl rfl
theorem q_587 : Cond.methodLink "LentRoom" 147 yX0_pageByAge ∈ AL := al_t3 78 (by decide +kernel) rfl
theorem q_588 : Cond.instanceMethod yX0_pageByAge ∈ AL := al_t3 79 (by decide +kernel) rfl
theorem q_589 : Cond.selects "LentRoom$Device" yX0_pageByAge yX0_pageByAge ∈ AL := al_t3 80 (by decide +kernel) rfl
set_option maxRecDepth 100000 in
theorem q_590 : Cond.code yX0_pageByAge cX0_pageByAge 5 (Option.some Jvm.ClassFile.FieldType.int) ∈ AL := al_t3 81 rfl rfl
theorem q_591 : Cond.methodLink "LentRoomLaw" 130 yL_make ∈ AL := al_t3 82 (by decide +kernel) rfl
theorem q_592 : Cond.static yL_make ∈ AL := al_t3 83 (by decide +kernel) rfl
set_option maxRecDepth 100000 in
theorem q_593 : Cond.codeWith yL_make cL_make 5 (Option.some Jvm.ClassFile.FieldType.int) [((0 : Nat), (10 : Nat), (13 : Nat), (13 : Nat)), ((0 : Nat), (10 : Nat), (17 : Nat), (15 : Nat))] ∈ AL := al_t3 84 rfl rfl
theorem q_594 : Cond.methodLink "LentRoomLaw" 39 yX3_make ∈ AL := al_t3 85 (by decide +kernel) rfl
theorem q_595 : Cond.instanceMethod yX3_make ∈ AL := al_t3 86 (by decide +kernel) rfl
theorem q_596 : Cond.selects "LentRoom" yX3_make yX3_make ∈ AL := al_t3 87 (by decide +kernel) rfl
set_option maxRecDepth 100000 in
theorem q_597 : Cond.code yX3_make cX3_make 3 (Option.some Jvm.ClassFile.FieldType.int) ∈ AL := al_t3 88 rfl rfl
theorem q_598 : Cond.methodLink "LentRoom" 150 yX0_areBounds ∈ AL := al_t3 89 (by decide +kernel) rfl
theorem q_600 : Cond.methodLink "LentRoom" 155 yX0_hasRoomForSpace ∈ AL := al_t3 91 (by decide +kernel) rfl
theorem q_602 : Cond.methodLink "LentRoom" 160 yX1_remember ∈ AL := al_t3 93 (by decide +kernel) rfl
theorem q_603 : Cond.instanceMethod yX1_remember ∈ AL := al_t3 94 (by decide +kernel) rfl
theorem q_604 : Cond.selects "LentRoom$History" yX1_remember yX1_remember ∈ AL := al_t3 95 (by decide +kernel) rfl
set_option maxRecDepth 100000 in
theorem q_605 : Cond.code yX1_remember cX1_remember 2 (Option.none : Option Jvm.ClassFile.FieldType) ∈ AL := al_t3 96 rfl rfl
theorem q_606 : Cond.methodLink "LentRoom$History" 25 yX0_become ∈ AL := al_t3 97 (by decide +kernel) rfl
theorem q_607 : Cond.methodLink "LentRoomLaw" 133 yL_write ∈ AL := al_t3 98 (by decide +kernel) rfl
theorem q_608 : Cond.static yL_write ∈ AL := al_t3 99 (by decide +kernel) rfl
set_option maxRecDepth 100000 in
theorem q_609 : Cond.codeWith yL_write cL_write 5 (Option.some Jvm.ClassFile.FieldType.int) [((0 : Nat), (10 : Nat), (13 : Nat), (28 : Nat))] ∈ AL := al_t3 100 rfl rfl
theorem q_610 : Cond.methodLink "LentRoomLaw" 42 yX3_write ∈ AL := al_t3 101 (by decide +kernel) rfl
theorem q_611 : Cond.instanceMethod yX3_write ∈ AL := al_t3 102 (by decide +kernel) rfl
theorem q_612 : Cond.selects "LentRoom" yX3_write yX3_write ∈ AL := al_t3 103 (by decide +kernel) rfl
set_option maxRecDepth 100000 in
theorem q_613 : Cond.code yX3_write cX3_write 3 (Option.some Jvm.ClassFile.FieldType.int) ∈ AL := al_t3 104 rfl rfl
theorem q_614 : Cond.methodLink "LentRoomLaw" 136 yL_trim ∈ AL := al_t3 105 (by decide +kernel) rfl
theorem q_615 : Cond.static yL_trim ∈ AL := al_t3 106 (by decide +kernel) rfl
set_option maxRecDepth 100000 in
theorem q_616 : Cond.codeWith yL_trim cL_trim 5 (Option.some Jvm.ClassFile.FieldType.int) [((0 : Nat), (10 : Nat), (13 : Nat), (28 : Nat)), ((0 : Nat), (10 : Nat), (17 : Nat), (15 : Nat))] ∈ AL := al_t3 107 rfl rfl
theorem q_617 : Cond.methodLink "LentRoomLaw" 45 yX3_trim ∈ AL := al_t3 108 (by decide +kernel) rfl
theorem q_618 : Cond.instanceMethod yX3_trim ∈ AL := al_t3 109 (by decide +kernel) rfl
theorem q_619 : Cond.selects "LentRoom" yX3_trim yX3_trim ∈ AL := al_t3 110 (by decide +kernel) rfl
set_option maxRecDepth 100000 in
theorem q_620 : Cond.code yX3_trim cX3_trim 3 (Option.some Jvm.ClassFile.FieldType.int) ∈ AL := al_t3 111 rfl rfl
theorem q_622 : Cond.methodLink "LentRoom" 165 yX0_pagesOf ∈ AL := al_t3 113 (by decide +kernel) rfl
theorem q_623 : Cond.methodLink "LentRoomLaw" 139 yL_setFloor ∈ AL := al_t3 114 (by decide +kernel) rfl
theorem q_624 : Cond.static yL_setFloor ∈ AL := al_t3 115 (by decide +kernel) rfl
set_option maxRecDepth 100000 in
theorem q_625 : Cond.codeWith yL_setFloor cL_setFloor 5 (Option.some Jvm.ClassFile.FieldType.int) [((0 : Nat), (10 : Nat), (13 : Nat), (28 : Nat)), ((0 : Nat), (10 : Nat), (17 : Nat), (13 : Nat)), ((0 : Nat), (10 : Nat), (21 : Nat), (15 : Nat))] ∈ AL := al_t3 116 rfl rfl
theorem q_626 : Cond.methodLink "LentRoomLaw" 48 yX3_setFloor ∈ AL := al_t3 117 (by decide +kernel) rfl
theorem q_627 : Cond.instanceMethod yX3_setFloor ∈ AL := al_t3 118 (by decide +kernel) rfl
theorem q_628 : Cond.selects "LentRoom" yX3_setFloor yX3_setFloor ∈ AL := al_t3 119 (by decide +kernel) rfl
set_option maxRecDepth 100000 in
theorem q_629 : Cond.code yX3_setFloor cX3_setFloor 4 (Option.some Jvm.ClassFile.FieldType.int) ∈ AL := al_t3 120 rfl rfl
theorem q_631 : Cond.methodLink "LentRoom" 170 yX0_takesFloor ∈ AL := al_t3 122 (by decide +kernel) rfl
theorem q_633 : Cond.methodLink "LentRoomLaw" 142 yL_setCeiling ∈ AL := al_t3 124 (by decide +kernel) rfl
theorem q_634 : Cond.static yL_setCeiling ∈ AL := al_t3 125 (by decide +kernel) rfl
set_option maxRecDepth 100000 in
theorem q_635 : Cond.codeWith yL_setCeiling cL_setCeiling 5 (Option.some Jvm.ClassFile.FieldType.int) [((0 : Nat), (10 : Nat), (13 : Nat), (28 : Nat)), ((0 : Nat), (10 : Nat), (17 : Nat), (13 : Nat))] ∈ AL := al_t3 126 rfl rfl
theorem q_636 : Cond.methodLink "LentRoomLaw" 51 yX3_setCeiling ∈ AL := al_t3 127 (by decide +kernel) rfl
theorem q_637 : Cond.instanceMethod yX3_setCeiling ∈ AL := al_t3 128 (by decide +kernel) rfl
theorem q_638 : Cond.selects "LentRoom" yX3_setCeiling yX3_setCeiling ∈ AL := al_t3 129 (by decide +kernel) rfl
set_option maxRecDepth 100000 in
theorem q_639 : Cond.code yX3_setCeiling cX3_setCeiling 4 (Option.some Jvm.ClassFile.FieldType.int) ∈ AL := al_t3 130 rfl rfl
theorem q_640 : Cond.methodLink "LentRoom" 179 yX0_takesCeiling ∈ AL := al_t3 131 (by decide +kernel) rfl
theorem q_641 : Cond.instanceMethod yX0_takesCeiling ∈ AL := al_t3 132 (by decide +kernel) rfl
theorem q_642 : Cond.selects "LentRoom$Device" yX0_takesCeiling yX0_takesCeiling ∈ AL := al_t3 133 (by decide +kernel) rfl
set_option maxRecDepth 100000 in
theorem q_643 : Cond.code yX0_takesCeiling cX0_takesCeiling 3 (Option.some Jvm.ClassFile.FieldType.boolean) ∈ AL := al_t3 134 rfl rfl
theorem q_645 : Cond.methodLink "LentRoom" 187 yX0_changeCeiling ∈ AL := al_t3 136 (by decide +kernel) rfl
theorem q_646 : Cond.instanceMethod yX0_changeCeiling ∈ AL := al_t3 137 (by decide +kernel) rfl
theorem q_647 : Cond.selects "LentRoom$Device" yX0_changeCeiling yX0_changeCeiling ∈ AL := al_t3 138 (by decide +kernel) rfl
set_option maxRecDepth 100000 in
theorem q_648 : Cond.code yX0_changeCeiling cX0_changeCeiling 3 (Option.some Jvm.ClassFile.FieldType.boolean) ∈ AL := al_t3 139 rfl rfl
theorem q_649 : Cond.methodLink "LentRoom$Device" 120 yX0_takesCeiling ∈ AL := al_t3 140 (by decide +kernel) rfl
theorem q_650 : Cond.methodLink "LentRoomLaw" 145 yL_undo ∈ AL := al_t3 141 (by decide +kernel) rfl
theorem q_651 : Cond.static yL_undo ∈ AL := al_t3 142 (by decide +kernel) rfl
set_option maxRecDepth 100000 in
theorem q_652 : Cond.codeWith yL_undo cL_undo 3 (Option.some Jvm.ClassFile.FieldType.int) [((0 : Nat), (8 : Nat), (11 : Nat), (15 : Nat))] ∈ AL := al_t3 143 rfl rfl
theorem q_653 : Cond.methodLink "LentRoomLaw" 54 yX3_undo ∈ AL := al_t3 144 (by decide +kernel) rfl
theorem q_654 : Cond.instanceMethod yX3_undo ∈ AL := al_t3 145 (by decide +kernel) rfl
theorem q_655 : Cond.selects "LentRoom" yX3_undo yX3_undo ∈ AL := al_t3 146 (by decide +kernel) rfl
set_option maxRecDepth 100000 in
theorem q_656 : Cond.code yX3_undo cX3_undo 1 (Option.some Jvm.ClassFile.FieldType.int) ∈ AL := al_t3 147 rfl rfl
theorem q_657 : Cond.methodLink "LentRoom" 190 yX1_isEmpty ∈ AL := al_t3 148 (by decide +kernel) rfl
theorem q_658 : Cond.instanceMethod yX1_isEmpty ∈ AL := al_t3 149 (by decide +kernel) rfl
theorem q_659 : Cond.selects "LentRoom$History" yX1_isEmpty yX1_isEmpty ∈ AL := al_t3 150 (by decide +kernel) rfl
set_option maxRecDepth 100000 in
theorem q_660 : Cond.code yX1_isEmpty cX1_isEmpty 1 (Option.some Jvm.ClassFile.FieldType.boolean) ∈ AL := al_t3 151 rfl rfl
theorem q_662 : Cond.methodLink "LentRoom" 195 yX1_takeBack ∈ AL := al_t3 153 (by decide +kernel) rfl
theorem q_663 : Cond.instanceMethod yX1_takeBack ∈ AL := al_t3 154 (by decide +kernel) rfl
theorem q_664 : Cond.selects "LentRoom$History" yX1_takeBack yX1_takeBack ∈ AL := al_t3 155 (by decide +kernel) rfl
set_option maxRecDepth 100000 in
theorem q_665 : Cond.code yX1_takeBack cX1_takeBack 2 (Option.some Jvm.ClassFile.FieldType.int) ∈ AL := al_t3 156 rfl rfl
theorem q_666 : Cond.methodLink "LentRoomLaw" 148 yL_would ∈ AL := al_t3 157 (by decide +kernel) rfl
theorem q_667 : Cond.static yL_would ∈ AL := al_t3 158 (by decide +kernel) rfl
set_option maxRecDepth 100000 in
theorem q_668 : Cond.codeWith yL_would cL_would 5 (Option.some Jvm.ClassFile.FieldType.int) [((0 : Nat), (10 : Nat), (13 : Nat), (28 : Nat))] ∈ AL := al_t3 159 rfl rfl
theorem q_669 : Cond.methodLink "LentRoomLaw" 57 yX3_would ∈ AL := al_t3 160 (by decide +kernel) rfl
theorem q_670 : Cond.instanceMethod yX3_would ∈ AL := al_t3 161 (by decide +kernel) rfl
theorem q_671 : Cond.selects "LentRoom" yX3_would yX3_would ∈ AL := al_t3 162 (by decide +kernel) rfl
set_option maxRecDepth 100000 in
theorem q_672 : Cond.code yX3_would cX3_would 3 (Option.some Jvm.ClassFile.FieldType.int) ∈ AL := al_t3 163 rfl rfl
theorem q_673 : Cond.methodLink "LentRoomLaw" 151 yL_room ∈ AL := al_t3 164 (by decide +kernel) rfl
theorem q_674 : Cond.static yL_room ∈ AL := al_t3 165 (by decide +kernel) rfl
set_option maxRecDepth 100000 in
theorem q_675 : Cond.codeWith yL_room cL_room 4 (Option.some Jvm.ClassFile.FieldType.int) [((0 : Nat), (9 : Nat), (12 : Nat), (28 : Nat))] ∈ AL := al_t3 166 rfl rfl
theorem q_676 : Cond.methodLink "LentRoomLaw" 60 yX3_room ∈ AL := al_t3 167 (by decide +kernel) rfl
theorem q_677 : Cond.instanceMethod yX3_room ∈ AL := al_t3 168 (by decide +kernel) rfl
theorem q_678 : Cond.selects "LentRoom" yX3_room yX3_room ∈ AL := al_t3 169 (by decide +kernel) rfl
set_option maxRecDepth 100000 in
theorem q_679 : Cond.code yX3_room cX3_room 2 (Option.some Jvm.ClassFile.FieldType.int) ∈ AL := al_t3 170 rfl rfl
theorem q_680 : Cond.methodLink "LentRoom" 199 yX3_growGuess ∈ AL := al_t3 171 (by decide +kernel) rfl
theorem q_682 : Cond.instanceMethod yX3_growGuess ∈ AL := al_t3 173 (by decide +kernel) rfl
set_option maxRecDepth 100000 in
theorem q_683 : Cond.code yX3_growGuess cX3_growGuess 5 (Option.some Jvm.ClassFile.FieldType.int) ∈ AL := al_t3 174 rfl rfl
theorem q_684 : Cond.methodLink "LentRoom" 208 yX0_takeBlock ∈ AL := al_t3 175 (by decide +kernel) rfl
theorem q_685 : Cond.methodLink "LentRoomLaw" 154 yL_harm ∈ AL := al_t3 176 (by decide +kernel) rfl
theorem q_686 : Cond.static yL_harm ∈ AL := al_t3 177 (by decide +kernel) rfl
set_option maxRecDepth 100000 in
theorem q_687 : Cond.codeWith yL_harm cL_harm 5 (Option.some Jvm.ClassFile.FieldType.int) [((0 : Nat), (10 : Nat), (13 : Nat), (28 : Nat)), ((0 : Nat), (10 : Nat), (17 : Nat), (13 : Nat))] ∈ AL := al_t3 178 rfl rfl
theorem q_688 : Cond.methodLink "LentRoomLaw" 63 yX3_harm ∈ AL := al_t3 179 (by decide +kernel) rfl
theorem q_689 : Cond.instanceMethod yX3_harm ∈ AL := al_t3 180 (by decide +kernel) rfl
theorem q_690 : Cond.selects "LentRoom" yX3_harm yX3_harm ∈ AL := al_t3 181 (by decide +kernel) rfl
set_option maxRecDepth 100000 in
theorem q_691 : Cond.code yX3_harm cX3_harm 3 (Option.some Jvm.ClassFile.FieldType.int) ∈ AL := al_t3 182 rfl rfl
theorem q_693 : Cond.methodLink "LentRoom" 205 yX0_lostByAll ∈ AL := al_t3 184 (by decide +kernel) rfl
theorem q_694 : Cond.methodLink "LentRoomLaw" 157 yL_victim ∈ AL := al_t3 185 (by decide +kernel) rfl
theorem q_695 : Cond.static yL_victim ∈ AL := al_t3 186 (by decide +kernel) rfl
set_option maxRecDepth 100000 in
theorem q_696 : Cond.codeWith yL_victim cL_victim 4 (Option.some Jvm.ClassFile.FieldType.int) [((0 : Nat), (9 : Nat), (12 : Nat), (28 : Nat))] ∈ AL := al_t3 187 rfl rfl
theorem q_697 : Cond.methodLink "LentRoomLaw" 66 yX3_victim ∈ AL := al_t3 188 (by decide +kernel) rfl
theorem q_698 : Cond.instanceMethod yX3_victim ∈ AL := al_t3 189 (by decide +kernel) rfl
theorem q_699 : Cond.selects "LentRoom" yX3_victim yX3_victim ∈ AL := al_t3 190 (by decide +kernel) rfl
set_option maxRecDepth 100000 in
theorem q_700 : Cond.code yX3_victim cX3_victim 4 (Option.some Jvm.ClassFile.FieldType.int) ∈ AL := al_t3 191 rfl rfl
theorem q_701 : Cond.methodLink "LentRoom" 211 yX0_firstLoserSince ∈ AL := al_t3 192 (by decide +kernel) rfl
theorem q_702 : Cond.instanceMethod yX0_firstLoserSince ∈ AL := al_t3 193 (by decide +kernel) rfl
theorem q_703 : Cond.selects "LentRoom$Device" yX0_firstLoserSince yX0_firstLoserSince ∈ AL := al_t3 194 (by decide +kernel) rfl
set_option maxRecDepth 100000 in
theorem q_704 : Cond.code yX0_firstLoserSince cX0_firstLoserSince 3 (Option.some Jvm.ClassFile.FieldType.int) ∈ AL := al_t3 195 rfl rfl
theorem q_705 : Cond.methodLink "LentRoomLaw" 164 yL_mostFloor ∈ AL := al_t3 196 (by decide +kernel) rfl
theorem q_706 : Cond.static yL_mostFloor ∈ AL := al_t3 197 (by decide +kernel) rfl
set_option maxRecDepth 100000 in
theorem q_707 : Cond.codeWith yL_mostFloor cL_mostFloor 4 (Option.some Jvm.ClassFile.FieldType.int) [((0 : Nat), (9 : Nat), (12 : Nat), (28 : Nat))] ∈ AL := al_t3 198 rfl rfl
theorem q_708 : Cond.methodLink "LentRoomLaw" 69 yX3_mostFloor ∈ AL := al_t3 199 (by decide +kernel) rfl
theorem q_709 : Cond.instanceMethod yX3_mostFloor ∈ AL := al_t3 200 (by decide +kernel) rfl
theorem q_710 : Cond.selects "LentRoom" yX3_mostFloor yX3_mostFloor ∈ AL := al_t3 201 (by decide +kernel) rfl
set_option maxRecDepth 100000 in
theorem q_711 : Cond.code yX3_mostFloor cX3_mostFloor 2 (Option.some Jvm.ClassFile.FieldType.int) ∈ AL := al_t3 202 rfl rfl
theorem q_712 : Cond.methodLink "LentRoom" 220 yX0_greatestFloor ∈ AL := al_t3 203 (by decide +kernel) rfl
theorem q_713 : Cond.methodLink "LentRoomLaw" 167 yL_leastFloor ∈ AL := al_t3 204 (by decide +kernel) rfl
theorem q_714 : Cond.static yL_leastFloor ∈ AL := al_t3 205 (by decide +kernel) rfl
set_option maxRecDepth 100000 in
theorem q_715 : Cond.codeWith yL_leastFloor cL_leastFloor 4 (Option.some Jvm.ClassFile.FieldType.int) [((0 : Nat), (9 : Nat), (12 : Nat), (28 : Nat))] ∈ AL := al_t3 206 rfl rfl
theorem q_716 : Cond.methodLink "LentRoomLaw" 72 yX3_leastFloor ∈ AL := al_t3 207 (by decide +kernel) rfl
theorem q_717 : Cond.instanceMethod yX3_leastFloor ∈ AL := al_t3 208 (by decide +kernel) rfl
theorem q_718 : Cond.selects "LentRoom" yX3_leastFloor yX3_leastFloor ∈ AL := al_t3 209 (by decide +kernel) rfl
set_option maxRecDepth 100000 in
theorem q_719 : Cond.code yX3_leastFloor cX3_leastFloor 2 (Option.some Jvm.ClassFile.FieldType.int) ∈ AL := al_t3 210 rfl rfl
theorem q_720 : Cond.methodLink "LentRoom" 223 yX0_smallestFloor ∈ AL := al_t3 211 (by decide +kernel) rfl
theorem q_721 : Cond.methodLink "LentRoomLaw" 172 yL_runScript ∈ AL := al_t3 212 (by decide +kernel) rfl
theorem q_722 : Cond.static yL_runScript ∈ AL := al_t3 213 (by decide +kernel) rfl
set_option maxRecDepth 100000 in
theorem q_723 : Cond.codeWith yL_runScript cL_runScript 6 (Option.some Jvm.ClassFile.FieldType.int) [((0 : Nat), (11 : Nat), (14 : Nat), (13 : Nat))] ∈ AL := al_t3 214 rfl rfl
theorem q_724 : Cond.methodLink "LentRoomLaw" 75 yX3_runScript ∈ AL := al_t3 215 (by decide +kernel) rfl
theorem q_725 : Cond.instanceMethod yX3_runScript ∈ AL := al_t3 216 (by decide +kernel) rfl
theorem q_726 : Cond.selects "LentRoom" yX3_runScript yX3_runScript ∈ AL := al_t3 217 (by decide +kernel) rfl
set_option maxRecDepth 100000 in
theorem q_727 : Cond.code yX3_runScript cX3_runScript 6 (Option.some Jvm.ClassFile.FieldType.int) ∈ AL := al_t3 218 rfl rfl
theorem q_729 : Cond.methodLink "LentRoom" 228 yX3_withoutGroups ∈ AL := al_t3 220 (by decide +kernel) rfl
theorem q_730 : Cond.static yX3_withoutGroups ∈ AL := al_t3 221 (by decide +kernel) rfl
set_option maxRecDepth 100000 in
theorem q_731 : Cond.code yX3_withoutGroups cX3_withoutGroups 6 (Option.some Jvm.ClassFile.FieldType.long) ∈ AL := al_t3 222 rfl rfl
theorem q_732 : Cond.constantLong "LentRoom" 234 (100000) ∈ AL := al_t3 223 (by decide +kernel) rfl
theorem q_734 : Cond.methodLink "LentRoom" 236 yX3_obeyGroup ∈ AL := al_t3 225 (by decide +kernel) rfl
theorem q_736 : Cond.instanceMethod yX3_obeyGroup ∈ AL := al_t3 227 (by decide +kernel) rfl
set_option maxRecDepth 100000 in
theorem q_737 : Cond.code yX3_obeyGroup cX3_obeyGroup 6 (Option.some Jvm.ClassFile.FieldType.boolean) ∈ AL := al_t3 228 rfl rfl
theorem q_738 : Cond.methodLink "LentRoom" 242 yX3_obeyForSpace ∈ AL := al_t3 229 (by decide +kernel) rfl
theorem q_740 : Cond.instanceMethod yX3_obeyForSpace ∈ AL := al_t3 231 (by decide +kernel) rfl
set_option maxRecDepth 100000 in
theorem q_741 : Cond.code yX3_obeyForSpace cX3_obeyForSpace 5 (Option.some Jvm.ClassFile.FieldType.boolean) ∈ AL := al_t3 232 rfl rfl
theorem q_742 : Cond.methodLink "LentRoomLaw" 176 yL_simulate ∈ AL := al_t3 233 (by decide +kernel) rfl
theorem q_743 : Cond.static yL_simulate ∈ AL := al_t3 234 (by decide +kernel) rfl
set_option maxRecDepth 100000 in
theorem q_744 : Cond.codeWith yL_simulate cL_simulate 6 (Option.some Jvm.ClassFile.FieldType.int) [((0 : Nat), (11 : Nat), (14 : Nat), (13 : Nat))] ∈ AL := al_t3 235 rfl rfl
theorem q_745 : Cond.methodLink "LentRoomLaw" 79 yX3_simulate ∈ AL := al_t3 236 (by decide +kernel) rfl
theorem q_746 : Cond.instanceMethod yX3_simulate ∈ AL := al_t3 237 (by decide +kernel) rfl
theorem q_747 : Cond.selects "LentRoom" yX3_simulate yX3_simulate ∈ AL := al_t3 238 (by decide +kernel) rfl
set_option maxRecDepth 100000 in
theorem q_748 : Cond.code yX3_simulate cX3_simulate 7 (Option.some Jvm.ClassFile.FieldType.int) ∈ AL := al_t3 239 rfl rfl
theorem q_750 : Cond.constantLong "LentRoom" 248 (6364136223846793005) ∈ AL := al_t4 1 (by decide +kernel) rfl
theorem q_751 : Cond.constantLong "LentRoom" 250 (1442695040888963407) ∈ AL := al_t4 2 (by decide +kernel) rfl
theorem q_752 : Cond.methodLink "LentRoom" 252 yX3_takeTurn ∈ AL := al_t4 3 (by decide +kernel) rfl
theorem q_754 : Cond.instanceMethod yX3_takeTurn ∈ AL := al_t4 5 (by decide +kernel) rfl
set_option maxRecDepth 100000 in
theorem q_755 : Cond.code yX3_takeTurn cX3_takeTurn 5 (Option.none : Option Jvm.ClassFile.FieldType) ∈ AL := al_t4 6 rfl rfl
theorem q_756 : Cond.methodLink "LentRoom" 258 yJ9_max_7cf53 ∈ AL := al_t4 7 (by decide +kernel) rfl
theorem q_757 : Cond.static yJ9_max_7cf53 ∈ AL := al_t4 8 (by decide +kernel) rfl
set_option maxRecDepth 100000 in
theorem q_758 : Cond.code yJ9_max_7cf53 cJ9_max_7cf53 2 (Option.some Jvm.ClassFile.FieldType.int) ∈ AL := al_t4 9 rfl rfl
theorem q_759 : Cond.methodLink "LentRoom" 255 yX0_pagesOfAll ∈ AL := al_t4 10 (by decide +kernel) rfl
theorem q_760 : Cond.methodLink "LentRoomLaw" 180 yL_save ∈ AL := al_t4 11 (by decide +kernel) rfl
theorem q_761 : Cond.static yL_save ∈ AL := al_t4 12 (by decide +kernel) rfl
set_option maxRecDepth 100000 in
theorem q_762 : Cond.codeWith yL_save cL_save 4 (Option.some Jvm.ClassFile.FieldType.int) [((0 : Nat), (9 : Nat), (12 : Nat), (28 : Nat))] ∈ AL := al_t4 13 rfl rfl
theorem q_763 : Cond.methodLink "LentRoomLaw" 83 yX3_save ∈ AL := al_t4 14 (by decide +kernel) rfl
theorem q_764 : Cond.instanceMethod yX3_save ∈ AL := al_t4 15 (by decide +kernel) rfl
theorem q_765 : Cond.selects "LentRoom" yX3_save yX3_save ∈ AL := al_t4 16 (by decide +kernel) rfl
set_option maxRecDepth 100000 in
theorem q_766 : Cond.code yX3_save cX3_save 2 (Option.some Jvm.ClassFile.FieldType.int) ∈ AL := al_t4 17 rfl rfl
theorem q_767 : Cond.methodLink "LentRoom" 263 yX3_needSlot ∈ AL := al_t4 18 (by decide +kernel) rfl
theorem q_768 : Cond.static yX3_needSlot ∈ AL := al_t4 19 (by decide +kernel) rfl
set_option maxRecDepth 100000 in
theorem q_769 : Cond.code yX3_needSlot cX3_needSlot 1 (Option.none : Option Jvm.ClassFile.FieldType) ∈ AL := al_t4 20 rfl rfl
theorem q_771 : Cond.methodLink "LentRoomLaw" 183 yL_restore ∈ AL := al_t4 22 (by decide +kernel) rfl
theorem q_772 : Cond.static yL_restore ∈ AL := al_t4 23 (by decide +kernel) rfl
set_option maxRecDepth 100000 in
theorem q_773 : Cond.codeWith yL_restore cL_restore 4 (Option.some Jvm.ClassFile.FieldType.int) [((0 : Nat), (9 : Nat), (12 : Nat), (28 : Nat)), ((0 : Nat), (9 : Nat), (15 : Nat), (15 : Nat))] ∈ AL := al_t4 24 rfl rfl
theorem q_774 : Cond.methodLink "LentRoomLaw" 86 yX3_restore ∈ AL := al_t4 25 (by decide +kernel) rfl
theorem q_775 : Cond.instanceMethod yX3_restore ∈ AL := al_t4 26 (by decide +kernel) rfl
theorem q_776 : Cond.selects "LentRoom" yX3_restore yX3_restore ∈ AL := al_t4 27 (by decide +kernel) rfl
set_option maxRecDepth 100000 in
theorem q_777 : Cond.code yX3_restore cX3_restore 2 (Option.some Jvm.ClassFile.FieldType.int) ∈ AL := al_t4 28 rfl rfl
theorem q_779 : Cond.classLink "LentRoomLaw" 90 "LentRoomModel" ∈ AL := al_t4 30 (by decide +kernel) rfl
theorem q_780 : Cond.instantiable "LentRoomModel" 13 ∈ AL := al_t4 31 (by decide +kernel) rfl
theorem q_781 : Cond.methodLink "LentRoomLaw" 92 yX4_init ∈ AL := al_t4 32 (by decide +kernel) rfl
theorem q_782 : Cond.instanceMethod yX4_init ∈ AL := al_t4 33 (by decide +kernel) rfl
set_option maxRecDepth 100000 in
theorem q_783 : Cond.code yX4_init cX4_init 1 (Option.none : Option Jvm.ClassFile.FieldType) ∈ AL := al_t4 34 rfl rfl
theorem q_784 : Cond.methodLink "LentRoomModel" 1 ⟨"java/lang/Object", "<init>", "()V"⟩ ∈ AL := al_t4 35 (by decide +kernel) rfl
theorem q_785 : Cond.fieldLink "LentRoomModel" 36 "LentRoomModel" "refusal" "I" ∈ AL := al_t4 36 (by decide +kernel) rfl
theorem q_786 : Cond.fieldLink "LentRoomModel" 7 "LentRoomModel" "text" "[I" ∈ AL := al_t4 37 (by decide +kernel) rfl
theorem q_787 : Cond.fieldLink "LentRoomModel" 106 "LentRoomModel" "size" "I" ∈ AL := al_t4 38 (by decide +kernel) rfl
theorem q_788 : Cond.fieldLink "LentRoomModel" 13 "LentRoomModel" "now" "[I" ∈ AL := al_t4 39 (by decide +kernel) rfl
theorem q_789 : Cond.fieldLink "LentRoomModel" 16 "LentRoomModel" "trial" "[I" ∈ AL := al_t4 40 (by decide +kernel) rfl
theorem q_790 : Cond.fieldLink "LentRoomModel" 19 "LentRoomModel" "diary" "[I" ∈ AL := al_t4 41 (by decide +kernel) rfl
theorem q_791 : Cond.fieldLink "LentRoomModel" 170 "LentRoomModel" "acts" "I" ∈ AL := al_t4 42 (by decide +kernel) rfl
theorem q_792 : Cond.fieldLink "LentRoomModel" 22 "LentRoomModel" "kept" "[I" ∈ AL := al_t4 43 (by decide +kernel) rfl
theorem q_793 : Cond.fieldLink "LentRoomModel" 25 "LentRoomModel" "isKept" "[Z" ∈ AL := al_t4 44 (by decide +kernel) rfl
theorem q_794 : Cond.fieldLink "LentRoomModel" 29 "LentRoomModel" "loser" "I" ∈ AL := al_t4 45 (by decide +kernel) rfl
theorem q_795 : Cond.fieldLink "LentRoomModel" 113 "LentRoomModel" "spot" "I" ∈ AL := al_t4 46 (by decide +kernel) rfl
theorem q_796 : Cond.fieldLink "LentRoomModel" 118 "LentRoomModel" "out" "I" ∈ AL := al_t4 47 (by decide +kernel) rfl
theorem q_797 : Cond.fieldLink "LentRoomModel" 33 "LentRoomModel" "apart" "[I" ∈ AL := al_t4 48 (by decide +kernel) rfl
theorem q_798 : Cond.lays "LentRoomModel" "LentRoomModel" "refusal" "I" ∈ AL := al_t4 49 (by decide +kernel) rfl
theorem q_800 : Cond.laysFinal "LentRoomModel" "LentRoomModel" "text" "[I" ∈ AL := al_t4 51 (by decide +kernel) rfl
theorem q_802 : Cond.lays "LentRoomModel" "LentRoomModel" "size" "I" ∈ AL := al_t4 53 (by decide +kernel) rfl
theorem q_804 : Cond.laysFinal "LentRoomModel" "LentRoomModel" "now" "[I" ∈ AL := al_t4 55 (by decide +kernel) rfl
theorem q_806 : Cond.laysFinal "LentRoomModel" "LentRoomModel" "trial" "[I" ∈ AL := al_t4 57 (by decide +kernel) rfl
theorem q_808 : Cond.laysFinal "LentRoomModel" "LentRoomModel" "diary" "[I" ∈ AL := al_t4 59 (by decide +kernel) rfl
theorem q_810 : Cond.lays "LentRoomModel" "LentRoomModel" "acts" "I" ∈ AL := al_t4 61 (by decide +kernel) rfl
theorem q_812 : Cond.laysFinal "LentRoomModel" "LentRoomModel" "kept" "[I" ∈ AL := al_t4 63 (by decide +kernel) rfl
theorem q_814 : Cond.laysFinal "LentRoomModel" "LentRoomModel" "isKept" "[Z" ∈ AL := al_t4 65 (by decide +kernel) rfl
theorem q_816 : Cond.lays "LentRoomModel" "LentRoomModel" "loser" "I" ∈ AL := al_t4 67 (by decide +kernel) rfl
theorem q_818 : Cond.lays "LentRoomModel" "LentRoomModel" "spot" "I" ∈ AL := al_t4 69 (by decide +kernel) rfl
theorem q_820 : Cond.lays "LentRoomModel" "LentRoomModel" "out" "I" ∈ AL := al_t4 71 (by decide +kernel) rfl
theorem q_822 : Cond.laysFinal "LentRoomModel" "LentRoomModel" "apart" "[I" ∈ AL := al_t4 73 (by decide +kernel) rfl
theorem q_824 : Cond.superclass "LentRoomModel" "java/lang/Object" ∈ AL := al_t4 75 (by decide +kernel) rfl
theorem q_825 : Cond.methodLink "LentRoomLaw" 99 yX4_thrown ∈ AL := al_t4 76 (by decide +kernel) rfl
theorem q_826 : Cond.instanceMethod yX4_thrown ∈ AL := al_t4 77 (by decide +kernel) rfl
theorem q_827 : Cond.selects "LentRoomModel" yX4_thrown yX4_thrown ∈ AL := al_t4 78 (by decide +kernel) rfl
set_option maxRecDepth 100000 in
theorem q_828 : Cond.code yX4_thrown cX4_thrown 1 (Option.some Jvm.ClassFile.FieldType.int) ∈ AL := al_t4 79 rfl rfl
theorem q_829 : Cond.methodLink "LentRoomLaw" 98 yX4_append ∈ AL := al_t4 80 (by decide +kernel) rfl
theorem q_830 : Cond.instanceMethod yX4_append ∈ AL := al_t4 81 (by decide +kernel) rfl
theorem q_831 : Cond.selects "LentRoomModel" yX4_append yX4_append ∈ AL := al_t4 82 (by decide +kernel) rfl
set_option maxRecDepth 100000 in
theorem q_832 : Cond.code yX4_append cX4_append 2 (Option.some Jvm.ClassFile.FieldType.int) ∈ AL := al_t4 83 rfl rfl
theorem q_833 : Cond.constantLong "LentRoomModel" 104 (255) ∈ AL := al_t4 84 (by decide +kernel) rfl
theorem q_834 : Cond.methodLink "LentRoomModel" 39 yX4_in ∈ AL := al_t4 85 (by decide +kernel) rfl
theorem q_835 : Cond.static yX4_in ∈ AL := al_t4 86 (by decide +kernel) rfl
set_option maxRecDepth 100000 in
theorem q_836 : Cond.code yX4_in cX4_in 6 (Option.some Jvm.ClassFile.FieldType.boolean) ∈ AL := al_t4 87 rfl rfl
theorem q_837 : Cond.methodLink "LentRoomModel" 109 yX4_refused ∈ AL := al_t4 88 (by decide +kernel) rfl
theorem q_839 : Cond.instanceMethod yX4_refused ∈ AL := al_t4 90 (by decide +kernel) rfl
set_option maxRecDepth 100000 in
theorem q_840 : Cond.code yX4_refused cX4_refused 2 (Option.some Jvm.ClassFile.FieldType.boolean) ∈ AL := al_t4 91 rfl rfl
theorem q_841 : Cond.methodLink "LentRoomLaw" 105 yX4_clearText ∈ AL := al_t4 92 (by decide +kernel) rfl
theorem q_842 : Cond.instanceMethod yX4_clearText ∈ AL := al_t4 93 (by decide +kernel) rfl
theorem q_843 : Cond.selects "LentRoomModel" yX4_clearText yX4_clearText ∈ AL := al_t4 94 (by decide +kernel) rfl
set_option maxRecDepth 100000 in
theorem q_844 : Cond.code yX4_clearText cX4_clearText 2 (Option.some Jvm.ClassFile.FieldType.int) ∈ AL := al_t4 95 rfl rfl
theorem q_845 : Cond.methodLink "LentRoomLaw" 109 yX4_errorPosition ∈ AL := al_t4 96 (by decide +kernel) rfl
theorem q_846 : Cond.instanceMethod yX4_errorPosition ∈ AL := al_t4 97 (by decide +kernel) rfl
theorem q_847 : Cond.selects "LentRoomModel" yX4_errorPosition yX4_errorPosition ∈ AL := al_t4 98 (by decide +kernel) rfl
set_option maxRecDepth 100000 in
theorem q_848 : Cond.code yX4_errorPosition cX4_errorPosition 1 (Option.some Jvm.ClassFile.FieldType.int) ∈ AL := al_t4 99 rfl rfl
theorem q_849 : Cond.methodLink "LentRoomModel" 163 yX4_readText ∈ AL := al_t4 100 (by decide +kernel) rfl
theorem q_851 : Cond.instanceMethod yX4_readText ∈ AL := al_t4 102 (by decide +kernel) rfl
set_option maxRecDepth 100000 in
theorem q_852 : Cond.code yX4_readText cX4_readText 3 (Option.some Jvm.ClassFile.FieldType.int) ∈ AL := al_t4 103 rfl rfl
theorem q_853 : Cond.methodLink "LentRoomModel" 159 yX4_readCommand ∈ AL := al_t4 104 (by decide +kernel) rfl
theorem q_855 : Cond.instanceMethod yX4_readCommand ∈ AL := al_t4 106 (by decide +kernel) rfl
set_option maxRecDepth 100000 in
theorem q_856 : Cond.code yX4_readCommand cX4_readCommand 6 (Option.some Jvm.ClassFile.FieldType.boolean) ∈ AL := al_t4 107 rfl rfl
theorem q_857 : Cond.methodLink "LentRoomModel" 131 yX4_figures ∈ AL := al_t4 108 (by decide +kernel) rfl
theorem q_859 : Cond.instanceMethod yX4_figures ∈ AL := al_t4 110 (by decide +kernel) rfl
set_option maxRecDepth 100000 in
theorem q_860 : Cond.code yX4_figures cX4_figures 9 (Option.some Jvm.ClassFile.FieldType.int) ∈ AL := al_t4 111 rfl rfl
theorem q_861 : Cond.constantLong "LentRoomModel" 116 (9) ∈ AL := al_t4 112 (by decide +kernel) rfl
theorem q_862 : Cond.methodLink "LentRoomModel" 135 yX4_whyNotMake ∈ AL := al_t4 113 (by decide +kernel) rfl
theorem q_863 : Cond.static yX4_whyNotMake ∈ AL := al_t4 114 (by decide +kernel) rfl
set_option maxRecDepth 100000 in
theorem q_864 : Cond.code yX4_whyNotMake cX4_whyNotMake 3 (Option.some Jvm.ClassFile.FieldType.int) ∈ AL := al_t4 115 rfl rfl
theorem q_865 : Cond.constantLong "LentRoomModel" 92 (60) ∈ AL := al_t4 116 (by decide +kernel) rfl
theorem q_866 : Cond.methodLink "LentRoomModel" 72 yX4_free ∈ AL := al_t4 117 (by decide +kernel) rfl
theorem q_867 : Cond.static yX4_free ∈ AL := al_t4 118 (by decide +kernel) rfl
set_option maxRecDepth 100000 in
theorem q_868 : Cond.code yX4_free cX4_free 1 (Option.some Jvm.ClassFile.FieldType.int) ∈ AL := al_t4 119 rfl rfl
theorem q_869 : Cond.methodLink "LentRoomModel" 53 yX4_sum ∈ AL := al_t4 120 (by decide +kernel) rfl
theorem q_870 : Cond.static yX4_sum ∈ AL := al_t4 121 (by decide +kernel) rfl
set_option maxRecDepth 100000 in
theorem q_871 : Cond.code yX4_sum cX4_sum 4 (Option.some Jvm.ClassFile.FieldType.int) ∈ AL := al_t4 122 rfl rfl
theorem q_872 : Cond.methodLink "LentRoomModel" 49 yX4_of ∈ AL := al_t4 123 (by decide +kernel) rfl
theorem q_873 : Cond.static yX4_of ∈ AL := al_t4 124 (by decide +kernel) rfl
set_option maxRecDepth 100000 in
theorem q_874 : Cond.code yX4_of cX4_of 3 (Option.some Jvm.ClassFile.FieldType.int) ∈ AL := al_t4 125 rfl rfl
theorem q_875 : Cond.methodLink "LentRoomModel" 45 yX4_at ∈ AL := al_t4 126 (by decide +kernel) rfl
theorem q_876 : Cond.static yX4_at ∈ AL := al_t4 127 (by decide +kernel) rfl
set_option maxRecDepth 100000 in
theorem q_877 : Cond.code yX4_at cX4_at 1 (Option.some Jvm.ClassFile.FieldType.int) ∈ AL := al_t4 128 rfl rfl
theorem q_878 : Cond.methodLink "LentRoomModel" 138 yX4_makeOn ∈ AL := al_t4 129 (by decide +kernel) rfl
theorem q_879 : Cond.static yX4_makeOn ∈ AL := al_t4 130 (by decide +kernel) rfl
set_option maxRecDepth 100000 in
theorem q_880 : Cond.code yX4_makeOn cX4_makeOn 4 (Option.some Jvm.ClassFile.FieldType.int) ∈ AL := al_t4 131 rfl rfl
theorem q_881 : Cond.methodLink "LentRoomModel" 141 yX4_leftOut ∈ AL := al_t4 132 (by decide +kernel) rfl
theorem q_883 : Cond.instanceMethod yX4_leftOut ∈ AL := al_t4 134 (by decide +kernel) rfl
set_option maxRecDepth 100000 in
theorem q_884 : Cond.code yX4_leftOut cX4_leftOut 2 (Option.none : Option Jvm.ClassFile.FieldType) ∈ AL := al_t4 135 rfl rfl
theorem q_885 : Cond.methodLink "LentRoomModel" 94 yX4_isSpace ∈ AL := al_t4 136 (by decide +kernel) rfl
theorem q_886 : Cond.static yX4_isSpace ∈ AL := al_t4 137 (by decide +kernel) rfl
set_option maxRecDepth 100000 in
theorem q_887 : Cond.code yX4_isSpace cX4_isSpace 2 (Option.some Jvm.ClassFile.FieldType.boolean) ∈ AL := al_t4 138 rfl rfl
theorem q_888 : Cond.methodLink "LentRoomModel" 128 yX4_writeOn ∈ AL := al_t4 139 (by decide +kernel) rfl
theorem q_890 : Cond.instanceMethod yX4_writeOn ∈ AL := al_t4 141 (by decide +kernel) rfl
set_option maxRecDepth 100000 in
theorem q_891 : Cond.code yX4_writeOn cX4_writeOn 6 (Option.some Jvm.ClassFile.FieldType.int) ∈ AL := al_t4 142 rfl rfl
theorem q_892 : Cond.methodLink "LentRoomModel" 86 yX4_need ∈ AL := al_t4 143 (by decide +kernel) rfl
theorem q_894 : Cond.instanceMethod yX4_need ∈ AL := al_t4 145 (by decide +kernel) rfl
set_option maxRecDepth 100000 in
theorem q_895 : Cond.code yX4_need cX4_need 5 (Option.some Jvm.ClassFile.FieldType.int) ∈ AL := al_t4 146 rfl rfl
theorem q_896 : Cond.methodLink "LentRoomModel" 79 yX4_taken ∈ AL := al_t4 147 (by decide +kernel) rfl
theorem q_897 : Cond.static yX4_taken ∈ AL := al_t4 148 (by decide +kernel) rfl
set_option maxRecDepth 100000 in
theorem q_898 : Cond.code yX4_taken cX4_taken 2 (Option.some Jvm.ClassFile.FieldType.int) ∈ AL := al_t4 149 rfl rfl
theorem q_899 : Cond.methodLink "LentRoomModel" 57 yX4_borrowed ∈ AL := al_t4 150 (by decide +kernel) rfl
theorem q_900 : Cond.static yX4_borrowed ∈ AL := al_t4 151 (by decide +kernel) rfl
set_option maxRecDepth 100000 in
theorem q_901 : Cond.code yX4_borrowed cX4_borrowed 4 (Option.some Jvm.ClassFile.FieldType.int) ∈ AL := al_t4 152 rfl rfl
theorem q_902 : Cond.methodLink "LentRoomModel" 63 yX4_idle ∈ AL := al_t4 153 (by decide +kernel) rfl
theorem q_903 : Cond.static yX4_idle ∈ AL := al_t4 154 (by decide +kernel) rfl
set_option maxRecDepth 100000 in
theorem q_904 : Cond.code yX4_idle cX4_idle 2 (Option.some Jvm.ClassFile.FieldType.int) ∈ AL := al_t4 155 rfl rfl
theorem q_905 : Cond.methodLink "LentRoomModel" 60 yX4_lends ∈ AL := al_t4 156 (by decide +kernel) rfl
theorem q_906 : Cond.static yX4_lends ∈ AL := al_t4 157 (by decide +kernel) rfl
set_option maxRecDepth 100000 in
theorem q_907 : Cond.code yX4_lends cX4_lends 2 (Option.some Jvm.ClassFile.FieldType.int) ∈ AL := al_t4 158 rfl rfl
theorem q_908 : Cond.methodLink "LentRoomModel" 82 yX4_recall ∈ AL := al_t4 159 (by decide +kernel) rfl
theorem q_910 : Cond.instanceMethod yX4_recall ∈ AL := al_t4 161 (by decide +kernel) rfl
set_option maxRecDepth 100000 in
theorem q_911 : Cond.code yX4_recall cX4_recall 7 (Option.none : Option Jvm.ClassFile.FieldType) ∈ AL := al_t4 162 rfl rfl
theorem q_912 : Cond.methodLink "LentRoomModel" 66 yX4_mostOf ∈ AL := al_t4 163 (by decide +kernel) rfl
theorem q_913 : Cond.static yX4_mostOf ∈ AL := al_t4 164 (by decide +kernel) rfl
set_option maxRecDepth 100000 in
theorem q_914 : Cond.code yX4_mostOf cX4_mostOf 4 (Option.some Jvm.ClassFile.FieldType.int) ∈ AL := al_t4 165 rfl rfl
theorem q_915 : Cond.methodLink "LentRoomModel" 69 yX4_lender ∈ AL := al_t4 166 (by decide +kernel) rfl
theorem q_916 : Cond.static yX4_lender ∈ AL := al_t4 167 (by decide +kernel) rfl
set_option maxRecDepth 100000 in
theorem q_917 : Cond.code yX4_lender cX4_lender 6 (Option.some Jvm.ClassFile.FieldType.int) ∈ AL := al_t4 168 rfl rfl
theorem q_918 : Cond.methodLink "LentRoomModel" 76 yX4_leastPage ∈ AL := al_t4 169 (by decide +kernel) rfl
theorem q_919 : Cond.static yX4_leastPage ∈ AL := al_t4 170 (by decide +kernel) rfl
set_option maxRecDepth 100000 in
theorem q_920 : Cond.code yX4_leastPage cX4_leastPage 5 (Option.some Jvm.ClassFile.FieldType.int) ∈ AL := al_t4 171 rfl rfl
theorem q_921 : Cond.methodLink "LentRoomModel" 145 yX4_canTrim ∈ AL := al_t4 172 (by decide +kernel) rfl
theorem q_922 : Cond.static yX4_canTrim ∈ AL := al_t4 173 (by decide +kernel) rfl
set_option maxRecDepth 100000 in
theorem q_923 : Cond.code yX4_canTrim cX4_canTrim 3 (Option.some Jvm.ClassFile.FieldType.boolean) ∈ AL := al_t4 174 rfl rfl
theorem q_924 : Cond.methodLink "LentRoomModel" 149 yX4_trimOn ∈ AL := al_t4 175 (by decide +kernel) rfl
theorem q_925 : Cond.static yX4_trimOn ∈ AL := al_t4 176 (by decide +kernel) rfl
set_option maxRecDepth 100000 in
theorem q_926 : Cond.code yX4_trimOn cX4_trimOn 4 (Option.some Jvm.ClassFile.FieldType.int) ∈ AL := al_t4 177 rfl rfl
theorem q_927 : Cond.methodLink "LentRoomModel" 89 yX4_mostFrom ∈ AL := al_t4 178 (by decide +kernel) rfl
theorem q_928 : Cond.static yX4_mostFrom ∈ AL := al_t4 179 (by decide +kernel) rfl
set_option maxRecDepth 100000 in
theorem q_929 : Cond.code yX4_mostFrom cX4_mostFrom 4 (Option.some Jvm.ClassFile.FieldType.int) ∈ AL := al_t4 180 rfl rfl
theorem q_930 : Cond.methodLink "LentRoomModel" 152 yX4_doesFloor ∈ AL := al_t4 181 (by decide +kernel) rfl
theorem q_932 : Cond.instanceMethod yX4_doesFloor ∈ AL := al_t4 183 (by decide +kernel) rfl
set_option maxRecDepth 100000 in
theorem q_933 : Cond.code yX4_doesFloor cX4_doesFloor 4 (Option.some Jvm.ClassFile.FieldType.boolean) ∈ AL := al_t4 184 rfl rfl
theorem q_934 : Cond.methodLink "LentRoomModel" 121 yX4_whyNotFloor ∈ AL := al_t4 185 (by decide +kernel) rfl
theorem q_935 : Cond.static yX4_whyNotFloor ∈ AL := al_t4 186 (by decide +kernel) rfl
set_option maxRecDepth 100000 in
theorem q_936 : Cond.code yX4_whyNotFloor cX4_whyNotFloor 3 (Option.some Jvm.ClassFile.FieldType.int) ∈ AL := al_t4 187 rfl rfl
theorem q_937 : Cond.methodLink "LentRoomModel" 98 yX4_least ∈ AL := al_t4 188 (by decide +kernel) rfl
theorem q_938 : Cond.static yX4_least ∈ AL := al_t4 189 (by decide +kernel) rfl
set_option maxRecDepth 100000 in
theorem q_939 : Cond.code yX4_least cX4_least 2 (Option.some Jvm.ClassFile.FieldType.int) ∈ AL := al_t4 190 rfl rfl
theorem q_940 : Cond.methodLink "LentRoomModel" 101 yX4_most ∈ AL := al_t4 191 (by decide +kernel) rfl
theorem q_941 : Cond.static yX4_most ∈ AL := al_t4 192 (by decide +kernel) rfl
set_option maxRecDepth 100000 in
theorem q_942 : Cond.code yX4_most cX4_most 3 (Option.some Jvm.ClassFile.FieldType.int) ∈ AL := al_t4 193 rfl rfl
theorem q_943 : Cond.methodLink "LentRoomModel" 124 yX4_lay ∈ AL := al_t4 194 (by decide +kernel) rfl
theorem q_944 : Cond.static yX4_lay ∈ AL := al_t4 195 (by decide +kernel) rfl
set_option maxRecDepth 100000 in
theorem q_945 : Cond.code yX4_lay cX4_lay 5 (Option.some Jvm.ClassFile.FieldType.int) ∈ AL := al_t4 196 rfl rfl
theorem q_946 : Cond.methodLink "LentRoomModel" 155 yX4_doesWrites ∈ AL := al_t4 197 (by decide +kernel) rfl
theorem q_948 : Cond.instanceMethod yX4_doesWrites ∈ AL := al_t4 199 (by decide +kernel) rfl
set_option maxRecDepth 100000 in
theorem q_949 : Cond.code yX4_doesWrites cX4_doesWrites 6 (Option.some Jvm.ClassFile.FieldType.boolean) ∈ AL := al_t4 200 rfl rfl
theorem q_950 : Cond.methodLink "LentRoomLaw" 113 yX4_load ∈ AL := al_t4 201 (by decide +kernel) rfl
theorem q_951 : Cond.instanceMethod yX4_load ∈ AL := al_t4 202 (by decide +kernel) rfl
theorem q_952 : Cond.selects "LentRoomModel" yX4_load yX4_load ∈ AL := al_t4 203 (by decide +kernel) rfl
set_option maxRecDepth 100000 in
theorem q_953 : Cond.code yX4_load cX4_load 1 (Option.some Jvm.ClassFile.FieldType.int) ∈ AL := al_t4 204 rfl rfl
theorem q_954 : Cond.methodLink "LentRoomModel" 166 yX4_copyState ∈ AL := al_t4 205 (by decide +kernel) rfl
theorem q_955 : Cond.static yX4_copyState ∈ AL := al_t4 206 (by decide +kernel) rfl
set_option maxRecDepth 100000 in
theorem q_956 : Cond.code yX4_copyState cX4_copyState 5 (Option.none : Option Jvm.ClassFile.FieldType) ∈ AL := al_t4 207 rfl rfl
theorem q_957 : Cond.methodLink "LentRoomLaw" 116 yX4_about ∈ AL := al_t4 208 (by decide +kernel) rfl
theorem q_958 : Cond.instanceMethod yX4_about ∈ AL := al_t4 209 (by decide +kernel) rfl
theorem q_959 : Cond.selects "LentRoomModel" yX4_about yX4_about ∈ AL := al_t4 210 (by decide +kernel) rfl
set_option maxRecDepth 100000 in
theorem q_960 : Cond.code yX4_about cX4_about 4 (Option.some Jvm.ClassFile.FieldType.int) ∈ AL := al_t4 211 rfl rfl
theorem q_961 : Cond.constantLong "LentRoomModel" 173 (8) ∈ AL := al_t4 212 (by decide +kernel) rfl
theorem q_962 : Cond.methodLink "LentRoomModel" 175 yX4_written ∈ AL := al_t4 213 (by decide +kernel) rfl
theorem q_963 : Cond.static yX4_written ∈ AL := al_t4 214 (by decide +kernel) rfl
set_option maxRecDepth 100000 in
theorem q_964 : Cond.code yX4_written cX4_written 3 (Option.some Jvm.ClassFile.FieldType.int) ∈ AL := al_t4 215 rfl rfl
theorem q_965 : Cond.methodLink "LentRoomLaw" 120 yX4_space ∈ AL := al_t4 216 (by decide +kernel) rfl
theorem q_966 : Cond.instanceMethod yX4_space ∈ AL := al_t4 217 (by decide +kernel) rfl
theorem q_967 : Cond.selects "LentRoomModel" yX4_space yX4_space ∈ AL := al_t4 218 (by decide +kernel) rfl
set_option maxRecDepth 100000 in
theorem q_968 : Cond.code yX4_space cX4_space 3 (Option.some Jvm.ClassFile.FieldType.int) ∈ AL := al_t4 219 rfl rfl
theorem q_969 : Cond.constantLong "LentRoomModel" 178 (10) ∈ AL := al_t4 220 (by decide +kernel) rfl
theorem q_970 : Cond.methodLink "LentRoomLaw" 123 yX4_loans ∈ AL := al_t4 221 (by decide +kernel) rfl
theorem q_971 : Cond.instanceMethod yX4_loans ∈ AL := al_t4 222 (by decide +kernel) rfl
theorem q_972 : Cond.selects "LentRoomModel" yX4_loans yX4_loans ∈ AL := al_t4 223 (by decide +kernel) rfl
set_option maxRecDepth 100000 in
theorem q_973 : Cond.code yX4_loans cX4_loans 3 (Option.some Jvm.ClassFile.FieldType.int) ∈ AL := al_t4 224 rfl rfl
theorem q_974 : Cond.methodLink "LentRoomLaw" 126 yX4_time ∈ AL := al_t4 225 (by decide +kernel) rfl
theorem q_975 : Cond.instanceMethod yX4_time ∈ AL := al_t4 226 (by decide +kernel) rfl
theorem q_976 : Cond.selects "LentRoomModel" yX4_time yX4_time ∈ AL := al_t4 227 (by decide +kernel) rfl
set_option maxRecDepth 100000 in
theorem q_977 : Cond.code yX4_time cX4_time 4 (Option.some Jvm.ClassFile.FieldType.int) ∈ AL := al_t4 228 rfl rfl
theorem q_978 : Cond.methodLink "LentRoomModel" 180 yX4_isPage ∈ AL := al_t4 229 (by decide +kernel) rfl
theorem q_979 : Cond.static yX4_isPage ∈ AL := al_t4 230 (by decide +kernel) rfl
set_option maxRecDepth 100000 in
theorem q_980 : Cond.code yX4_isPage cX4_isPage 1 (Option.some Jvm.ClassFile.FieldType.boolean) ∈ AL := al_t4 231 rfl rfl
theorem q_981 : Cond.constantLong "LentRoomModel" 43 (39) ∈ AL := al_t4 232 (by decide +kernel) rfl
theorem q_982 : Cond.methodLink "LentRoomLaw" 129 yX4_oldest ∈ AL := al_t4 233 (by decide +kernel) rfl
theorem q_983 : Cond.instanceMethod yX4_oldest ∈ AL := al_t4 234 (by decide +kernel) rfl
theorem q_984 : Cond.selects "LentRoomModel" yX4_oldest yX4_oldest ∈ AL := al_t4 235 (by decide +kernel) rfl
set_option maxRecDepth 100000 in
theorem q_985 : Cond.code yX4_oldest cX4_oldest 7 (Option.some Jvm.ClassFile.FieldType.int) ∈ AL := al_t4 236 rfl rfl
theorem q_986 : Cond.methodLink "LentRoomLaw" 132 yX4_make ∈ AL := al_t4 237 (by decide +kernel) rfl
theorem q_987 : Cond.instanceMethod yX4_make ∈ AL := al_t4 238 (by decide +kernel) rfl
theorem q_988 : Cond.selects "LentRoomModel" yX4_make yX4_make ∈ AL := al_t4 239 (by decide +kernel) rfl
set_option maxRecDepth 100000 in
theorem q_989 : Cond.code yX4_make cX4_make 3 (Option.some Jvm.ClassFile.FieldType.int) ∈ AL := al_t5 0 rfl rfl
theorem q_990 : Cond.methodLink "LentRoomModel" 183 yX4_remember ∈ AL := al_t5 1 (by decide +kernel) rfl
theorem q_992 : Cond.instanceMethod yX4_remember ∈ AL := al_t5 3 (by decide +kernel) rfl
set_option maxRecDepth 100000 in
theorem q_993 : Cond.code yX4_remember cX4_remember 2 (Option.none : Option Jvm.ClassFile.FieldType) ∈ AL := al_t5 4 rfl rfl
theorem q_994 : Cond.methodLink "LentRoomLaw" 135 yX4_write ∈ AL := al_t5 5 (by decide +kernel) rfl
theorem q_995 : Cond.instanceMethod yX4_write ∈ AL := al_t5 6 (by decide +kernel) rfl
theorem q_996 : Cond.selects "LentRoomModel" yX4_write yX4_write ∈ AL := al_t5 7 (by decide +kernel) rfl
set_option maxRecDepth 100000 in
theorem q_997 : Cond.code yX4_write cX4_write 3 (Option.some Jvm.ClassFile.FieldType.int) ∈ AL := al_t5 8 rfl rfl
theorem q_998 : Cond.methodLink "LentRoomLaw" 138 yX4_trim ∈ AL := al_t5 9 (by decide +kernel) rfl
theorem q_999 : Cond.instanceMethod yX4_trim ∈ AL := al_t5 10 (by decide +kernel) rfl
theorem q_1000 : Cond.selects "LentRoomModel" yX4_trim yX4_trim ∈ AL := al_t5 11 (by decide +kernel) rfl
set_option maxRecDepth 100000 in
theorem q_1001 : Cond.code yX4_trim cX4_trim 3 (Option.some Jvm.ClassFile.FieldType.int) ∈ AL := al_t5 12 rfl rfl
theorem q_1002 : Cond.methodLink "LentRoomLaw" 141 yX4_setFloor ∈ AL := al_t5 13 (by decide +kernel) rfl
theorem q_1003 : Cond.instanceMethod yX4_setFloor ∈ AL := al_t5 14 (by decide +kernel) rfl
theorem q_1004 : Cond.selects "LentRoomModel" yX4_setFloor yX4_setFloor ∈ AL := al_t5 15 (by decide +kernel) rfl
set_option maxRecDepth 100000 in
theorem q_1005 : Cond.code yX4_setFloor cX4_setFloor 3 (Option.some Jvm.ClassFile.FieldType.int) ∈ AL := al_t5 16 rfl rfl
theorem q_1006 : Cond.methodLink "LentRoomLaw" 144 yX4_setCeiling ∈ AL := al_t5 17 (by decide +kernel) rfl
theorem q_1007 : Cond.instanceMethod yX4_setCeiling ∈ AL := al_t5 18 (by decide +kernel) rfl
theorem q_1008 : Cond.selects "LentRoomModel" yX4_setCeiling yX4_setCeiling ∈ AL := al_t5 19 (by decide +kernel) rfl
set_option maxRecDepth 100000 in
theorem q_1009 : Cond.code yX4_setCeiling cX4_setCeiling 3 (Option.some Jvm.ClassFile.FieldType.int) ∈ AL := al_t5 20 rfl rfl
theorem q_1010 : Cond.methodLink "LentRoomModel" 186 yX4_whyNotCeiling ∈ AL := al_t5 21 (by decide +kernel) rfl
theorem q_1011 : Cond.static yX4_whyNotCeiling ∈ AL := al_t5 22 (by decide +kernel) rfl
set_option maxRecDepth 100000 in
theorem q_1012 : Cond.code yX4_whyNotCeiling cX4_whyNotCeiling 3 (Option.some Jvm.ClassFile.FieldType.int) ∈ AL := al_t5 23 rfl rfl
theorem q_1013 : Cond.methodLink "LentRoomLaw" 147 yX4_undo ∈ AL := al_t5 24 (by decide +kernel) rfl
theorem q_1014 : Cond.instanceMethod yX4_undo ∈ AL := al_t5 25 (by decide +kernel) rfl
theorem q_1015 : Cond.selects "LentRoomModel" yX4_undo yX4_undo ∈ AL := al_t5 26 (by decide +kernel) rfl
set_option maxRecDepth 100000 in
theorem q_1016 : Cond.code yX4_undo cX4_undo 1 (Option.some Jvm.ClassFile.FieldType.int) ∈ AL := al_t5 27 rfl rfl
theorem q_1017 : Cond.methodLink "LentRoomLaw" 150 yX4_would ∈ AL := al_t5 28 (by decide +kernel) rfl
theorem q_1018 : Cond.instanceMethod yX4_would ∈ AL := al_t5 29 (by decide +kernel) rfl
theorem q_1019 : Cond.selects "LentRoomModel" yX4_would yX4_would ∈ AL := al_t5 30 (by decide +kernel) rfl
set_option maxRecDepth 100000 in
theorem q_1020 : Cond.code yX4_would cX4_would 3 (Option.some Jvm.ClassFile.FieldType.int) ∈ AL := al_t5 31 rfl rfl
theorem q_1021 : Cond.methodLink "LentRoomLaw" 153 yX4_room ∈ AL := al_t5 32 (by decide +kernel) rfl
theorem q_1022 : Cond.instanceMethod yX4_room ∈ AL := al_t5 33 (by decide +kernel) rfl
theorem q_1023 : Cond.selects "LentRoomModel" yX4_room yX4_room ∈ AL := al_t5 34 (by decide +kernel) rfl
set_option maxRecDepth 100000 in
theorem q_1024 : Cond.code yX4_room cX4_room 2 (Option.some Jvm.ClassFile.FieldType.int) ∈ AL := al_t5 35 rfl rfl
theorem q_1025 : Cond.methodLink "LentRoomModel" 189 yX4_go ∈ AL := al_t5 36 (by decide +kernel) rfl
theorem q_1027 : Cond.instanceMethod yX4_go ∈ AL := al_t5 38 (by decide +kernel) rfl
set_option maxRecDepth 100000 in
theorem q_1028 : Cond.code yX4_go cX4_go 5 (Option.some Jvm.ClassFile.FieldType.int) ∈ AL := al_t5 39 rfl rfl
theorem q_1029 : Cond.methodLink "LentRoomLaw" 156 yX4_harm ∈ AL := al_t5 40 (by decide +kernel) rfl
theorem q_1030 : Cond.instanceMethod yX4_harm ∈ AL := al_t5 41 (by decide +kernel) rfl
theorem q_1031 : Cond.selects "LentRoomModel" yX4_harm yX4_harm ∈ AL := al_t5 42 (by decide +kernel) rfl
set_option maxRecDepth 100000 in
theorem q_1032 : Cond.code yX4_harm cX4_harm 3 (Option.some Jvm.ClassFile.FieldType.int) ∈ AL := al_t5 43 rfl rfl
theorem q_1033 : Cond.methodLink "LentRoomLaw" 159 yX4_victim ∈ AL := al_t5 44 (by decide +kernel) rfl
theorem q_1034 : Cond.instanceMethod yX4_victim ∈ AL := al_t5 45 (by decide +kernel) rfl
theorem q_1035 : Cond.selects "LentRoomModel" yX4_victim yX4_victim ∈ AL := al_t5 46 (by decide +kernel) rfl
set_option maxRecDepth 100000 in
theorem q_1036 : Cond.code yX4_victim cX4_victim 2 (Option.some Jvm.ClassFile.FieldType.int) ∈ AL := al_t5 47 rfl rfl
theorem q_1037 : Cond.methodLink "LentRoomLaw" 163 yX4_noisy ∈ AL := al_t5 48 (by decide +kernel) rfl
theorem q_1038 : Cond.instanceMethod yX4_noisy ∈ AL := al_t5 49 (by decide +kernel) rfl
theorem q_1039 : Cond.selects "LentRoomModel" yX4_noisy yX4_noisy ∈ AL := al_t5 50 (by decide +kernel) rfl
set_option maxRecDepth 100000 in
theorem q_1040 : Cond.code yX4_noisy cX4_noisy 5 (Option.some Jvm.ClassFile.FieldType.int) ∈ AL := al_t5 51 rfl rfl
theorem q_1041 : Cond.methodLink "LentRoomLaw" 166 yX4_mostFloor ∈ AL := al_t5 52 (by decide +kernel) rfl
theorem q_1042 : Cond.instanceMethod yX4_mostFloor ∈ AL := al_t5 53 (by decide +kernel) rfl
theorem q_1043 : Cond.selects "LentRoomModel" yX4_mostFloor yX4_mostFloor ∈ AL := al_t5 54 (by decide +kernel) rfl
set_option maxRecDepth 100000 in
theorem q_1044 : Cond.code yX4_mostFloor cX4_mostFloor 2 (Option.some Jvm.ClassFile.FieldType.int) ∈ AL := al_t5 55 rfl rfl
theorem q_1045 : Cond.methodLink "LentRoomLaw" 169 yX4_leastFloor ∈ AL := al_t5 56 (by decide +kernel) rfl
theorem q_1046 : Cond.instanceMethod yX4_leastFloor ∈ AL := al_t5 57 (by decide +kernel) rfl
theorem q_1047 : Cond.selects "LentRoomModel" yX4_leastFloor yX4_leastFloor ∈ AL := al_t5 58 (by decide +kernel) rfl
set_option maxRecDepth 100000 in
theorem q_1048 : Cond.code yX4_leastFloor cX4_leastFloor 2 (Option.some Jvm.ClassFile.FieldType.int) ∈ AL := al_t5 59 rfl rfl
theorem q_1049 : Cond.methodLink "LentRoomLaw" 175 yX4_runScript ∈ AL := al_t5 60 (by decide +kernel) rfl
theorem q_1050 : Cond.instanceMethod yX4_runScript ∈ AL := al_t5 61 (by decide +kernel) rfl
theorem q_1051 : Cond.selects "LentRoomModel" yX4_runScript yX4_runScript ∈ AL := al_t5 62 (by decide +kernel) rfl
set_option maxRecDepth 100000 in
theorem q_1052 : Cond.code yX4_runScript cX4_runScript 8 (Option.some Jvm.ClassFile.FieldType.int) ∈ AL := al_t5 63 rfl rfl
theorem q_1053 : Cond.constantLong "LentRoomModel" 192 (100000) ∈ AL := al_t5 64 (by decide +kernel) rfl
theorem q_1054 : Cond.constantLong "LentRoomModel" 194 (3) ∈ AL := al_t5 65 (by decide +kernel) rfl
theorem q_1055 : Cond.methodLink "LentRoomModel" 196 yX4_command ∈ AL := al_t5 66 (by decide +kernel) rfl
theorem q_1057 : Cond.instanceMethod yX4_command ∈ AL := al_t5 68 (by decide +kernel) rfl
set_option maxRecDepth 100000 in
theorem q_1058 : Cond.code yX4_command cX4_command 6 (Option.some Jvm.ClassFile.FieldType.boolean) ∈ AL := al_t5 69 rfl rfl
theorem q_1059 : Cond.methodLink "LentRoomLaw" 179 yX4_simulate ∈ AL := al_t5 70 (by decide +kernel) rfl
theorem q_1060 : Cond.instanceMethod yX4_simulate ∈ AL := al_t5 71 (by decide +kernel) rfl
theorem q_1061 : Cond.selects "LentRoomModel" yX4_simulate yX4_simulate ∈ AL := al_t5 72 (by decide +kernel) rfl
set_option maxRecDepth 100000 in
theorem q_1062 : Cond.code yX4_simulate cX4_simulate 7 (Option.some Jvm.ClassFile.FieldType.int) ∈ AL := al_t5 73 rfl rfl
theorem q_1063 : Cond.constantLong "LentRoomModel" 200 (99) ∈ AL := al_t5 74 (by decide +kernel) rfl
theorem q_1064 : Cond.constantLong "LentRoomModel" 202 (6364136223846793005) ∈ AL := al_t5 75 (by decide +kernel) rfl
theorem q_1065 : Cond.constantLong "LentRoomModel" 204 (1442695040888963407) ∈ AL := al_t5 76 (by decide +kernel) rfl
theorem q_1066 : Cond.methodLink "LentRoomModel" 206 yX4_turn ∈ AL := al_t5 77 (by decide +kernel) rfl
theorem q_1068 : Cond.instanceMethod yX4_turn ∈ AL := al_t5 79 (by decide +kernel) rfl
set_option maxRecDepth 100000 in
theorem q_1069 : Cond.code yX4_turn cX4_turn 5 (Option.none : Option Jvm.ClassFile.FieldType) ∈ AL := al_t5 80 rfl rfl
theorem q_1070 : Cond.methodLink "LentRoomLaw" 182 yX4_save ∈ AL := al_t5 81 (by decide +kernel) rfl
theorem q_1071 : Cond.instanceMethod yX4_save ∈ AL := al_t5 82 (by decide +kernel) rfl
theorem q_1072 : Cond.selects "LentRoomModel" yX4_save yX4_save ∈ AL := al_t5 83 (by decide +kernel) rfl
set_option maxRecDepth 100000 in
theorem q_1073 : Cond.code yX4_save cX4_save 2 (Option.some Jvm.ClassFile.FieldType.int) ∈ AL := al_t5 84 rfl rfl
theorem q_1074 : Cond.methodLink "LentRoomLaw" 185 yX4_restore ∈ AL := al_t5 85 (by decide +kernel) rfl
theorem q_1075 : Cond.instanceMethod yX4_restore ∈ AL := al_t5 86 (by decide +kernel) rfl
theorem q_1076 : Cond.selects "LentRoomModel" yX4_restore yX4_restore ∈ AL := al_t5 87 (by decide +kernel) rfl
set_option maxRecDepth 100000 in
theorem q_1077 : Cond.code yX4_restore cX4_restore 2 (Option.some Jvm.ClassFile.FieldType.int) ∈ AL := al_t5 88 rfl rfl
theorem q_1078 : Cond.constantLong "LentRoomLaw" 170 (4294967295) ∈ AL := al_t5 89 (by decide +kernel) rfl
theorem q_1079 : Cond.arrayClass Jvm.ClassFile.FieldType.long ∈ AL := al_t5 90 (by decide +kernel) rfl
theorem q_1080 : Cond.sameMethod "java/lang/Throwable" "java/lang/Throwable" "fillInStackTrace" "(I)Ljava/lang/Throwable;" ∈ AL := al_t5 91 (by decide +kernel) rfl
theorem q_1081 : Cond.fieldLink "java/lang/String" 9 "java/lang/String" "value" "[B" ∈ AL := al_t5 92 (by decide +kernel) rfl
theorem q_1082 : Cond.fieldLink "java/lang/String" 15 "java/lang/String" "coder" "B" ∈ AL := al_t5 93 (by decide +kernel) rfl
theorem uin0 : ∀ w ∈ u_ws RX0 TX0 11, w ∈ AL := by decide +kernel
theorem uin1 : ∀ w ∈ u_ws RX1 TX1 3, w ∈ AL := by decide +kernel
theorem uin2 : ∀ w ∈ u_ws RX2 TX2 2, w ∈ AL := by decide +kernel
theorem uin3 : ∀ w ∈ u_ws RX3 TX3 8, w ∈ AL := by decide +kernel
theorem uin4 : ∀ w ∈ u_ws RX4 TX4 13, w ∈ AL := by decide +kernel
end
section
theorem dX0_init_0 : decode cX0_init 0 = .ok (.aload_n 0, 1) := by decide +kernel
theorem dX0_init_1 : decode cX0_init 1 = .ok (.invokespecial 3, 3) := by decide +kernel
theorem dX0_init_4 : decode cX0_init 4 = .ok (.aload_n 0, 1) := by decide +kernel
theorem dX0_init_5 : decode cX0_init 5 = .ok (.iconst 5, 1) := by decide +kernel
theorem dX0_init_6 : decode cX0_init 6 = .ok (.newarray .int, 2) := by decide +kernel
theorem dX0_init_8 : decode cX0_init 8 = .ok (.putfield 9, 3) := by decide +kernel
theorem dX0_init_11 : decode cX0_init 11 = .ok (.aload_n 0, 1) := by decide +kernel
theorem dX0_init_12 : decode cX0_init 12 = .ok (.iconst 5, 1) := by decide +kernel
theorem dX0_init_13 : decode cX0_init 13 = .ok (.newarray .int, 2) := by decide +kernel
theorem dX0_init_15 : decode cX0_init 15 = .ok (.putfield 15, 3) := by decide +kernel
theorem dX0_init_18 : decode cX0_init 18 = .ok (.aload_n 0, 1) := by decide +kernel
theorem dX0_init_19 : decode cX0_init 19 = .ok (.iconst 5, 1) := by decide +kernel
theorem dX0_init_20 : decode cX0_init 20 = .ok (.newarray .int, 2) := by decide +kernel
theorem dX0_init_22 : decode cX0_init 22 = .ok (.putfield 18, 3) := by decide +kernel
theorem dX0_init_25 : decode cX0_init 25 = .ok (.aload_n 0, 1) := by decide +kernel
theorem dX0_init_26 : decode cX0_init 26 = .ok (.iconst 5, 1) := by decide +kernel
theorem dX0_init_27 : decode cX0_init 27 = .ok (.newarray .int, 2) := by decide +kernel
theorem dX0_init_29 : decode cX0_init 29 = .ok (.putfield 21, 3) := by decide +kernel
theorem dX0_init_32 : decode cX0_init 32 = .ok (.aload_n 0, 1) := by decide +kernel
theorem dX0_init_33 : decode cX0_init 33 = .ok (.iconst 5, 1) := by decide +kernel
theorem dX0_init_34 : decode cX0_init 34 = .ok (.iconst 5, 1) := by decide +kernel
theorem dX0_init_35 : decode cX0_init 35 = .ok (.multianewarray 24 2, 4) := by decide +kernel
theorem dX0_init_39 : decode cX0_init 39 = .ok (.putfield 26, 3) := by decide +kernel
theorem dX0_init_42 : decode cX0_init 42 = .ok (.aload_n 0, 1) := by decide +kernel
theorem dX0_init_43 : decode cX0_init 43 = .ok (.iconst 5, 1) := by decide +kernel
theorem dX0_init_44 : decode cX0_init 44 = .ok (.bipush 40, 2) := by decide +kernel
theorem dX0_init_46 : decode cX0_init 46 = .ok (.multianewarray 24 2, 4) := by decide +kernel
theorem dX0_init_50 : decode cX0_init 50 = .ok (.putfield 29, 3) := by decide +kernel
theorem dX0_init_53 : decode cX0_init 53 = .ok (.aload_n 0, 1) := by decide +kernel
theorem dX0_init_54 : decode cX0_init 54 = .ok (.iconst 5, 1) := by decide +kernel
theorem dX0_init_55 : decode cX0_init 55 = .ok (.newarray .int, 2) := by decide +kernel
theorem dX0_init_57 : decode cX0_init 57 = .ok (.putfield 32, 3) := by decide +kernel
theorem dX0_init_60 : decode cX0_init 60 = .ok (.aload_n 0, 1) := by decide +kernel
theorem dX0_init_61 : decode cX0_init 61 = .ok (.iconst 5, 1) := by decide +kernel
theorem dX0_init_62 : decode cX0_init 62 = .ok (.newarray .int, 2) := by decide +kernel
theorem dX0_init_64 : decode cX0_init 64 = .ok (.putfield 35, 3) := by decide +kernel
theorem dX0_init_67 : decode cX0_init 67 = .ok (.aload_n 0, 1) := by decide +kernel
theorem dX0_init_68 : decode cX0_init 68 = .ok (.iconst 5, 1) := by decide +kernel
theorem dX0_init_69 : decode cX0_init 69 = .ok (.newarray .int, 2) := by decide +kernel
theorem dX0_init_71 : decode cX0_init 71 = .ok (.putfield 38, 3) := by decide +kernel
theorem dX0_init_74 : decode cX0_init 74 = .ok (.return_, 1) := by decide +kernel
theorem dX0_become_0 : decode cX0_become 0 = .ok (.aload_n 0, 1) := by decide +kernel
theorem dX0_become_1 : decode cX0_become 1 = .ok (.aload_n 1, 1) := by decide +kernel
theorem dX0_become_2 : decode cX0_become 2 = .ok (.getfield 41, 3) := by decide +kernel
theorem dX0_become_5 : decode cX0_become 5 = .ok (.putfield 41, 3) := by decide +kernel
theorem dX0_become_8 : decode cX0_become 8 = .ok (.aload_n 0, 1) := by decide +kernel
theorem dX0_become_9 : decode cX0_become 9 = .ok (.aload_n 1, 1) := by decide +kernel
theorem dX0_become_10 : decode cX0_become 10 = .ok (.getfield 45, 3) := by decide +kernel
theorem dX0_become_13 : decode cX0_become 13 = .ok (.putfield 45, 3) := by decide +kernel
theorem dX0_become_16 : decode cX0_become 16 = .ok (.aload_n 1, 1) := by decide +kernel
theorem dX0_become_17 : decode cX0_become 17 = .ok (.getfield 9, 3) := by decide +kernel
theorem dX0_become_20 : decode cX0_become 20 = .ok (.aload_n 0, 1) := by decide +kernel
theorem dX0_become_21 : decode cX0_become 21 = .ok (.getfield 9, 3) := by decide +kernel
theorem dX0_become_24 : decode cX0_become 24 = .ok (.invokestatic 48, 3) := by decide +kernel
theorem dX0_become_27 : decode cX0_become 27 = .ok (.aload_n 1, 1) := by decide +kernel
theorem dX0_become_28 : decode cX0_become 28 = .ok (.getfield 15, 3) := by decide +kernel
theorem dX0_become_31 : decode cX0_become 31 = .ok (.aload_n 0, 1) := by decide +kernel
theorem dX0_become_32 : decode cX0_become 32 = .ok (.getfield 15, 3) := by decide +kernel
theorem dX0_become_35 : decode cX0_become 35 = .ok (.invokestatic 48, 3) := by decide +kernel
theorem dX0_become_38 : decode cX0_become 38 = .ok (.aload_n 1, 1) := by decide +kernel
theorem dX0_become_39 : decode cX0_become 39 = .ok (.getfield 18, 3) := by decide +kernel
theorem dX0_become_42 : decode cX0_become 42 = .ok (.aload_n 0, 1) := by decide +kernel
theorem dX0_become_43 : decode cX0_become 43 = .ok (.getfield 18, 3) := by decide +kernel
theorem dX0_become_46 : decode cX0_become 46 = .ok (.invokestatic 48, 3) := by decide +kernel
theorem dX0_become_49 : decode cX0_become 49 = .ok (.aload_n 1, 1) := by decide +kernel
theorem dX0_become_50 : decode cX0_become 50 = .ok (.getfield 21, 3) := by decide +kernel
theorem dX0_become_53 : decode cX0_become 53 = .ok (.aload_n 0, 1) := by decide +kernel
theorem dX0_become_54 : decode cX0_become 54 = .ok (.getfield 21, 3) := by decide +kernel
theorem dX0_become_57 : decode cX0_become 57 = .ok (.invokestatic 48, 3) := by decide +kernel
theorem dX0_become_60 : decode cX0_become 60 = .ok (.aload_n 1, 1) := by decide +kernel
theorem dX0_become_61 : decode cX0_become 61 = .ok (.getfield 32, 3) := by decide +kernel
theorem dX0_become_64 : decode cX0_become 64 = .ok (.aload_n 0, 1) := by decide +kernel
theorem dX0_become_65 : decode cX0_become 65 = .ok (.getfield 32, 3) := by decide +kernel
theorem dX0_become_68 : decode cX0_become 68 = .ok (.invokestatic 48, 3) := by decide +kernel
theorem dX0_become_71 : decode cX0_become 71 = .ok (.aload_n 1, 1) := by decide +kernel
theorem dX0_become_72 : decode cX0_become 72 = .ok (.getfield 35, 3) := by decide +kernel
theorem dX0_become_75 : decode cX0_become 75 = .ok (.aload_n 0, 1) := by decide +kernel
theorem dX0_become_76 : decode cX0_become 76 = .ok (.getfield 35, 3) := by decide +kernel
theorem dX0_become_79 : decode cX0_become 79 = .ok (.invokestatic 48, 3) := by decide +kernel
theorem dX0_become_82 : decode cX0_become 82 = .ok (.aload_n 1, 1) := by decide +kernel
theorem dX0_become_83 : decode cX0_become 83 = .ok (.getfield 38, 3) := by decide +kernel
theorem dX0_become_86 : decode cX0_become 86 = .ok (.aload_n 0, 1) := by decide +kernel
theorem dX0_become_87 : decode cX0_become 87 = .ok (.getfield 38, 3) := by decide +kernel
theorem dX0_become_90 : decode cX0_become 90 = .ok (.invokestatic 48, 3) := by decide +kernel
theorem dX0_become_93 : decode cX0_become 93 = .ok (.iconst 0, 1) := by decide +kernel
theorem dX0_become_94 : decode cX0_become 94 = .ok (.istore_n 2, 1) := by decide +kernel
theorem dX0_become_95 : decode cX0_become 95 = .ok (.iload_n 2, 1) := by decide +kernel
theorem dX0_become_96 : decode cX0_become 96 = .ok (.iconst 5, 1) := by decide +kernel
theorem dX0_become_97 : decode cX0_become 97 = .ok (.if_icmp .ge 39, 3) := by decide +kernel
theorem dX0_become_100 : decode cX0_become 100 = .ok (.aload_n 1, 1) := by decide +kernel
theorem dX0_become_101 : decode cX0_become 101 = .ok (.getfield 26, 3) := by decide +kernel
theorem dX0_become_104 : decode cX0_become 104 = .ok (.iload_n 2, 1) := by decide +kernel
theorem dX0_become_105 : decode cX0_become 105 = .ok (.aaload, 1) := by decide +kernel
theorem dX0_become_106 : decode cX0_become 106 = .ok (.aload_n 0, 1) := by decide +kernel
theorem dX0_become_107 : decode cX0_become 107 = .ok (.getfield 26, 3) := by decide +kernel
theorem dX0_become_110 : decode cX0_become 110 = .ok (.iload_n 2, 1) := by decide +kernel
theorem dX0_become_111 : decode cX0_become 111 = .ok (.aaload, 1) := by decide +kernel
theorem dX0_become_112 : decode cX0_become 112 = .ok (.invokestatic 48, 3) := by decide +kernel
theorem dX0_become_115 : decode cX0_become 115 = .ok (.aload_n 1, 1) := by decide +kernel
theorem dX0_become_116 : decode cX0_become 116 = .ok (.getfield 29, 3) := by decide +kernel
theorem dX0_become_119 : decode cX0_become 119 = .ok (.iload_n 2, 1) := by decide +kernel
theorem dX0_become_120 : decode cX0_become 120 = .ok (.aaload, 1) := by decide +kernel
theorem dX0_become_121 : decode cX0_become 121 = .ok (.aload_n 0, 1) := by decide +kernel
theorem dX0_become_122 : decode cX0_become 122 = .ok (.getfield 29, 3) := by decide +kernel
theorem dX0_become_125 : decode cX0_become 125 = .ok (.iload_n 2, 1) := by decide +kernel
theorem dX0_become_126 : decode cX0_become 126 = .ok (.aaload, 1) := by decide +kernel
theorem dX0_become_127 : decode cX0_become 127 = .ok (.invokestatic 48, 3) := by decide +kernel
theorem dX0_become_130 : decode cX0_become 130 = .ok (.iinc 2 1, 3) := by decide +kernel
theorem dX0_become_133 : decode cX0_become 133 = .ok (.goto (-38), 3) := by decide +kernel
theorem dX0_become_136 : decode cX0_become 136 = .ok (.return_, 1) := by decide +kernel
theorem dX0_copyRow_0 : decode cX0_copyRow 0 = .ok (.aload_n 0, 1) := by decide +kernel
theorem dX0_copyRow_1 : decode cX0_copyRow 1 = .ok (.iconst 0, 1) := by decide +kernel
theorem dX0_copyRow_2 : decode cX0_copyRow 2 = .ok (.aload_n 1, 1) := by decide +kernel
theorem dX0_copyRow_3 : decode cX0_copyRow 3 = .ok (.iconst 0, 1) := by decide +kernel
theorem dX0_copyRow_4 : decode cX0_copyRow 4 = .ok (.aload_n 0, 1) := by decide +kernel
theorem dX0_copyRow_5 : decode cX0_copyRow 5 = .ok (.arraylength, 1) := by decide +kernel
theorem dX0_copyRow_6 : decode cX0_copyRow 6 = .ok (.aload_n 1, 1) := by decide +kernel
theorem dX0_copyRow_7 : decode cX0_copyRow 7 = .ok (.arraylength, 1) := by decide +kernel
theorem dX0_copyRow_8 : decode cX0_copyRow 8 = .ok (.invokestatic 52, 3) := by decide +kernel
theorem dX0_copyRow_11 : decode cX0_copyRow 11 = .ok (.invokestatic 58, 3) := by decide +kernel
theorem dX0_copyRow_14 : decode cX0_copyRow 14 = .ok (.return_, 1) := by decide +kernel
theorem dX0_sum_0 : decode cX0_sum 0 = .ok (.iconst 0, 1) := by decide +kernel
theorem dX0_sum_1 : decode cX0_sum 1 = .ok (.istore_n 1, 1) := by decide +kernel
theorem dX0_sum_2 : decode cX0_sum 2 = .ok (.aload_n 0, 1) := by decide +kernel
theorem dX0_sum_3 : decode cX0_sum 3 = .ok (.astore_n 2, 1) := by decide +kernel
theorem dX0_sum_4 : decode cX0_sum 4 = .ok (.aload_n 2, 1) := by decide +kernel
theorem dX0_sum_5 : decode cX0_sum 5 = .ok (.arraylength, 1) := by decide +kernel
theorem dX0_sum_6 : decode cX0_sum 6 = .ok (.istore_n 3, 1) := by decide +kernel
theorem dX0_sum_7 : decode cX0_sum 7 = .ok (.iconst 0, 1) := by decide +kernel
theorem dX0_sum_8 : decode cX0_sum 8 = .ok (.istore 4, 2) := by decide +kernel
theorem dX0_sum_10 : decode cX0_sum 10 = .ok (.iload 4, 2) := by decide +kernel
theorem dX0_sum_12 : decode cX0_sum 12 = .ok (.iload_n 3, 1) := by decide +kernel
theorem dX0_sum_13 : decode cX0_sum 13 = .ok (.if_icmp .ge 20, 3) := by decide +kernel
theorem dX0_sum_16 : decode cX0_sum 16 = .ok (.aload_n 2, 1) := by decide +kernel
theorem dX0_sum_17 : decode cX0_sum 17 = .ok (.iload 4, 2) := by decide +kernel
theorem dX0_sum_19 : decode cX0_sum 19 = .ok (.iaload, 1) := by decide +kernel
theorem dX0_sum_20 : decode cX0_sum 20 = .ok (.istore 5, 2) := by decide +kernel
theorem dX0_sum_22 : decode cX0_sum 22 = .ok (.iload_n 1, 1) := by decide +kernel
theorem dX0_sum_23 : decode cX0_sum 23 = .ok (.iload 5, 2) := by decide +kernel
theorem dX0_sum_25 : decode cX0_sum 25 = .ok (.iadd, 1) := by decide +kernel
theorem dX0_sum_26 : decode cX0_sum 26 = .ok (.istore_n 1, 1) := by decide +kernel
theorem dX0_sum_27 : decode cX0_sum 27 = .ok (.iinc 4 1, 3) := by decide +kernel
theorem dX0_sum_30 : decode cX0_sum 30 = .ok (.goto (-20), 3) := by decide +kernel
theorem dX0_sum_33 : decode cX0_sum 33 = .ok (.iload_n 1, 1) := by decide +kernel
theorem dX0_sum_34 : decode cX0_sum 34 = .ok (.ireturn, 1) := by decide +kernel
theorem dX0_hasSpace_0 : decode cX0_hasSpace 0 = .ok (.iload_n 1, 1) := by decide +kernel
theorem dX0_hasSpace_1 : decode cX0_hasSpace 1 = .ok (.ifCond .lt 15, 3) := by decide +kernel
theorem dX0_hasSpace_4 : decode cX0_hasSpace 4 = .ok (.iload_n 1, 1) := by decide +kernel
theorem dX0_hasSpace_5 : decode cX0_hasSpace 5 = .ok (.aload_n 0, 1) := by decide +kernel
theorem dX0_hasSpace_6 : decode cX0_hasSpace 6 = .ok (.getfield 41, 3) := by decide +kernel
theorem dX0_hasSpace_9 : decode cX0_hasSpace 9 = .ok (.if_icmp .ge 7, 3) := by decide +kernel
theorem dX0_hasSpace_12 : decode cX0_hasSpace 12 = .ok (.iconst 1, 1) := by decide +kernel
theorem dX0_hasSpace_13 : decode cX0_hasSpace 13 = .ok (.goto 4, 3) := by decide +kernel
theorem dX0_hasSpace_16 : decode cX0_hasSpace 16 = .ok (.iconst 0, 1) := by decide +kernel
theorem dX0_hasSpace_17 : decode cX0_hasSpace 17 = .ok (.ireturn, 1) := by decide +kernel
theorem dX0_hasPage_0 : decode cX0_hasPage 0 = .ok (.aload_n 0, 1) := by decide +kernel
theorem dX0_hasPage_1 : decode cX0_hasPage 1 = .ok (.iload_n 1, 1) := by decide +kernel
theorem dX0_hasPage_2 : decode cX0_hasPage 2 = .ok (.invokevirtual 64, 3) := by decide +kernel
theorem dX0_hasPage_5 : decode cX0_hasPage 5 = .ok (.ifCond .eq 17, 3) := by decide +kernel
theorem dX0_hasPage_8 : decode cX0_hasPage 8 = .ok (.iload_n 2, 1) := by decide +kernel
theorem dX0_hasPage_9 : decode cX0_hasPage 9 = .ok (.ifCond .lt 13, 3) := by decide +kernel
theorem dX0_hasPage_12 : decode cX0_hasPage 12 = .ok (.iload_n 2, 1) := by decide +kernel
theorem dX0_hasPage_13 : decode cX0_hasPage 13 = .ok (.bipush 40, 2) := by decide +kernel
theorem dX0_hasPage_15 : decode cX0_hasPage 15 = .ok (.if_icmp .ge 7, 3) := by decide +kernel
theorem dX0_hasPage_18 : decode cX0_hasPage 18 = .ok (.iconst 1, 1) := by decide +kernel
theorem dX0_hasPage_19 : decode cX0_hasPage 19 = .ok (.goto 4, 3) := by decide +kernel
theorem dX0_hasPage_22 : decode cX0_hasPage 22 = .ok (.iconst 0, 1) := by decide +kernel
theorem dX0_hasPage_23 : decode cX0_hasPage 23 = .ok (.ireturn, 1) := by decide +kernel
theorem dX0_isWritten_0 : decode cX0_isWritten 0 = .ok (.aload_n 0, 1) := by decide +kernel
theorem dX0_isWritten_1 : decode cX0_isWritten 1 = .ok (.iload_n 1, 1) := by decide +kernel
theorem dX0_isWritten_2 : decode cX0_isWritten 2 = .ok (.iload_n 2, 1) := by decide +kernel
theorem dX0_isWritten_3 : decode cX0_isWritten 3 = .ok (.invokevirtual 68, 3) := by decide +kernel
theorem dX0_isWritten_6 : decode cX0_isWritten 6 = .ok (.ifCond .eq 18, 3) := by decide +kernel
theorem dX0_isWritten_9 : decode cX0_isWritten 9 = .ok (.aload_n 0, 1) := by decide +kernel
theorem dX0_isWritten_10 : decode cX0_isWritten 10 = .ok (.getfield 29, 3) := by decide +kernel
theorem dX0_isWritten_13 : decode cX0_isWritten 13 = .ok (.iload_n 1, 1) := by decide +kernel
theorem dX0_isWritten_14 : decode cX0_isWritten 14 = .ok (.aaload, 1) := by decide +kernel
theorem dX0_isWritten_15 : decode cX0_isWritten 15 = .ok (.iload_n 2, 1) := by decide +kernel
theorem dX0_isWritten_16 : decode cX0_isWritten 16 = .ok (.iaload, 1) := by decide +kernel
theorem dX0_isWritten_17 : decode cX0_isWritten 17 = .ok (.ifCond .le 7, 3) := by decide +kernel
theorem dX0_isWritten_20 : decode cX0_isWritten 20 = .ok (.iconst 1, 1) := by decide +kernel
theorem dX0_isWritten_21 : decode cX0_isWritten 21 = .ok (.goto 4, 3) := by decide +kernel
theorem dX0_isWritten_24 : decode cX0_isWritten 24 = .ok (.iconst 0, 1) := by decide +kernel
theorem dX0_isWritten_25 : decode cX0_isWritten 25 = .ok (.ireturn, 1) := by decide +kernel
theorem dX0_pagesOf_0 : decode cX0_pagesOf 0 = .ok (.aload_n 0, 1) := by decide +kernel
theorem dX0_pagesOf_1 : decode cX0_pagesOf 1 = .ok (.getfield 18, 3) := by decide +kernel
theorem dX0_pagesOf_4 : decode cX0_pagesOf 4 = .ok (.iload_n 1, 1) := by decide +kernel
theorem dX0_pagesOf_5 : decode cX0_pagesOf 5 = .ok (.iaload, 1) := by decide +kernel
theorem dX0_pagesOf_6 : decode cX0_pagesOf 6 = .ok (.aload_n 0, 1) := by decide +kernel
theorem dX0_pagesOf_7 : decode cX0_pagesOf 7 = .ok (.getfield 21, 3) := by decide +kernel
theorem dX0_pagesOf_10 : decode cX0_pagesOf 10 = .ok (.iload_n 1, 1) := by decide +kernel
theorem dX0_pagesOf_11 : decode cX0_pagesOf 11 = .ok (.iaload, 1) := by decide +kernel
theorem dX0_pagesOf_12 : decode cX0_pagesOf 12 = .ok (.iadd, 1) := by decide +kernel
theorem dX0_pagesOf_13 : decode cX0_pagesOf 13 = .ok (.aload_n 0, 1) := by decide +kernel
theorem dX0_pagesOf_14 : decode cX0_pagesOf 14 = .ok (.getfield 26, 3) := by decide +kernel
theorem dX0_pagesOf_17 : decode cX0_pagesOf 17 = .ok (.iload_n 1, 1) := by decide +kernel
theorem dX0_pagesOf_18 : decode cX0_pagesOf 18 = .ok (.aaload, 1) := by decide +kernel
theorem dX0_pagesOf_19 : decode cX0_pagesOf 19 = .ok (.invokestatic 72, 3) := by decide +kernel
theorem dX0_pagesOf_22 : decode cX0_pagesOf 22 = .ok (.iadd, 1) := by decide +kernel
theorem dX0_pagesOf_23 : decode cX0_pagesOf 23 = .ok (.ireturn, 1) := by decide +kernel
theorem dX0_pagesOfAll_0 : decode cX0_pagesOfAll 0 = .ok (.iconst 0, 1) := by decide +kernel
theorem dX0_pagesOfAll_1 : decode cX0_pagesOfAll 1 = .ok (.istore_n 1, 1) := by decide +kernel
theorem dX0_pagesOfAll_2 : decode cX0_pagesOfAll 2 = .ok (.iconst 0, 1) := by decide +kernel
theorem dX0_pagesOfAll_3 : decode cX0_pagesOfAll 3 = .ok (.istore_n 2, 1) := by decide +kernel
theorem dX0_pagesOfAll_4 : decode cX0_pagesOfAll 4 = .ok (.iload_n 2, 1) := by decide +kernel
theorem dX0_pagesOfAll_5 : decode cX0_pagesOfAll 5 = .ok (.aload_n 0, 1) := by decide +kernel
theorem dX0_pagesOfAll_6 : decode cX0_pagesOfAll 6 = .ok (.getfield 41, 3) := by decide +kernel
theorem dX0_pagesOfAll_9 : decode cX0_pagesOfAll 9 = .ok (.if_icmp .ge 17, 3) := by decide +kernel
theorem dX0_pagesOfAll_12 : decode cX0_pagesOfAll 12 = .ok (.iload_n 1, 1) := by decide +kernel
theorem dX0_pagesOfAll_13 : decode cX0_pagesOfAll 13 = .ok (.aload_n 0, 1) := by decide +kernel
theorem dX0_pagesOfAll_14 : decode cX0_pagesOfAll 14 = .ok (.iload_n 2, 1) := by decide +kernel
theorem dX0_pagesOfAll_15 : decode cX0_pagesOfAll 15 = .ok (.invokevirtual 76, 3) := by decide +kernel
theorem dX0_pagesOfAll_18 : decode cX0_pagesOfAll 18 = .ok (.iadd, 1) := by decide +kernel
theorem dX0_pagesOfAll_19 : decode cX0_pagesOfAll 19 = .ok (.istore_n 1, 1) := by decide +kernel
theorem dX0_pagesOfAll_20 : decode cX0_pagesOfAll 20 = .ok (.iinc 2 1, 3) := by decide +kernel
theorem dX0_pagesOfAll_23 : decode cX0_pagesOfAll 23 = .ok (.goto (-19), 3) := by decide +kernel
theorem dX0_pagesOfAll_26 : decode cX0_pagesOfAll 26 = .ok (.iload_n 1, 1) := by decide +kernel
theorem dX0_pagesOfAll_27 : decode cX0_pagesOfAll 27 = .ok (.ireturn, 1) := by decide +kernel
theorem dX0_idleOf_0 : decode cX0_idleOf 0 = .ok (.aload_n 0, 1) := by decide +kernel
theorem dX0_idleOf_1 : decode cX0_idleOf 1 = .ok (.getfield 9, 3) := by decide +kernel
theorem dX0_idleOf_4 : decode cX0_idleOf 4 = .ok (.iload_n 1, 1) := by decide +kernel
theorem dX0_idleOf_5 : decode cX0_idleOf 5 = .ok (.iaload, 1) := by decide +kernel
theorem dX0_idleOf_6 : decode cX0_idleOf 6 = .ok (.aload_n 0, 1) := by decide +kernel
theorem dX0_idleOf_7 : decode cX0_idleOf 7 = .ok (.getfield 18, 3) := by decide +kernel
theorem dX0_idleOf_10 : decode cX0_idleOf 10 = .ok (.iload_n 1, 1) := by decide +kernel
theorem dX0_idleOf_11 : decode cX0_idleOf 11 = .ok (.iaload, 1) := by decide +kernel
theorem dX0_idleOf_12 : decode cX0_idleOf 12 = .ok (.isub, 1) := by decide +kernel
theorem dX0_idleOf_13 : decode cX0_idleOf 13 = .ok (.istore_n 2, 1) := by decide +kernel
theorem dX0_idleOf_14 : decode cX0_idleOf 14 = .ok (.iconst 0, 1) := by decide +kernel
theorem dX0_idleOf_15 : decode cX0_idleOf 15 = .ok (.istore_n 3, 1) := by decide +kernel
theorem dX0_idleOf_16 : decode cX0_idleOf 16 = .ok (.iload_n 3, 1) := by decide +kernel
theorem dX0_idleOf_17 : decode cX0_idleOf 17 = .ok (.iconst 5, 1) := by decide +kernel
theorem dX0_idleOf_18 : decode cX0_idleOf 18 = .ok (.if_icmp .ge 20, 3) := by decide +kernel
theorem dX0_idleOf_21 : decode cX0_idleOf 21 = .ok (.iload_n 2, 1) := by decide +kernel
theorem dX0_idleOf_22 : decode cX0_idleOf 22 = .ok (.aload_n 0, 1) := by decide +kernel
theorem dX0_idleOf_23 : decode cX0_idleOf 23 = .ok (.getfield 26, 3) := by decide +kernel
theorem dX0_idleOf_26 : decode cX0_idleOf 26 = .ok (.iload_n 3, 1) := by decide +kernel
theorem dX0_idleOf_27 : decode cX0_idleOf 27 = .ok (.aaload, 1) := by decide +kernel
theorem dX0_idleOf_28 : decode cX0_idleOf 28 = .ok (.iload_n 1, 1) := by decide +kernel
theorem dX0_idleOf_29 : decode cX0_idleOf 29 = .ok (.iaload, 1) := by decide +kernel
theorem dX0_idleOf_30 : decode cX0_idleOf 30 = .ok (.isub, 1) := by decide +kernel
theorem dX0_idleOf_31 : decode cX0_idleOf 31 = .ok (.istore_n 2, 1) := by decide +kernel
theorem dX0_idleOf_32 : decode cX0_idleOf 32 = .ok (.iinc 3 1, 3) := by decide +kernel
theorem dX0_idleOf_35 : decode cX0_idleOf 35 = .ok (.goto (-19), 3) := by decide +kernel
theorem dX0_idleOf_38 : decode cX0_idleOf 38 = .ok (.iload_n 2, 1) := by decide +kernel
theorem dX0_idleOf_39 : decode cX0_idleOf 39 = .ok (.ireturn, 1) := by decide +kernel
theorem dX0_lendsOf_0 : decode cX0_lendsOf 0 = .ok (.aload_n 0, 1) := by decide +kernel
theorem dX0_lendsOf_1 : decode cX0_lendsOf 1 = .ok (.getfield 9, 3) := by decide +kernel
theorem dX0_lendsOf_4 : decode cX0_lendsOf 4 = .ok (.iload_n 1, 1) := by decide +kernel
theorem dX0_lendsOf_5 : decode cX0_lendsOf 5 = .ok (.iaload, 1) := by decide +kernel
theorem dX0_lendsOf_6 : decode cX0_lendsOf 6 = .ok (.aload_n 0, 1) := by decide +kernel
theorem dX0_lendsOf_7 : decode cX0_lendsOf 7 = .ok (.getfield 18, 3) := by decide +kernel
theorem dX0_lendsOf_10 : decode cX0_lendsOf 10 = .ok (.iload_n 1, 1) := by decide +kernel
theorem dX0_lendsOf_11 : decode cX0_lendsOf 11 = .ok (.iaload, 1) := by decide +kernel
theorem dX0_lendsOf_12 : decode cX0_lendsOf 12 = .ok (.isub, 1) := by decide +kernel
theorem dX0_lendsOf_13 : decode cX0_lendsOf 13 = .ok (.aload_n 0, 1) := by decide +kernel
theorem dX0_lendsOf_14 : decode cX0_lendsOf 14 = .ok (.iload_n 1, 1) := by decide +kernel
theorem dX0_lendsOf_15 : decode cX0_lendsOf 15 = .ok (.invokevirtual 80, 3) := by decide +kernel
theorem dX0_lendsOf_18 : decode cX0_lendsOf 18 = .ok (.isub, 1) := by decide +kernel
theorem dX0_lendsOf_19 : decode cX0_lendsOf 19 = .ok (.ireturn, 1) := by decide +kernel
theorem dX0_commonRoom_0 : decode cX0_commonRoom 0 = .ok (.bipush 60, 2) := by decide +kernel
theorem dX0_commonRoom_2 : decode cX0_commonRoom 2 = .ok (.aload_n 0, 1) := by decide +kernel
theorem dX0_commonRoom_3 : decode cX0_commonRoom 3 = .ok (.getfield 9, 3) := by decide +kernel
theorem dX0_commonRoom_6 : decode cX0_commonRoom 6 = .ok (.invokestatic 72, 3) := by decide +kernel
theorem dX0_commonRoom_9 : decode cX0_commonRoom 9 = .ok (.isub, 1) := by decide +kernel
theorem dX0_commonRoom_10 : decode cX0_commonRoom 10 = .ok (.ireturn, 1) := by decide +kernel
theorem dX0_freeCommonRoom_0 : decode cX0_freeCommonRoom 0 = .ok (.bipush 60, 2) := by decide +kernel
theorem dX0_freeCommonRoom_2 : decode cX0_freeCommonRoom 2 = .ok (.aload_n 0, 1) := by decide +kernel
theorem dX0_freeCommonRoom_3 : decode cX0_freeCommonRoom 3 = .ok (.getfield 9, 3) := by decide +kernel
theorem dX0_freeCommonRoom_6 : decode cX0_freeCommonRoom 6 = .ok (.invokestatic 72, 3) := by decide +kernel
theorem dX0_freeCommonRoom_9 : decode cX0_freeCommonRoom 9 = .ok (.isub, 1) := by decide +kernel
theorem dX0_freeCommonRoom_10 : decode cX0_freeCommonRoom 10 = .ok (.aload_n 0, 1) := by decide +kernel
theorem dX0_freeCommonRoom_11 : decode cX0_freeCommonRoom 11 = .ok (.getfield 21, 3) := by decide +kernel
theorem dX0_freeCommonRoom_14 : decode cX0_freeCommonRoom 14 = .ok (.invokestatic 72, 3) := by decide +kernel
theorem dX0_freeCommonRoom_17 : decode cX0_freeCommonRoom 17 = .ok (.isub, 1) := by decide +kernel
theorem dX0_freeCommonRoom_18 : decode cX0_freeCommonRoom 18 = .ok (.ireturn, 1) := by decide +kernel
theorem dX0_loansOfAll_0 : decode cX0_loansOfAll 0 = .ok (.iconst 0, 1) := by decide +kernel
theorem dX0_loansOfAll_1 : decode cX0_loansOfAll 1 = .ok (.istore_n 1, 1) := by decide +kernel
theorem dX0_loansOfAll_2 : decode cX0_loansOfAll 2 = .ok (.iconst 0, 1) := by decide +kernel
theorem dX0_loansOfAll_3 : decode cX0_loansOfAll 3 = .ok (.istore_n 2, 1) := by decide +kernel
theorem dX0_loansOfAll_4 : decode cX0_loansOfAll 4 = .ok (.iload_n 2, 1) := by decide +kernel
theorem dX0_loansOfAll_5 : decode cX0_loansOfAll 5 = .ok (.aload_n 0, 1) := by decide +kernel
theorem dX0_loansOfAll_6 : decode cX0_loansOfAll 6 = .ok (.getfield 41, 3) := by decide +kernel
theorem dX0_loansOfAll_9 : decode cX0_loansOfAll 9 = .ok (.if_icmp .ge 21, 3) := by decide +kernel
theorem dX0_loansOfAll_12 : decode cX0_loansOfAll 12 = .ok (.iload_n 1, 1) := by decide +kernel
theorem dX0_loansOfAll_13 : decode cX0_loansOfAll 13 = .ok (.aload_n 0, 1) := by decide +kernel
theorem dX0_loansOfAll_14 : decode cX0_loansOfAll 14 = .ok (.getfield 26, 3) := by decide +kernel
theorem dX0_loansOfAll_17 : decode cX0_loansOfAll 17 = .ok (.iload_n 2, 1) := by decide +kernel
theorem dX0_loansOfAll_18 : decode cX0_loansOfAll 18 = .ok (.aaload, 1) := by decide +kernel
theorem dX0_loansOfAll_19 : decode cX0_loansOfAll 19 = .ok (.invokestatic 72, 3) := by decide +kernel
theorem dX0_loansOfAll_22 : decode cX0_loansOfAll 22 = .ok (.iadd, 1) := by decide +kernel
theorem dX0_loansOfAll_23 : decode cX0_loansOfAll 23 = .ok (.istore_n 1, 1) := by decide +kernel
theorem dX0_loansOfAll_24 : decode cX0_loansOfAll 24 = .ok (.iinc 2 1, 3) := by decide +kernel
theorem dX0_loansOfAll_27 : decode cX0_loansOfAll 27 = .ok (.goto (-23), 3) := by decide +kernel
theorem dX0_loansOfAll_30 : decode cX0_loansOfAll 30 = .ok (.iload_n 1, 1) := by decide +kernel
theorem dX0_loansOfAll_31 : decode cX0_loansOfAll 31 = .ok (.ireturn, 1) := by decide +kernel
theorem dX0_lostByAll_0 : decode cX0_lostByAll 0 = .ok (.aload_n 0, 1) := by decide +kernel
theorem dX0_lostByAll_1 : decode cX0_lostByAll 1 = .ok (.getfield 35, 3) := by decide +kernel
theorem dX0_lostByAll_4 : decode cX0_lostByAll 4 = .ok (.invokestatic 72, 3) := by decide +kernel
theorem dX0_lostByAll_7 : decode cX0_lostByAll 7 = .ok (.ireturn, 1) := by decide +kernel
theorem dX0_noiseOf_0 : decode cX0_noiseOf 0 = .ok (.aload_n 0, 1) := by decide +kernel
theorem dX0_noiseOf_1 : decode cX0_noiseOf 1 = .ok (.getfield 32, 3) := by decide +kernel
theorem dX0_noiseOf_4 : decode cX0_noiseOf 4 = .ok (.iload_n 1, 1) := by decide +kernel
theorem dX0_noiseOf_5 : decode cX0_noiseOf 5 = .ok (.iaload, 1) := by decide +kernel
theorem dX0_noiseOf_6 : decode cX0_noiseOf 6 = .ok (.iconst 2, 1) := by decide +kernel
theorem dX0_noiseOf_7 : decode cX0_noiseOf 7 = .ok (.aload_n 0, 1) := by decide +kernel
theorem dX0_noiseOf_8 : decode cX0_noiseOf 8 = .ok (.getfield 35, 3) := by decide +kernel
theorem dX0_noiseOf_11 : decode cX0_noiseOf 11 = .ok (.iload_n 1, 1) := by decide +kernel
theorem dX0_noiseOf_12 : decode cX0_noiseOf 12 = .ok (.iaload, 1) := by decide +kernel
theorem dX0_noiseOf_13 : decode cX0_noiseOf 13 = .ok (.imul, 1) := by decide +kernel
theorem dX0_noiseOf_14 : decode cX0_noiseOf 14 = .ok (.isub, 1) := by decide +kernel
theorem dX0_noiseOf_15 : decode cX0_noiseOf 15 = .ok (.ireturn, 1) := by decide +kernel
theorem dX0_firstLoserSince_0 : decode cX0_firstLoserSince 0 = .ok (.iconst 0, 1) := by decide +kernel
theorem dX0_firstLoserSince_1 : decode cX0_firstLoserSince 1 = .ok (.istore_n 2, 1) := by decide +kernel
theorem dX0_firstLoserSince_2 : decode cX0_firstLoserSince 2 = .ok (.iload_n 2, 1) := by decide +kernel
theorem dX0_firstLoserSince_3 : decode cX0_firstLoserSince 3 = .ok (.aload_n 0, 1) := by decide +kernel
theorem dX0_firstLoserSince_4 : decode cX0_firstLoserSince 4 = .ok (.getfield 41, 3) := by decide +kernel
theorem dX0_firstLoserSince_7 : decode cX0_firstLoserSince 7 = .ok (.if_icmp .ge 26, 3) := by decide +kernel
theorem dX0_firstLoserSince_10 : decode cX0_firstLoserSince 10 = .ok (.aload_n 0, 1) := by decide +kernel
theorem dX0_firstLoserSince_11 : decode cX0_firstLoserSince 11 = .ok (.getfield 35, 3) := by decide +kernel
theorem dX0_firstLoserSince_14 : decode cX0_firstLoserSince 14 = .ok (.iload_n 2, 1) := by decide +kernel
theorem dX0_firstLoserSince_15 : decode cX0_firstLoserSince 15 = .ok (.iaload, 1) := by decide +kernel
theorem dX0_firstLoserSince_16 : decode cX0_firstLoserSince 16 = .ok (.aload_n 1, 1) := by decide +kernel
theorem dX0_firstLoserSince_17 : decode cX0_firstLoserSince 17 = .ok (.getfield 35, 3) := by decide +kernel
theorem dX0_firstLoserSince_20 : decode cX0_firstLoserSince 20 = .ok (.iload_n 2, 1) := by decide +kernel
theorem dX0_firstLoserSince_21 : decode cX0_firstLoserSince 21 = .ok (.iaload, 1) := by decide +kernel
theorem dX0_firstLoserSince_22 : decode cX0_firstLoserSince 22 = .ok (.if_icmp .le 5, 3) := by decide +kernel
theorem dX0_firstLoserSince_25 : decode cX0_firstLoserSince 25 = .ok (.iload_n 2, 1) := by decide +kernel
theorem dX0_firstLoserSince_26 : decode cX0_firstLoserSince 26 = .ok (.ireturn, 1) := by decide +kernel
theorem dX0_firstLoserSince_27 : decode cX0_firstLoserSince 27 = .ok (.iinc 2 1, 3) := by decide +kernel
theorem dX0_firstLoserSince_30 : decode cX0_firstLoserSince 30 = .ok (.goto (-28), 3) := by decide +kernel
theorem dX0_firstLoserSince_33 : decode cX0_firstLoserSince 33 = .ok (.iconst (-1), 1) := by decide +kernel
theorem dX0_firstLoserSince_34 : decode cX0_firstLoserSince 34 = .ok (.ireturn, 1) := by decide +kernel
theorem dX0_numberOfAll_0 : decode cX0_numberOfAll 0 = .ok (.iload_n 1, 1) := by decide +kernel
theorem dX0_numberOfAll_1 : decode cX0_numberOfAll 1 = .ok (.tableswitch 90 0 7 #[47, 52, 57, 62, 67, 72, 77, 85], 47) := by decide +kernel
theorem dX0_numberOfAll_48 : decode cX0_numberOfAll 48 = .ok (.aload_n 0, 1) := by decide +kernel
theorem dX0_numberOfAll_49 : decode cX0_numberOfAll 49 = .ok (.getfield 41, 3) := by decide +kernel
theorem dX0_numberOfAll_52 : decode cX0_numberOfAll 52 = .ok (.ireturn, 1) := by decide +kernel
theorem dX0_numberOfAll_53 : decode cX0_numberOfAll 53 = .ok (.aload_n 0, 1) := by decide +kernel
theorem dX0_numberOfAll_54 : decode cX0_numberOfAll 54 = .ok (.invokevirtual 83, 3) := by decide +kernel
theorem dX0_numberOfAll_57 : decode cX0_numberOfAll 57 = .ok (.ireturn, 1) := by decide +kernel
theorem dX0_numberOfAll_58 : decode cX0_numberOfAll 58 = .ok (.aload_n 0, 1) := by decide +kernel
theorem dX0_numberOfAll_59 : decode cX0_numberOfAll 59 = .ok (.invokevirtual 87, 3) := by decide +kernel
theorem dX0_numberOfAll_62 : decode cX0_numberOfAll 62 = .ok (.ireturn, 1) := by decide +kernel
theorem dX0_numberOfAll_63 : decode cX0_numberOfAll 63 = .ok (.aload_n 0, 1) := by decide +kernel
theorem dX0_numberOfAll_64 : decode cX0_numberOfAll 64 = .ok (.invokevirtual 90, 3) := by decide +kernel
theorem dX0_numberOfAll_67 : decode cX0_numberOfAll 67 = .ok (.ireturn, 1) := by decide +kernel
theorem dX0_numberOfAll_68 : decode cX0_numberOfAll 68 = .ok (.aload_n 0, 1) := by decide +kernel
theorem dX0_numberOfAll_69 : decode cX0_numberOfAll 69 = .ok (.invokevirtual 93, 3) := by decide +kernel
theorem dX0_numberOfAll_72 : decode cX0_numberOfAll 72 = .ok (.ireturn, 1) := by decide +kernel
theorem dX0_numberOfAll_73 : decode cX0_numberOfAll 73 = .ok (.aload_n 0, 1) := by decide +kernel
theorem dX0_numberOfAll_74 : decode cX0_numberOfAll 74 = .ok (.getfield 45, 3) := by decide +kernel
theorem dX0_numberOfAll_77 : decode cX0_numberOfAll 77 = .ok (.ireturn, 1) := by decide +kernel
theorem dX0_numberOfAll_78 : decode cX0_numberOfAll 78 = .ok (.aload_n 0, 1) := by decide +kernel
theorem dX0_numberOfAll_79 : decode cX0_numberOfAll 79 = .ok (.getfield 32, 3) := by decide +kernel
theorem dX0_numberOfAll_82 : decode cX0_numberOfAll 82 = .ok (.invokestatic 72, 3) := by decide +kernel
theorem dX0_numberOfAll_85 : decode cX0_numberOfAll 85 = .ok (.ireturn, 1) := by decide +kernel
theorem dX0_numberOfAll_86 : decode cX0_numberOfAll 86 = .ok (.aload_n 0, 1) := by decide +kernel
theorem dX0_numberOfAll_87 : decode cX0_numberOfAll 87 = .ok (.invokevirtual 96, 3) := by decide +kernel
theorem dX0_numberOfAll_90 : decode cX0_numberOfAll 90 = .ok (.ireturn, 1) := by decide +kernel
theorem dX0_numberOfAll_91 : decode cX0_numberOfAll 91 = .ok (.aload_n 0, 1) := by decide +kernel
theorem dX0_numberOfAll_92 : decode cX0_numberOfAll 92 = .ok (.getfield 38, 3) := by decide +kernel
theorem dX0_numberOfAll_95 : decode cX0_numberOfAll 95 = .ok (.invokestatic 72, 3) := by decide +kernel
theorem dX0_numberOfAll_98 : decode cX0_numberOfAll 98 = .ok (.ireturn, 1) := by decide +kernel
theorem dX0_sizeOf_0 : decode cX0_sizeOf 0 = .ok (.iload_n 2, 1) := by decide +kernel
theorem dX0_sizeOf_1 : decode cX0_sizeOf 1 = .ok (.tableswitch 93 0 6 #[43, 50, 57, 63, 70, 77, 87], 43) := by decide +kernel
theorem dX0_sizeOf_44 : decode cX0_sizeOf 44 = .ok (.aload_n 0, 1) := by decide +kernel
theorem dX0_sizeOf_45 : decode cX0_sizeOf 45 = .ok (.getfield 9, 3) := by decide +kernel
theorem dX0_sizeOf_48 : decode cX0_sizeOf 48 = .ok (.iload_n 1, 1) := by decide +kernel
theorem dX0_sizeOf_49 : decode cX0_sizeOf 49 = .ok (.iaload, 1) := by decide +kernel
theorem dX0_sizeOf_50 : decode cX0_sizeOf 50 = .ok (.ireturn, 1) := by decide +kernel
theorem dX0_sizeOf_51 : decode cX0_sizeOf 51 = .ok (.aload_n 0, 1) := by decide +kernel
theorem dX0_sizeOf_52 : decode cX0_sizeOf 52 = .ok (.getfield 15, 3) := by decide +kernel
theorem dX0_sizeOf_55 : decode cX0_sizeOf 55 = .ok (.iload_n 1, 1) := by decide +kernel
theorem dX0_sizeOf_56 : decode cX0_sizeOf 56 = .ok (.iaload, 1) := by decide +kernel
theorem dX0_sizeOf_57 : decode cX0_sizeOf 57 = .ok (.ireturn, 1) := by decide +kernel
theorem dX0_sizeOf_58 : decode cX0_sizeOf 58 = .ok (.aload_n 0, 1) := by decide +kernel
theorem dX0_sizeOf_59 : decode cX0_sizeOf 59 = .ok (.iload_n 1, 1) := by decide +kernel
theorem dX0_sizeOf_60 : decode cX0_sizeOf 60 = .ok (.invokevirtual 76, 3) := by decide +kernel
theorem dX0_sizeOf_63 : decode cX0_sizeOf 63 = .ok (.ireturn, 1) := by decide +kernel
theorem dX0_sizeOf_64 : decode cX0_sizeOf 64 = .ok (.aload_n 0, 1) := by decide +kernel
theorem dX0_sizeOf_65 : decode cX0_sizeOf 65 = .ok (.getfield 18, 3) := by decide +kernel
theorem dX0_sizeOf_68 : decode cX0_sizeOf 68 = .ok (.iload_n 1, 1) := by decide +kernel
theorem dX0_sizeOf_69 : decode cX0_sizeOf 69 = .ok (.iaload, 1) := by decide +kernel
theorem dX0_sizeOf_70 : decode cX0_sizeOf 70 = .ok (.ireturn, 1) := by decide +kernel
theorem dX0_sizeOf_71 : decode cX0_sizeOf 71 = .ok (.aload_n 0, 1) := by decide +kernel
theorem dX0_sizeOf_72 : decode cX0_sizeOf 72 = .ok (.getfield 21, 3) := by decide +kernel
theorem dX0_sizeOf_75 : decode cX0_sizeOf 75 = .ok (.iload_n 1, 1) := by decide +kernel
theorem dX0_sizeOf_76 : decode cX0_sizeOf 76 = .ok (.iaload, 1) := by decide +kernel
theorem dX0_sizeOf_77 : decode cX0_sizeOf 77 = .ok (.ireturn, 1) := by decide +kernel
theorem dX0_sizeOf_78 : decode cX0_sizeOf 78 = .ok (.aload_n 0, 1) := by decide +kernel
theorem dX0_sizeOf_79 : decode cX0_sizeOf 79 = .ok (.getfield 26, 3) := by decide +kernel
theorem dX0_sizeOf_82 : decode cX0_sizeOf 82 = .ok (.iload_n 1, 1) := by decide +kernel
theorem dX0_sizeOf_83 : decode cX0_sizeOf 83 = .ok (.aaload, 1) := by decide +kernel
theorem dX0_sizeOf_84 : decode cX0_sizeOf 84 = .ok (.invokestatic 72, 3) := by decide +kernel
theorem dX0_sizeOf_87 : decode cX0_sizeOf 87 = .ok (.ireturn, 1) := by decide +kernel
theorem dX0_sizeOf_88 : decode cX0_sizeOf 88 = .ok (.aload_n 0, 1) := by decide +kernel
theorem dX0_sizeOf_89 : decode cX0_sizeOf 89 = .ok (.iload_n 1, 1) := by decide +kernel
theorem dX0_sizeOf_90 : decode cX0_sizeOf 90 = .ok (.invokevirtual 99, 3) := by decide +kernel
theorem dX0_sizeOf_93 : decode cX0_sizeOf 93 = .ok (.ireturn, 1) := by decide +kernel
theorem dX0_sizeOf_94 : decode cX0_sizeOf 94 = .ok (.aload_n 0, 1) := by decide +kernel
theorem dX0_sizeOf_95 : decode cX0_sizeOf 95 = .ok (.iload_n 1, 1) := by decide +kernel
theorem dX0_sizeOf_96 : decode cX0_sizeOf 96 = .ok (.invokevirtual 80, 3) := by decide +kernel
theorem dX0_sizeOf_99 : decode cX0_sizeOf 99 = .ok (.ireturn, 1) := by decide +kernel
theorem dX0_countOf_0 : decode cX0_countOf 0 = .ok (.iload_n 2, 1) := by decide +kernel
theorem dX0_countOf_1 : decode cX0_countOf 1 = .ok (.lookupswitch 41 #[(8, 27), (9, 34)], 27) := by decide +kernel
theorem dX0_countOf_28 : decode cX0_countOf 28 = .ok (.aload_n 0, 1) := by decide +kernel
theorem dX0_countOf_29 : decode cX0_countOf 29 = .ok (.getfield 32, 3) := by decide +kernel
theorem dX0_countOf_32 : decode cX0_countOf 32 = .ok (.iload_n 1, 1) := by decide +kernel
theorem dX0_countOf_33 : decode cX0_countOf 33 = .ok (.iaload, 1) := by decide +kernel
theorem dX0_countOf_34 : decode cX0_countOf 34 = .ok (.ireturn, 1) := by decide +kernel
theorem dX0_countOf_35 : decode cX0_countOf 35 = .ok (.aload_n 0, 1) := by decide +kernel
theorem dX0_countOf_36 : decode cX0_countOf 36 = .ok (.getfield 35, 3) := by decide +kernel
theorem dX0_countOf_39 : decode cX0_countOf 39 = .ok (.iload_n 1, 1) := by decide +kernel
theorem dX0_countOf_40 : decode cX0_countOf 40 = .ok (.iaload, 1) := by decide +kernel
theorem dX0_countOf_41 : decode cX0_countOf 41 = .ok (.ireturn, 1) := by decide +kernel
theorem dX0_countOf_42 : decode cX0_countOf 42 = .ok (.aload_n 0, 1) := by decide +kernel
theorem dX0_countOf_43 : decode cX0_countOf 43 = .ok (.getfield 38, 3) := by decide +kernel
theorem dX0_countOf_46 : decode cX0_countOf 46 = .ok (.iload_n 1, 1) := by decide +kernel
theorem dX0_countOf_47 : decode cX0_countOf 47 = .ok (.iaload, 1) := by decide +kernel
theorem dX0_countOf_48 : decode cX0_countOf 48 = .ok (.ireturn, 1) := by decide +kernel
theorem dX0_pageByAge_0 : decode cX0_pageByAge 0 = .ok (.iload_n 2, 1) := by decide +kernel
theorem dX0_pageByAge_1 : decode cX0_pageByAge 1 = .ok (.bipush 40, 2) := by decide +kernel
theorem dX0_pageByAge_3 : decode cX0_pageByAge 3 = .ok (.if_icmp .lt 5, 3) := by decide +kernel
theorem dX0_pageByAge_6 : decode cX0_pageByAge 6 = .ok (.iconst (-1), 1) := by decide +kernel
theorem dX0_pageByAge_7 : decode cX0_pageByAge 7 = .ok (.ireturn, 1) := by decide +kernel
theorem dX0_pageByAge_8 : decode cX0_pageByAge 8 = .ok (.aload_n 0, 1) := by decide +kernel
theorem dX0_pageByAge_9 : decode cX0_pageByAge 9 = .ok (.iload_n 1, 1) := by decide +kernel
theorem dX0_pageByAge_10 : decode cX0_pageByAge 10 = .ok (.iconst 0, 1) := by decide +kernel
theorem dX0_pageByAge_11 : decode cX0_pageByAge 11 = .ok (.invokevirtual 102, 3) := by decide +kernel
theorem dX0_pageByAge_14 : decode cX0_pageByAge 14 = .ok (.istore_n 3, 1) := by decide +kernel
theorem dX0_pageByAge_15 : decode cX0_pageByAge 15 = .ok (.iconst 0, 1) := by decide +kernel
theorem dX0_pageByAge_16 : decode cX0_pageByAge 16 = .ok (.istore 4, 2) := by decide +kernel
theorem dX0_pageByAge_18 : decode cX0_pageByAge 18 = .ok (.iload 4, 2) := by decide +kernel
theorem dX0_pageByAge_20 : decode cX0_pageByAge 20 = .ok (.iload_n 2, 1) := by decide +kernel
theorem dX0_pageByAge_21 : decode cX0_pageByAge 21 = .ok (.if_icmp .ge 28, 3) := by decide +kernel
theorem dX0_pageByAge_24 : decode cX0_pageByAge 24 = .ok (.iload_n 3, 1) := by decide +kernel
theorem dX0_pageByAge_25 : decode cX0_pageByAge 25 = .ok (.iconst (-1), 1) := by decide +kernel
theorem dX0_pageByAge_26 : decode cX0_pageByAge 26 = .ok (.if_icmp .eq 23, 3) := by decide +kernel
theorem dX0_pageByAge_29 : decode cX0_pageByAge 29 = .ok (.aload_n 0, 1) := by decide +kernel
theorem dX0_pageByAge_30 : decode cX0_pageByAge 30 = .ok (.iload_n 1, 1) := by decide +kernel
theorem dX0_pageByAge_31 : decode cX0_pageByAge 31 = .ok (.aload_n 0, 1) := by decide +kernel
theorem dX0_pageByAge_32 : decode cX0_pageByAge 32 = .ok (.getfield 29, 3) := by decide +kernel
theorem dX0_pageByAge_35 : decode cX0_pageByAge 35 = .ok (.iload_n 1, 1) := by decide +kernel
theorem dX0_pageByAge_36 : decode cX0_pageByAge 36 = .ok (.aaload, 1) := by decide +kernel
theorem dX0_pageByAge_37 : decode cX0_pageByAge 37 = .ok (.iload_n 3, 1) := by decide +kernel
theorem dX0_pageByAge_38 : decode cX0_pageByAge 38 = .ok (.iaload, 1) := by decide +kernel
theorem dX0_pageByAge_39 : decode cX0_pageByAge 39 = .ok (.invokevirtual 102, 3) := by decide +kernel
theorem dX0_pageByAge_42 : decode cX0_pageByAge 42 = .ok (.istore_n 3, 1) := by decide +kernel
theorem dX0_pageByAge_43 : decode cX0_pageByAge 43 = .ok (.iinc 4 1, 3) := by decide +kernel
theorem dX0_pageByAge_46 : decode cX0_pageByAge 46 = .ok (.goto (-28), 3) := by decide +kernel
theorem dX0_pageByAge_49 : decode cX0_pageByAge 49 = .ok (.iload_n 3, 1) := by decide +kernel
theorem dX0_pageByAge_50 : decode cX0_pageByAge 50 = .ok (.ireturn, 1) := by decide +kernel
theorem dX0_oldestAfter_0 : decode cX0_oldestAfter 0 = .ok (.iconst (-1), 1) := by decide +kernel
theorem dX0_oldestAfter_1 : decode cX0_oldestAfter 1 = .ok (.istore_n 3, 1) := by decide +kernel
theorem dX0_oldestAfter_2 : decode cX0_oldestAfter 2 = .ok (.iconst 0, 1) := by decide +kernel
theorem dX0_oldestAfter_3 : decode cX0_oldestAfter 3 = .ok (.istore 4, 2) := by decide +kernel
theorem dX0_oldestAfter_5 : decode cX0_oldestAfter 5 = .ok (.iload 4, 2) := by decide +kernel
theorem dX0_oldestAfter_7 : decode cX0_oldestAfter 7 = .ok (.bipush 40, 2) := by decide +kernel
theorem dX0_oldestAfter_9 : decode cX0_oldestAfter 9 = .ok (.if_icmp .ge 50, 3) := by decide +kernel
theorem dX0_oldestAfter_12 : decode cX0_oldestAfter 12 = .ok (.aload_n 0, 1) := by decide +kernel
theorem dX0_oldestAfter_13 : decode cX0_oldestAfter 13 = .ok (.getfield 29, 3) := by decide +kernel
theorem dX0_oldestAfter_16 : decode cX0_oldestAfter 16 = .ok (.iload_n 1, 1) := by decide +kernel
theorem dX0_oldestAfter_17 : decode cX0_oldestAfter 17 = .ok (.aaload, 1) := by decide +kernel
theorem dX0_oldestAfter_18 : decode cX0_oldestAfter 18 = .ok (.iload 4, 2) := by decide +kernel
theorem dX0_oldestAfter_20 : decode cX0_oldestAfter 20 = .ok (.iaload, 1) := by decide +kernel
theorem dX0_oldestAfter_21 : decode cX0_oldestAfter 21 = .ok (.iload_n 2, 1) := by decide +kernel
theorem dX0_oldestAfter_22 : decode cX0_oldestAfter 22 = .ok (.if_icmp .le 31, 3) := by decide +kernel
theorem dX0_oldestAfter_25 : decode cX0_oldestAfter 25 = .ok (.iload_n 3, 1) := by decide +kernel
theorem dX0_oldestAfter_26 : decode cX0_oldestAfter 26 = .ok (.iconst (-1), 1) := by decide +kernel
theorem dX0_oldestAfter_27 : decode cX0_oldestAfter 27 = .ok (.if_icmp .eq 23, 3) := by decide +kernel
theorem dX0_oldestAfter_30 : decode cX0_oldestAfter 30 = .ok (.aload_n 0, 1) := by decide +kernel
theorem dX0_oldestAfter_31 : decode cX0_oldestAfter 31 = .ok (.getfield 29, 3) := by decide +kernel
theorem dX0_oldestAfter_34 : decode cX0_oldestAfter 34 = .ok (.iload_n 1, 1) := by decide +kernel
theorem dX0_oldestAfter_35 : decode cX0_oldestAfter 35 = .ok (.aaload, 1) := by decide +kernel
theorem dX0_oldestAfter_36 : decode cX0_oldestAfter 36 = .ok (.iload 4, 2) := by decide +kernel
theorem dX0_oldestAfter_38 : decode cX0_oldestAfter 38 = .ok (.iaload, 1) := by decide +kernel
theorem dX0_oldestAfter_39 : decode cX0_oldestAfter 39 = .ok (.aload_n 0, 1) := by decide +kernel
theorem dX0_oldestAfter_40 : decode cX0_oldestAfter 40 = .ok (.getfield 29, 3) := by decide +kernel
theorem dX0_oldestAfter_43 : decode cX0_oldestAfter 43 = .ok (.iload_n 1, 1) := by decide +kernel
theorem dX0_oldestAfter_44 : decode cX0_oldestAfter 44 = .ok (.aaload, 1) := by decide +kernel
theorem dX0_oldestAfter_45 : decode cX0_oldestAfter 45 = .ok (.iload_n 3, 1) := by decide +kernel
theorem dX0_oldestAfter_46 : decode cX0_oldestAfter 46 = .ok (.iaload, 1) := by decide +kernel
theorem dX0_oldestAfter_47 : decode cX0_oldestAfter 47 = .ok (.if_icmp .ge 6, 3) := by decide +kernel
theorem dX0_oldestAfter_50 : decode cX0_oldestAfter 50 = .ok (.iload 4, 2) := by decide +kernel
theorem dX0_oldestAfter_52 : decode cX0_oldestAfter 52 = .ok (.istore_n 3, 1) := by decide +kernel
theorem dX0_oldestAfter_53 : decode cX0_oldestAfter 53 = .ok (.iinc 4 1, 3) := by decide +kernel
theorem dX0_oldestAfter_56 : decode cX0_oldestAfter 56 = .ok (.goto (-51), 3) := by decide +kernel
theorem dX0_oldestAfter_59 : decode cX0_oldestAfter 59 = .ok (.iload_n 3, 1) := by decide +kernel
theorem dX0_oldestAfter_60 : decode cX0_oldestAfter 60 = .ok (.ireturn, 1) := by decide +kernel
theorem dX0_areBounds_0 : decode cX0_areBounds 0 = .ok (.iload_n 1, 1) := by decide +kernel
theorem dX0_areBounds_1 : decode cX0_areBounds 1 = .ok (.ifCond .lt 23, 3) := by decide +kernel
theorem dX0_areBounds_4 : decode cX0_areBounds 4 = .ok (.iload_n 1, 1) := by decide +kernel
theorem dX0_areBounds_5 : decode cX0_areBounds 5 = .ok (.iload_n 2, 1) := by decide +kernel
theorem dX0_areBounds_6 : decode cX0_areBounds 6 = .ok (.if_icmp .gt 18, 3) := by decide +kernel
theorem dX0_areBounds_9 : decode cX0_areBounds 9 = .ok (.iload_n 2, 1) := by decide +kernel
theorem dX0_areBounds_10 : decode cX0_areBounds 10 = .ok (.iconst 1, 1) := by decide +kernel
theorem dX0_areBounds_11 : decode cX0_areBounds 11 = .ok (.if_icmp .lt 13, 3) := by decide +kernel
theorem dX0_areBounds_14 : decode cX0_areBounds 14 = .ok (.iload_n 2, 1) := by decide +kernel
theorem dX0_areBounds_15 : decode cX0_areBounds 15 = .ok (.bipush 60, 2) := by decide +kernel
theorem dX0_areBounds_17 : decode cX0_areBounds 17 = .ok (.if_icmp .gt 7, 3) := by decide +kernel
theorem dX0_areBounds_20 : decode cX0_areBounds 20 = .ok (.iconst 1, 1) := by decide +kernel
theorem dX0_areBounds_21 : decode cX0_areBounds 21 = .ok (.goto 4, 3) := by decide +kernel
theorem dX0_areBounds_24 : decode cX0_areBounds 24 = .ok (.iconst 0, 1) := by decide +kernel
theorem dX0_areBounds_25 : decode cX0_areBounds 25 = .ok (.ireturn, 1) := by decide +kernel
theorem dX0_hasRoomForSpace_0 : decode cX0_hasRoomForSpace 0 = .ok (.aload_n 0, 1) := by decide +kernel
theorem dX0_hasRoomForSpace_1 : decode cX0_hasRoomForSpace 1 = .ok (.getfield 41, 3) := by decide +kernel
theorem dX0_hasRoomForSpace_4 : decode cX0_hasRoomForSpace 4 = .ok (.iconst 5, 1) := by decide +kernel
theorem dX0_hasRoomForSpace_5 : decode cX0_hasRoomForSpace 5 = .ok (.if_icmp .ge 15, 3) := by decide +kernel
theorem dX0_hasRoomForSpace_8 : decode cX0_hasRoomForSpace 8 = .ok (.iload_n 1, 1) := by decide +kernel
theorem dX0_hasRoomForSpace_9 : decode cX0_hasRoomForSpace 9 = .ok (.aload_n 0, 1) := by decide +kernel
theorem dX0_hasRoomForSpace_10 : decode cX0_hasRoomForSpace 10 = .ok (.invokevirtual 90, 3) := by decide +kernel
theorem dX0_hasRoomForSpace_13 : decode cX0_hasRoomForSpace 13 = .ok (.if_icmp .gt 7, 3) := by decide +kernel
theorem dX0_hasRoomForSpace_16 : decode cX0_hasRoomForSpace 16 = .ok (.iconst 1, 1) := by decide +kernel
theorem dX0_hasRoomForSpace_17 : decode cX0_hasRoomForSpace 17 = .ok (.goto 4, 3) := by decide +kernel
theorem dX0_hasRoomForSpace_20 : decode cX0_hasRoomForSpace 20 = .ok (.iconst 0, 1) := by decide +kernel
theorem dX0_hasRoomForSpace_21 : decode cX0_hasRoomForSpace 21 = .ok (.ireturn, 1) := by decide +kernel
theorem dX0_addSpace_0 : decode cX0_addSpace 0 = .ok (.aload_n 0, 1) := by decide +kernel
theorem dX0_addSpace_1 : decode cX0_addSpace 1 = .ok (.iload_n 1, 1) := by decide +kernel
theorem dX0_addSpace_2 : decode cX0_addSpace 2 = .ok (.iload_n 2, 1) := by decide +kernel
theorem dX0_addSpace_3 : decode cX0_addSpace 3 = .ok (.invokevirtual 105, 3) := by decide +kernel
theorem dX0_addSpace_6 : decode cX0_addSpace 6 = .ok (.ifCond .eq 11, 3) := by decide +kernel
theorem dX0_addSpace_9 : decode cX0_addSpace 9 = .ok (.aload_n 0, 1) := by decide +kernel
theorem dX0_addSpace_10 : decode cX0_addSpace 10 = .ok (.iload_n 1, 1) := by decide +kernel
theorem dX0_addSpace_11 : decode cX0_addSpace 11 = .ok (.invokevirtual 108, 3) := by decide +kernel
theorem dX0_addSpace_14 : decode cX0_addSpace 14 = .ok (.ifCond .ne 5, 3) := by decide +kernel
theorem dX0_addSpace_17 : decode cX0_addSpace 17 = .ok (.iconst (-1), 1) := by decide +kernel
theorem dX0_addSpace_18 : decode cX0_addSpace 18 = .ok (.ireturn, 1) := by decide +kernel
theorem dX0_addSpace_19 : decode cX0_addSpace 19 = .ok (.aload_n 0, 1) := by decide +kernel
theorem dX0_addSpace_20 : decode cX0_addSpace 20 = .ok (.getfield 9, 3) := by decide +kernel
theorem dX0_addSpace_23 : decode cX0_addSpace 23 = .ok (.aload_n 0, 1) := by decide +kernel
theorem dX0_addSpace_24 : decode cX0_addSpace 24 = .ok (.getfield 41, 3) := by decide +kernel
theorem dX0_addSpace_27 : decode cX0_addSpace 27 = .ok (.iload_n 1, 1) := by decide +kernel
theorem dX0_addSpace_28 : decode cX0_addSpace 28 = .ok (.iastore, 1) := by decide +kernel
theorem dX0_addSpace_29 : decode cX0_addSpace 29 = .ok (.aload_n 0, 1) := by decide +kernel
theorem dX0_addSpace_30 : decode cX0_addSpace 30 = .ok (.getfield 15, 3) := by decide +kernel
theorem dX0_addSpace_33 : decode cX0_addSpace 33 = .ok (.aload_n 0, 1) := by decide +kernel
theorem dX0_addSpace_34 : decode cX0_addSpace 34 = .ok (.getfield 41, 3) := by decide +kernel
theorem dX0_addSpace_37 : decode cX0_addSpace 37 = .ok (.iload_n 2, 1) := by decide +kernel
theorem dX0_addSpace_38 : decode cX0_addSpace 38 = .ok (.iastore, 1) := by decide +kernel
theorem dX0_addSpace_39 : decode cX0_addSpace 39 = .ok (.aload_n 0, 1) := by decide +kernel
theorem dX0_addSpace_40 : decode cX0_addSpace 40 = .ok (.dup, 1) := by decide +kernel
theorem dX0_addSpace_41 : decode cX0_addSpace 41 = .ok (.getfield 41, 3) := by decide +kernel
theorem dX0_addSpace_44 : decode cX0_addSpace 44 = .ok (.iconst 1, 1) := by decide +kernel
theorem dX0_addSpace_45 : decode cX0_addSpace 45 = .ok (.iadd, 1) := by decide +kernel
theorem dX0_addSpace_46 : decode cX0_addSpace 46 = .ok (.putfield 41, 3) := by decide +kernel
theorem dX0_addSpace_49 : decode cX0_addSpace 49 = .ok (.aload_n 0, 1) := by decide +kernel
theorem dX0_addSpace_50 : decode cX0_addSpace 50 = .ok (.getfield 41, 3) := by decide +kernel
theorem dX0_addSpace_53 : decode cX0_addSpace 53 = .ok (.iconst 1, 1) := by decide +kernel
theorem dX0_addSpace_54 : decode cX0_addSpace 54 = .ok (.isub, 1) := by decide +kernel
theorem dX0_addSpace_55 : decode cX0_addSpace 55 = .ok (.ireturn, 1) := by decide +kernel
theorem dX0_smallestFloor_0 : decode cX0_smallestFloor 0 = .ok (.aload_n 0, 1) := by decide +kernel
theorem dX0_smallestFloor_1 : decode cX0_smallestFloor 1 = .ok (.getfield 9, 3) := by decide +kernel
theorem dX0_smallestFloor_4 : decode cX0_smallestFloor 4 = .ok (.iload_n 1, 1) := by decide +kernel
theorem dX0_smallestFloor_5 : decode cX0_smallestFloor 5 = .ok (.iaload, 1) := by decide +kernel
theorem dX0_smallestFloor_6 : decode cX0_smallestFloor 6 = .ok (.aload_n 0, 1) := by decide +kernel
theorem dX0_smallestFloor_7 : decode cX0_smallestFloor 7 = .ok (.iload_n 1, 1) := by decide +kernel
theorem dX0_smallestFloor_8 : decode cX0_smallestFloor 8 = .ok (.invokevirtual 80, 3) := by decide +kernel
theorem dX0_smallestFloor_11 : decode cX0_smallestFloor 11 = .ok (.isub, 1) := by decide +kernel
theorem dX0_smallestFloor_12 : decode cX0_smallestFloor 12 = .ok (.ireturn, 1) := by decide +kernel
theorem dX0_greatestFloor_0 : decode cX0_greatestFloor 0 = .ok (.aload_n 0, 1) := by decide +kernel
theorem dX0_greatestFloor_1 : decode cX0_greatestFloor 1 = .ok (.getfield 15, 3) := by decide +kernel
theorem dX0_greatestFloor_4 : decode cX0_greatestFloor 4 = .ok (.iload_n 1, 1) := by decide +kernel
theorem dX0_greatestFloor_5 : decode cX0_greatestFloor 5 = .ok (.iaload, 1) := by decide +kernel
theorem dX0_greatestFloor_6 : decode cX0_greatestFloor 6 = .ok (.aload_n 0, 1) := by decide +kernel
theorem dX0_greatestFloor_7 : decode cX0_greatestFloor 7 = .ok (.getfield 9, 3) := by decide +kernel
theorem dX0_greatestFloor_10 : decode cX0_greatestFloor 10 = .ok (.iload_n 1, 1) := by decide +kernel
theorem dX0_greatestFloor_11 : decode cX0_greatestFloor 11 = .ok (.iaload, 1) := by decide +kernel
theorem dX0_greatestFloor_12 : decode cX0_greatestFloor 12 = .ok (.aload_n 0, 1) := by decide +kernel
theorem dX0_greatestFloor_13 : decode cX0_greatestFloor 13 = .ok (.invokevirtual 90, 3) := by decide +kernel
theorem dX0_greatestFloor_16 : decode cX0_greatestFloor 16 = .ok (.iadd, 1) := by decide +kernel
theorem dX0_greatestFloor_17 : decode cX0_greatestFloor 17 = .ok (.invokestatic 52, 3) := by decide +kernel
theorem dX0_greatestFloor_20 : decode cX0_greatestFloor 20 = .ok (.ireturn, 1) := by decide +kernel
theorem dX0_takesFloor_0 : decode cX0_takesFloor 0 = .ok (.aload_n 0, 1) := by decide +kernel
theorem dX0_takesFloor_1 : decode cX0_takesFloor 1 = .ok (.iload_n 1, 1) := by decide +kernel
theorem dX0_takesFloor_2 : decode cX0_takesFloor 2 = .ok (.invokevirtual 64, 3) := by decide +kernel
theorem dX0_takesFloor_5 : decode cX0_takesFloor 5 = .ok (.ifCond .eq 25, 3) := by decide +kernel
theorem dX0_takesFloor_8 : decode cX0_takesFloor 8 = .ok (.iload_n 2, 1) := by decide +kernel
theorem dX0_takesFloor_9 : decode cX0_takesFloor 9 = .ok (.aload_n 0, 1) := by decide +kernel
theorem dX0_takesFloor_10 : decode cX0_takesFloor 10 = .ok (.iload_n 1, 1) := by decide +kernel
theorem dX0_takesFloor_11 : decode cX0_takesFloor 11 = .ok (.invokevirtual 111, 3) := by decide +kernel
theorem dX0_takesFloor_14 : decode cX0_takesFloor 14 = .ok (.if_icmp .lt 16, 3) := by decide +kernel
theorem dX0_takesFloor_17 : decode cX0_takesFloor 17 = .ok (.iload_n 2, 1) := by decide +kernel
theorem dX0_takesFloor_18 : decode cX0_takesFloor 18 = .ok (.aload_n 0, 1) := by decide +kernel
theorem dX0_takesFloor_19 : decode cX0_takesFloor 19 = .ok (.iload_n 1, 1) := by decide +kernel
theorem dX0_takesFloor_20 : decode cX0_takesFloor 20 = .ok (.invokevirtual 114, 3) := by decide +kernel
theorem dX0_takesFloor_23 : decode cX0_takesFloor 23 = .ok (.if_icmp .gt 7, 3) := by decide +kernel
theorem dX0_takesFloor_26 : decode cX0_takesFloor 26 = .ok (.iconst 1, 1) := by decide +kernel
theorem dX0_takesFloor_27 : decode cX0_takesFloor 27 = .ok (.goto 4, 3) := by decide +kernel
theorem dX0_takesFloor_30 : decode cX0_takesFloor 30 = .ok (.iconst 0, 1) := by decide +kernel
theorem dX0_takesFloor_31 : decode cX0_takesFloor 31 = .ok (.ireturn, 1) := by decide +kernel
theorem dX0_changeFloor_0 : decode cX0_changeFloor 0 = .ok (.aload_n 0, 1) := by decide +kernel
theorem dX0_changeFloor_1 : decode cX0_changeFloor 1 = .ok (.iload_n 1, 1) := by decide +kernel
theorem dX0_changeFloor_2 : decode cX0_changeFloor 2 = .ok (.iload_n 2, 1) := by decide +kernel
theorem dX0_changeFloor_3 : decode cX0_changeFloor 3 = .ok (.invokevirtual 117, 3) := by decide +kernel
theorem dX0_changeFloor_6 : decode cX0_changeFloor 6 = .ok (.ifCond .ne 5, 3) := by decide +kernel
theorem dX0_changeFloor_9 : decode cX0_changeFloor 9 = .ok (.iconst 0, 1) := by decide +kernel
theorem dX0_changeFloor_10 : decode cX0_changeFloor 10 = .ok (.ireturn, 1) := by decide +kernel
theorem dX0_changeFloor_11 : decode cX0_changeFloor 11 = .ok (.aload_n 0, 1) := by decide +kernel
theorem dX0_changeFloor_12 : decode cX0_changeFloor 12 = .ok (.getfield 9, 3) := by decide +kernel
theorem dX0_changeFloor_15 : decode cX0_changeFloor 15 = .ok (.iload_n 1, 1) := by decide +kernel
theorem dX0_changeFloor_16 : decode cX0_changeFloor 16 = .ok (.iload_n 2, 1) := by decide +kernel
theorem dX0_changeFloor_17 : decode cX0_changeFloor 17 = .ok (.iastore, 1) := by decide +kernel
theorem dX0_changeFloor_18 : decode cX0_changeFloor 18 = .ok (.iconst 1, 1) := by decide +kernel
theorem dX0_changeFloor_19 : decode cX0_changeFloor 19 = .ok (.ireturn, 1) := by decide +kernel
theorem dX0_takesCeiling_0 : decode cX0_takesCeiling 0 = .ok (.aload_n 0, 1) := by decide +kernel
theorem dX0_takesCeiling_1 : decode cX0_takesCeiling 1 = .ok (.iload_n 1, 1) := by decide +kernel
theorem dX0_takesCeiling_2 : decode cX0_takesCeiling 2 = .ok (.invokevirtual 64, 3) := by decide +kernel
theorem dX0_takesCeiling_5 : decode cX0_takesCeiling 5 = .ok (.ifCond .eq 21, 3) := by decide +kernel
theorem dX0_takesCeiling_8 : decode cX0_takesCeiling 8 = .ok (.aload_n 0, 1) := by decide +kernel
theorem dX0_takesCeiling_9 : decode cX0_takesCeiling 9 = .ok (.aload_n 0, 1) := by decide +kernel
theorem dX0_takesCeiling_10 : decode cX0_takesCeiling 10 = .ok (.getfield 9, 3) := by decide +kernel
theorem dX0_takesCeiling_13 : decode cX0_takesCeiling 13 = .ok (.iload_n 1, 1) := by decide +kernel
theorem dX0_takesCeiling_14 : decode cX0_takesCeiling 14 = .ok (.iaload, 1) := by decide +kernel
theorem dX0_takesCeiling_15 : decode cX0_takesCeiling 15 = .ok (.iload_n 2, 1) := by decide +kernel
theorem dX0_takesCeiling_16 : decode cX0_takesCeiling 16 = .ok (.invokevirtual 105, 3) := by decide +kernel
theorem dX0_takesCeiling_19 : decode cX0_takesCeiling 19 = .ok (.ifCond .eq 7, 3) := by decide +kernel
theorem dX0_takesCeiling_22 : decode cX0_takesCeiling 22 = .ok (.iconst 1, 1) := by decide +kernel
theorem dX0_takesCeiling_23 : decode cX0_takesCeiling 23 = .ok (.goto 4, 3) := by decide +kernel
theorem dX0_takesCeiling_26 : decode cX0_takesCeiling 26 = .ok (.iconst 0, 1) := by decide +kernel
theorem dX0_takesCeiling_27 : decode cX0_takesCeiling 27 = .ok (.ireturn, 1) := by decide +kernel
theorem dX0_changeCeiling_0 : decode cX0_changeCeiling 0 = .ok (.aload_n 0, 1) := by decide +kernel
theorem dX0_changeCeiling_1 : decode cX0_changeCeiling 1 = .ok (.iload_n 1, 1) := by decide +kernel
theorem dX0_changeCeiling_2 : decode cX0_changeCeiling 2 = .ok (.iload_n 2, 1) := by decide +kernel
theorem dX0_changeCeiling_3 : decode cX0_changeCeiling 3 = .ok (.invokevirtual 120, 3) := by decide +kernel
theorem dX0_changeCeiling_6 : decode cX0_changeCeiling 6 = .ok (.ifCond .ne 5, 3) := by decide +kernel
theorem dX0_changeCeiling_9 : decode cX0_changeCeiling 9 = .ok (.iconst 0, 1) := by decide +kernel
theorem dX0_changeCeiling_10 : decode cX0_changeCeiling 10 = .ok (.ireturn, 1) := by decide +kernel
theorem dX0_changeCeiling_11 : decode cX0_changeCeiling 11 = .ok (.aload_n 0, 1) := by decide +kernel
theorem dX0_changeCeiling_12 : decode cX0_changeCeiling 12 = .ok (.getfield 15, 3) := by decide +kernel
theorem dX0_changeCeiling_15 : decode cX0_changeCeiling 15 = .ok (.iload_n 1, 1) := by decide +kernel
theorem dX0_changeCeiling_16 : decode cX0_changeCeiling 16 = .ok (.iload_n 2, 1) := by decide +kernel
theorem dX0_changeCeiling_17 : decode cX0_changeCeiling 17 = .ok (.iastore, 1) := by decide +kernel
theorem dX0_changeCeiling_18 : decode cX0_changeCeiling 18 = .ok (.iconst 1, 1) := by decide +kernel
theorem dX0_changeCeiling_19 : decode cX0_changeCeiling 19 = .ok (.ireturn, 1) := by decide +kernel
theorem dX0_putPage_0 : decode cX0_putPage 0 = .ok (.aload_n 0, 1) := by decide +kernel
theorem dX0_putPage_1 : decode cX0_putPage 1 = .ok (.iload_n 1, 1) := by decide +kernel
theorem dX0_putPage_2 : decode cX0_putPage 2 = .ok (.iload_n 2, 1) := by decide +kernel
theorem dX0_putPage_3 : decode cX0_putPage 3 = .ok (.invokevirtual 68, 3) := by decide +kernel
theorem dX0_putPage_6 : decode cX0_putPage 6 = .ok (.ifCond .ne 5, 3) := by decide +kernel
theorem dX0_putPage_9 : decode cX0_putPage 9 = .ok (.iconst (-1), 1) := by decide +kernel
theorem dX0_putPage_10 : decode cX0_putPage 10 = .ok (.ireturn, 1) := by decide +kernel
theorem dX0_putPage_11 : decode cX0_putPage 11 = .ok (.aload_n 0, 1) := by decide +kernel
theorem dX0_putPage_12 : decode cX0_putPage 12 = .ok (.iload_n 1, 1) := by decide +kernel
theorem dX0_putPage_13 : decode cX0_putPage 13 = .ok (.iload_n 2, 1) := by decide +kernel
theorem dX0_putPage_14 : decode cX0_putPage 14 = .ok (.invokevirtual 123, 3) := by decide +kernel
theorem dX0_putPage_17 : decode cX0_putPage 17 = .ok (.ifCond .eq 7, 3) := by decide +kernel
theorem dX0_putPage_20 : decode cX0_putPage 20 = .ok (.iconst 0, 1) := by decide +kernel
theorem dX0_putPage_21 : decode cX0_putPage 21 = .ok (.goto 8, 3) := by decide +kernel
theorem dX0_putPage_24 : decode cX0_putPage 24 = .ok (.aload_n 0, 1) := by decide +kernel
theorem dX0_putPage_25 : decode cX0_putPage 25 = .ok (.iload_n 1, 1) := by decide +kernel
theorem dX0_putPage_26 : decode cX0_putPage 26 = .ok (.invokevirtual 126, 3) := by decide +kernel
theorem dX0_putPage_29 : decode cX0_putPage 29 = .ok (.istore_n 3, 1) := by decide +kernel
theorem dX0_putPage_30 : decode cX0_putPage 30 = .ok (.iload_n 3, 1) := by decide +kernel
theorem dX0_putPage_31 : decode cX0_putPage 31 = .ok (.iconst 5, 1) := by decide +kernel
theorem dX0_putPage_32 : decode cX0_putPage 32 = .ok (.if_icmp .ne 15, 3) := by decide +kernel
theorem dX0_putPage_35 : decode cX0_putPage 35 = .ok (.aload_n 0, 1) := by decide +kernel
theorem dX0_putPage_36 : decode cX0_putPage 36 = .ok (.getfield 38, 3) := by decide +kernel
theorem dX0_putPage_39 : decode cX0_putPage 39 = .ok (.iload_n 1, 1) := by decide +kernel
theorem dX0_putPage_40 : decode cX0_putPage 40 = .ok (.dup2, 1) := by decide +kernel
theorem dX0_putPage_41 : decode cX0_putPage 41 = .ok (.iaload, 1) := by decide +kernel
theorem dX0_putPage_42 : decode cX0_putPage 42 = .ok (.iconst 1, 1) := by decide +kernel
theorem dX0_putPage_43 : decode cX0_putPage 43 = .ok (.iadd, 1) := by decide +kernel
theorem dX0_putPage_44 : decode cX0_putPage 44 = .ok (.iastore, 1) := by decide +kernel
theorem dX0_putPage_45 : decode cX0_putPage 45 = .ok (.iconst 5, 1) := by decide +kernel
theorem dX0_putPage_46 : decode cX0_putPage 46 = .ok (.ireturn, 1) := by decide +kernel
theorem dX0_putPage_47 : decode cX0_putPage 47 = .ok (.aload_n 0, 1) := by decide +kernel
theorem dX0_putPage_48 : decode cX0_putPage 48 = .ok (.dup, 1) := by decide +kernel
theorem dX0_putPage_49 : decode cX0_putPage 49 = .ok (.getfield 45, 3) := by decide +kernel
theorem dX0_putPage_52 : decode cX0_putPage 52 = .ok (.iconst 1, 1) := by decide +kernel
theorem dX0_putPage_53 : decode cX0_putPage 53 = .ok (.iadd, 1) := by decide +kernel
theorem dX0_putPage_54 : decode cX0_putPage 54 = .ok (.putfield 45, 3) := by decide +kernel
theorem dX0_putPage_57 : decode cX0_putPage 57 = .ok (.aload_n 0, 1) := by decide +kernel
theorem dX0_putPage_58 : decode cX0_putPage 58 = .ok (.getfield 29, 3) := by decide +kernel
theorem dX0_putPage_61 : decode cX0_putPage 61 = .ok (.iload_n 1, 1) := by decide +kernel
theorem dX0_putPage_62 : decode cX0_putPage 62 = .ok (.aaload, 1) := by decide +kernel
theorem dX0_putPage_63 : decode cX0_putPage 63 = .ok (.iload_n 2, 1) := by decide +kernel
theorem dX0_putPage_64 : decode cX0_putPage 64 = .ok (.aload_n 0, 1) := by decide +kernel
theorem dX0_putPage_65 : decode cX0_putPage 65 = .ok (.getfield 45, 3) := by decide +kernel
theorem dX0_putPage_68 : decode cX0_putPage 68 = .ok (.iastore, 1) := by decide +kernel
theorem dX0_putPage_69 : decode cX0_putPage 69 = .ok (.iload_n 3, 1) := by decide +kernel
theorem dX0_putPage_70 : decode cX0_putPage 70 = .ok (.ireturn, 1) := by decide +kernel
theorem dX0_dropPage_0 : decode cX0_dropPage 0 = .ok (.aload_n 0, 1) := by decide +kernel
theorem dX0_dropPage_1 : decode cX0_dropPage 1 = .ok (.iload_n 1, 1) := by decide +kernel
theorem dX0_dropPage_2 : decode cX0_dropPage 2 = .ok (.iload_n 2, 1) := by decide +kernel
theorem dX0_dropPage_3 : decode cX0_dropPage 3 = .ok (.invokevirtual 123, 3) := by decide +kernel
theorem dX0_dropPage_6 : decode cX0_dropPage 6 = .ok (.ifCond .ne 5, 3) := by decide +kernel
theorem dX0_dropPage_9 : decode cX0_dropPage 9 = .ok (.iconst 0, 1) := by decide +kernel
theorem dX0_dropPage_10 : decode cX0_dropPage 10 = .ok (.ireturn, 1) := by decide +kernel
theorem dX0_dropPage_11 : decode cX0_dropPage 11 = .ok (.aload_n 0, 1) := by decide +kernel
theorem dX0_dropPage_12 : decode cX0_dropPage 12 = .ok (.getfield 29, 3) := by decide +kernel
theorem dX0_dropPage_15 : decode cX0_dropPage 15 = .ok (.iload_n 1, 1) := by decide +kernel
theorem dX0_dropPage_16 : decode cX0_dropPage 16 = .ok (.aaload, 1) := by decide +kernel
theorem dX0_dropPage_17 : decode cX0_dropPage 17 = .ok (.iload_n 2, 1) := by decide +kernel
theorem dX0_dropPage_18 : decode cX0_dropPage 18 = .ok (.iconst 0, 1) := by decide +kernel
theorem dX0_dropPage_19 : decode cX0_dropPage 19 = .ok (.iastore, 1) := by decide +kernel
theorem dX0_dropPage_20 : decode cX0_dropPage 20 = .ok (.aload_n 0, 1) := by decide +kernel
theorem dX0_dropPage_21 : decode cX0_dropPage 21 = .ok (.iload_n 1, 1) := by decide +kernel
theorem dX0_dropPage_22 : decode cX0_dropPage 22 = .ok (.invokevirtual 129, 3) := by decide +kernel
theorem dX0_dropPage_25 : decode cX0_dropPage 25 = .ok (.istore_n 3, 1) := by decide +kernel
theorem dX0_dropPage_26 : decode cX0_dropPage 26 = .ok (.iload_n 3, 1) := by decide +kernel
theorem dX0_dropPage_27 : decode cX0_dropPage 27 = .ok (.iconst (-1), 1) := by decide +kernel
theorem dX0_dropPage_28 : decode cX0_dropPage 28 = .ok (.if_icmp .eq 18, 3) := by decide +kernel
theorem dX0_dropPage_31 : decode cX0_dropPage 31 = .ok (.aload_n 0, 1) := by decide +kernel
theorem dX0_dropPage_32 : decode cX0_dropPage 32 = .ok (.getfield 26, 3) := by decide +kernel
theorem dX0_dropPage_35 : decode cX0_dropPage 35 = .ok (.iload_n 1, 1) := by decide +kernel
theorem dX0_dropPage_36 : decode cX0_dropPage 36 = .ok (.aaload, 1) := by decide +kernel
theorem dX0_dropPage_37 : decode cX0_dropPage 37 = .ok (.iload_n 3, 1) := by decide +kernel
theorem dX0_dropPage_38 : decode cX0_dropPage 38 = .ok (.dup2, 1) := by decide +kernel
theorem dX0_dropPage_39 : decode cX0_dropPage 39 = .ok (.iaload, 1) := by decide +kernel
theorem dX0_dropPage_40 : decode cX0_dropPage 40 = .ok (.iconst 1, 1) := by decide +kernel
theorem dX0_dropPage_41 : decode cX0_dropPage 41 = .ok (.isub, 1) := by decide +kernel
theorem dX0_dropPage_42 : decode cX0_dropPage 42 = .ok (.iastore, 1) := by decide +kernel
theorem dX0_dropPage_43 : decode cX0_dropPage 43 = .ok (.goto 35, 3) := by decide +kernel
theorem dX0_dropPage_46 : decode cX0_dropPage 46 = .ok (.aload_n 0, 1) := by decide +kernel
theorem dX0_dropPage_47 : decode cX0_dropPage 47 = .ok (.getfield 21, 3) := by decide +kernel
theorem dX0_dropPage_50 : decode cX0_dropPage 50 = .ok (.iload_n 1, 1) := by decide +kernel
theorem dX0_dropPage_51 : decode cX0_dropPage 51 = .ok (.iaload, 1) := by decide +kernel
theorem dX0_dropPage_52 : decode cX0_dropPage 52 = .ok (.ifCond .le 16, 3) := by decide +kernel
theorem dX0_dropPage_55 : decode cX0_dropPage 55 = .ok (.aload_n 0, 1) := by decide +kernel
theorem dX0_dropPage_56 : decode cX0_dropPage 56 = .ok (.getfield 21, 3) := by decide +kernel
theorem dX0_dropPage_59 : decode cX0_dropPage 59 = .ok (.iload_n 1, 1) := by decide +kernel
theorem dX0_dropPage_60 : decode cX0_dropPage 60 = .ok (.dup2, 1) := by decide +kernel
theorem dX0_dropPage_61 : decode cX0_dropPage 61 = .ok (.iaload, 1) := by decide +kernel
theorem dX0_dropPage_62 : decode cX0_dropPage 62 = .ok (.iconst 1, 1) := by decide +kernel
theorem dX0_dropPage_63 : decode cX0_dropPage 63 = .ok (.isub, 1) := by decide +kernel
theorem dX0_dropPage_64 : decode cX0_dropPage 64 = .ok (.iastore, 1) := by decide +kernel
theorem dX0_dropPage_65 : decode cX0_dropPage 65 = .ok (.goto 13, 3) := by decide +kernel
theorem dX0_dropPage_68 : decode cX0_dropPage 68 = .ok (.aload_n 0, 1) := by decide +kernel
theorem dX0_dropPage_69 : decode cX0_dropPage 69 = .ok (.getfield 18, 3) := by decide +kernel
theorem dX0_dropPage_72 : decode cX0_dropPage 72 = .ok (.iload_n 1, 1) := by decide +kernel
theorem dX0_dropPage_73 : decode cX0_dropPage 73 = .ok (.dup2, 1) := by decide +kernel
theorem dX0_dropPage_74 : decode cX0_dropPage 74 = .ok (.iaload, 1) := by decide +kernel
theorem dX0_dropPage_75 : decode cX0_dropPage 75 = .ok (.iconst 1, 1) := by decide +kernel
theorem dX0_dropPage_76 : decode cX0_dropPage 76 = .ok (.isub, 1) := by decide +kernel
theorem dX0_dropPage_77 : decode cX0_dropPage 77 = .ok (.iastore, 1) := by decide +kernel
theorem dX0_dropPage_78 : decode cX0_dropPage 78 = .ok (.iconst 1, 1) := by decide +kernel
theorem dX0_dropPage_79 : decode cX0_dropPage 79 = .ok (.ireturn, 1) := by decide +kernel
theorem dX0_takeBlock_0 : decode cX0_takeBlock 0 = .ok (.aload_n 0, 1) := by decide +kernel
theorem dX0_takeBlock_1 : decode cX0_takeBlock 1 = .ok (.iload_n 1, 1) := by decide +kernel
theorem dX0_takeBlock_2 : decode cX0_takeBlock 2 = .ok (.invokevirtual 76, 3) := by decide +kernel
theorem dX0_takeBlock_5 : decode cX0_takeBlock 5 = .ok (.aload_n 0, 1) := by decide +kernel
theorem dX0_takeBlock_6 : decode cX0_takeBlock 6 = .ok (.getfield 15, 3) := by decide +kernel
theorem dX0_takeBlock_9 : decode cX0_takeBlock 9 = .ok (.iload_n 1, 1) := by decide +kernel
theorem dX0_takeBlock_10 : decode cX0_takeBlock 10 = .ok (.iaload, 1) := by decide +kernel
theorem dX0_takeBlock_11 : decode cX0_takeBlock 11 = .ok (.if_icmp .lt 5, 3) := by decide +kernel
theorem dX0_takeBlock_14 : decode cX0_takeBlock 14 = .ok (.iconst 5, 1) := by decide +kernel
theorem dX0_takeBlock_15 : decode cX0_takeBlock 15 = .ok (.ireturn, 1) := by decide +kernel
theorem dX0_takeBlock_16 : decode cX0_takeBlock 16 = .ok (.aload_n 0, 1) := by decide +kernel
theorem dX0_takeBlock_17 : decode cX0_takeBlock 17 = .ok (.iload_n 1, 1) := by decide +kernel
theorem dX0_takeBlock_18 : decode cX0_takeBlock 18 = .ok (.invokevirtual 80, 3) := by decide +kernel
theorem dX0_takeBlock_21 : decode cX0_takeBlock 21 = .ok (.ifCond .le 15, 3) := by decide +kernel
theorem dX0_takeBlock_24 : decode cX0_takeBlock 24 = .ok (.aload_n 0, 1) := by decide +kernel
theorem dX0_takeBlock_25 : decode cX0_takeBlock 25 = .ok (.getfield 18, 3) := by decide +kernel
theorem dX0_takeBlock_28 : decode cX0_takeBlock 28 = .ok (.iload_n 1, 1) := by decide +kernel
theorem dX0_takeBlock_29 : decode cX0_takeBlock 29 = .ok (.dup2, 1) := by decide +kernel
theorem dX0_takeBlock_30 : decode cX0_takeBlock 30 = .ok (.iaload, 1) := by decide +kernel
theorem dX0_takeBlock_31 : decode cX0_takeBlock 31 = .ok (.iconst 1, 1) := by decide +kernel
theorem dX0_takeBlock_32 : decode cX0_takeBlock 32 = .ok (.iadd, 1) := by decide +kernel
theorem dX0_takeBlock_33 : decode cX0_takeBlock 33 = .ok (.iastore, 1) := by decide +kernel
theorem dX0_takeBlock_34 : decode cX0_takeBlock 34 = .ok (.iconst 1, 1) := by decide +kernel
theorem dX0_takeBlock_35 : decode cX0_takeBlock 35 = .ok (.ireturn, 1) := by decide +kernel
theorem dX0_takeBlock_36 : decode cX0_takeBlock 36 = .ok (.aload_n 0, 1) := by decide +kernel
theorem dX0_takeBlock_37 : decode cX0_takeBlock 37 = .ok (.getfield 18, 3) := by decide +kernel
theorem dX0_takeBlock_40 : decode cX0_takeBlock 40 = .ok (.iload_n 1, 1) := by decide +kernel
theorem dX0_takeBlock_41 : decode cX0_takeBlock 41 = .ok (.iaload, 1) := by decide +kernel
theorem dX0_takeBlock_42 : decode cX0_takeBlock 42 = .ok (.aload_n 0, 1) := by decide +kernel
theorem dX0_takeBlock_43 : decode cX0_takeBlock 43 = .ok (.getfield 9, 3) := by decide +kernel
theorem dX0_takeBlock_46 : decode cX0_takeBlock 46 = .ok (.iload_n 1, 1) := by decide +kernel
theorem dX0_takeBlock_47 : decode cX0_takeBlock 47 = .ok (.iaload, 1) := by decide +kernel
theorem dX0_takeBlock_48 : decode cX0_takeBlock 48 = .ok (.if_icmp .ge 20, 3) := by decide +kernel
theorem dX0_takeBlock_51 : decode cX0_takeBlock 51 = .ok (.aload_n 0, 1) := by decide +kernel
theorem dX0_takeBlock_52 : decode cX0_takeBlock 52 = .ok (.iload_n 1, 1) := by decide +kernel
theorem dX0_takeBlock_53 : decode cX0_takeBlock 53 = .ok (.invokevirtual 132, 3) := by decide +kernel
theorem dX0_takeBlock_56 : decode cX0_takeBlock 56 = .ok (.aload_n 0, 1) := by decide +kernel
theorem dX0_takeBlock_57 : decode cX0_takeBlock 57 = .ok (.getfield 18, 3) := by decide +kernel
theorem dX0_takeBlock_60 : decode cX0_takeBlock 60 = .ok (.iload_n 1, 1) := by decide +kernel
theorem dX0_takeBlock_61 : decode cX0_takeBlock 61 = .ok (.dup2, 1) := by decide +kernel
theorem dX0_takeBlock_62 : decode cX0_takeBlock 62 = .ok (.iaload, 1) := by decide +kernel
theorem dX0_takeBlock_63 : decode cX0_takeBlock 63 = .ok (.iconst 1, 1) := by decide +kernel
theorem dX0_takeBlock_64 : decode cX0_takeBlock 64 = .ok (.iadd, 1) := by decide +kernel
theorem dX0_takeBlock_65 : decode cX0_takeBlock 65 = .ok (.iastore, 1) := by decide +kernel
theorem dX0_takeBlock_66 : decode cX0_takeBlock 66 = .ok (.iconst 2, 1) := by decide +kernel
theorem dX0_takeBlock_67 : decode cX0_takeBlock 67 = .ok (.ireturn, 1) := by decide +kernel
theorem dX0_takeBlock_68 : decode cX0_takeBlock 68 = .ok (.aload_n 0, 1) := by decide +kernel
theorem dX0_takeBlock_69 : decode cX0_takeBlock 69 = .ok (.invokevirtual 90, 3) := by decide +kernel
theorem dX0_takeBlock_72 : decode cX0_takeBlock 72 = .ok (.ifCond .le 15, 3) := by decide +kernel
theorem dX0_takeBlock_75 : decode cX0_takeBlock 75 = .ok (.aload_n 0, 1) := by decide +kernel
theorem dX0_takeBlock_76 : decode cX0_takeBlock 76 = .ok (.getfield 21, 3) := by decide +kernel
theorem dX0_takeBlock_79 : decode cX0_takeBlock 79 = .ok (.iload_n 1, 1) := by decide +kernel
theorem dX0_takeBlock_80 : decode cX0_takeBlock 80 = .ok (.dup2, 1) := by decide +kernel
theorem dX0_takeBlock_81 : decode cX0_takeBlock 81 = .ok (.iaload, 1) := by decide +kernel
theorem dX0_takeBlock_82 : decode cX0_takeBlock 82 = .ok (.iconst 1, 1) := by decide +kernel
theorem dX0_takeBlock_83 : decode cX0_takeBlock 83 = .ok (.iadd, 1) := by decide +kernel
theorem dX0_takeBlock_84 : decode cX0_takeBlock 84 = .ok (.iastore, 1) := by decide +kernel
theorem dX0_takeBlock_85 : decode cX0_takeBlock 85 = .ok (.iconst 3, 1) := by decide +kernel
theorem dX0_takeBlock_86 : decode cX0_takeBlock 86 = .ok (.ireturn, 1) := by decide +kernel
theorem dX0_takeBlock_87 : decode cX0_takeBlock 87 = .ok (.aload_n 0, 1) := by decide +kernel
theorem dX0_takeBlock_88 : decode cX0_takeBlock 88 = .ok (.iload_n 1, 1) := by decide +kernel
theorem dX0_takeBlock_89 : decode cX0_takeBlock 89 = .ok (.iload_n 1, 1) := by decide +kernel
theorem dX0_takeBlock_90 : decode cX0_takeBlock 90 = .ok (.invokevirtual 136, 3) := by decide +kernel
theorem dX0_takeBlock_93 : decode cX0_takeBlock 93 = .ok (.istore_n 2, 1) := by decide +kernel
theorem dX0_takeBlock_94 : decode cX0_takeBlock 94 = .ok (.iload_n 2, 1) := by decide +kernel
theorem dX0_takeBlock_95 : decode cX0_takeBlock 95 = .ok (.iconst (-1), 1) := by decide +kernel
theorem dX0_takeBlock_96 : decode cX0_takeBlock 96 = .ok (.if_icmp .ne 5, 3) := by decide +kernel
theorem dX0_takeBlock_99 : decode cX0_takeBlock 99 = .ok (.iconst 5, 1) := by decide +kernel
theorem dX0_takeBlock_100 : decode cX0_takeBlock 100 = .ok (.ireturn, 1) := by decide +kernel
theorem dX0_takeBlock_101 : decode cX0_takeBlock 101 = .ok (.aload_n 0, 1) := by decide +kernel
theorem dX0_takeBlock_102 : decode cX0_takeBlock 102 = .ok (.getfield 26, 3) := by decide +kernel
theorem dX0_takeBlock_105 : decode cX0_takeBlock 105 = .ok (.iload_n 1, 1) := by decide +kernel
theorem dX0_takeBlock_106 : decode cX0_takeBlock 106 = .ok (.aaload, 1) := by decide +kernel
theorem dX0_takeBlock_107 : decode cX0_takeBlock 107 = .ok (.iload_n 2, 1) := by decide +kernel
theorem dX0_takeBlock_108 : decode cX0_takeBlock 108 = .ok (.dup2, 1) := by decide +kernel
theorem dX0_takeBlock_109 : decode cX0_takeBlock 109 = .ok (.iaload, 1) := by decide +kernel
theorem dX0_takeBlock_110 : decode cX0_takeBlock 110 = .ok (.iconst 1, 1) := by decide +kernel
theorem dX0_takeBlock_111 : decode cX0_takeBlock 111 = .ok (.iadd, 1) := by decide +kernel
theorem dX0_takeBlock_112 : decode cX0_takeBlock 112 = .ok (.iastore, 1) := by decide +kernel
theorem dX0_takeBlock_113 : decode cX0_takeBlock 113 = .ok (.iconst 4, 1) := by decide +kernel
theorem dX0_takeBlock_114 : decode cX0_takeBlock 114 = .ok (.ireturn, 1) := by decide +kernel
theorem dX0_recallLoan_0 : decode cX0_recallLoan 0 = .ok (.aload_n 0, 1) := by decide +kernel
theorem dX0_recallLoan_1 : decode cX0_recallLoan 1 = .ok (.iload_n 1, 1) := by decide +kernel
theorem dX0_recallLoan_2 : decode cX0_recallLoan 2 = .ok (.invokevirtual 139, 3) := by decide +kernel
theorem dX0_recallLoan_5 : decode cX0_recallLoan 5 = .ok (.istore_n 2, 1) := by decide +kernel
theorem dX0_recallLoan_6 : decode cX0_recallLoan 6 = .ok (.iload_n 2, 1) := by decide +kernel
theorem dX0_recallLoan_7 : decode cX0_recallLoan 7 = .ok (.iconst (-1), 1) := by decide +kernel
theorem dX0_recallLoan_8 : decode cX0_recallLoan 8 = .ok (.if_icmp .ne 4, 3) := by decide +kernel
theorem dX0_recallLoan_11 : decode cX0_recallLoan 11 = .ok (.return_, 1) := by decide +kernel
theorem dX0_recallLoan_12 : decode cX0_recallLoan 12 = .ok (.aload_n 0, 1) := by decide +kernel
theorem dX0_recallLoan_13 : decode cX0_recallLoan 13 = .ok (.getfield 26, 3) := by decide +kernel
theorem dX0_recallLoan_16 : decode cX0_recallLoan 16 = .ok (.iload_n 2, 1) := by decide +kernel
theorem dX0_recallLoan_17 : decode cX0_recallLoan 17 = .ok (.aaload, 1) := by decide +kernel
theorem dX0_recallLoan_18 : decode cX0_recallLoan 18 = .ok (.iload_n 1, 1) := by decide +kernel
theorem dX0_recallLoan_19 : decode cX0_recallLoan 19 = .ok (.dup2, 1) := by decide +kernel
theorem dX0_recallLoan_20 : decode cX0_recallLoan 20 = .ok (.iaload, 1) := by decide +kernel
theorem dX0_recallLoan_21 : decode cX0_recallLoan 21 = .ok (.iconst 1, 1) := by decide +kernel
theorem dX0_recallLoan_22 : decode cX0_recallLoan 22 = .ok (.isub, 1) := by decide +kernel
theorem dX0_recallLoan_23 : decode cX0_recallLoan 23 = .ok (.iastore, 1) := by decide +kernel
theorem dX0_recallLoan_24 : decode cX0_recallLoan 24 = .ok (.aload_n 0, 1) := by decide +kernel
theorem dX0_recallLoan_25 : decode cX0_recallLoan 25 = .ok (.getfield 32, 3) := by decide +kernel
theorem dX0_recallLoan_28 : decode cX0_recallLoan 28 = .ok (.iload_n 1, 1) := by decide +kernel
theorem dX0_recallLoan_29 : decode cX0_recallLoan 29 = .ok (.dup2, 1) := by decide +kernel
theorem dX0_recallLoan_30 : decode cX0_recallLoan 30 = .ok (.iaload, 1) := by decide +kernel
theorem dX0_recallLoan_31 : decode cX0_recallLoan 31 = .ok (.iconst 1, 1) := by decide +kernel
theorem dX0_recallLoan_32 : decode cX0_recallLoan 32 = .ok (.iadd, 1) := by decide +kernel
theorem dX0_recallLoan_33 : decode cX0_recallLoan 33 = .ok (.iastore, 1) := by decide +kernel
theorem dX0_recallLoan_34 : decode cX0_recallLoan 34 = .ok (.aload_n 0, 1) := by decide +kernel
theorem dX0_recallLoan_35 : decode cX0_recallLoan 35 = .ok (.iload_n 2, 1) := by decide +kernel
theorem dX0_recallLoan_36 : decode cX0_recallLoan 36 = .ok (.invokevirtual 80, 3) := by decide +kernel
theorem dX0_recallLoan_39 : decode cX0_recallLoan 39 = .ok (.ifCond .le 14, 3) := by decide +kernel
theorem dX0_recallLoan_42 : decode cX0_recallLoan 42 = .ok (.aload_n 0, 1) := by decide +kernel
theorem dX0_recallLoan_43 : decode cX0_recallLoan 43 = .ok (.getfield 18, 3) := by decide +kernel
theorem dX0_recallLoan_46 : decode cX0_recallLoan 46 = .ok (.iload_n 2, 1) := by decide +kernel
theorem dX0_recallLoan_47 : decode cX0_recallLoan 47 = .ok (.dup2, 1) := by decide +kernel
theorem dX0_recallLoan_48 : decode cX0_recallLoan 48 = .ok (.iaload, 1) := by decide +kernel
theorem dX0_recallLoan_49 : decode cX0_recallLoan 49 = .ok (.iconst 1, 1) := by decide +kernel
theorem dX0_recallLoan_50 : decode cX0_recallLoan 50 = .ok (.iadd, 1) := by decide +kernel
theorem dX0_recallLoan_51 : decode cX0_recallLoan 51 = .ok (.iastore, 1) := by decide +kernel
theorem dX0_recallLoan_52 : decode cX0_recallLoan 52 = .ok (.return_, 1) := by decide +kernel
theorem dX0_recallLoan_53 : decode cX0_recallLoan 53 = .ok (.aload_n 0, 1) := by decide +kernel
theorem dX0_recallLoan_54 : decode cX0_recallLoan 54 = .ok (.invokevirtual 90, 3) := by decide +kernel
theorem dX0_recallLoan_57 : decode cX0_recallLoan 57 = .ok (.ifCond .le 14, 3) := by decide +kernel
theorem dX0_recallLoan_60 : decode cX0_recallLoan 60 = .ok (.aload_n 0, 1) := by decide +kernel
theorem dX0_recallLoan_61 : decode cX0_recallLoan 61 = .ok (.getfield 21, 3) := by decide +kernel
theorem dX0_recallLoan_64 : decode cX0_recallLoan 64 = .ok (.iload_n 2, 1) := by decide +kernel
theorem dX0_recallLoan_65 : decode cX0_recallLoan 65 = .ok (.dup2, 1) := by decide +kernel
theorem dX0_recallLoan_66 : decode cX0_recallLoan 66 = .ok (.iaload, 1) := by decide +kernel
theorem dX0_recallLoan_67 : decode cX0_recallLoan 67 = .ok (.iconst 1, 1) := by decide +kernel
theorem dX0_recallLoan_68 : decode cX0_recallLoan 68 = .ok (.iadd, 1) := by decide +kernel
theorem dX0_recallLoan_69 : decode cX0_recallLoan 69 = .ok (.iastore, 1) := by decide +kernel
theorem dX0_recallLoan_70 : decode cX0_recallLoan 70 = .ok (.return_, 1) := by decide +kernel
theorem dX0_recallLoan_71 : decode cX0_recallLoan 71 = .ok (.aload_n 0, 1) := by decide +kernel
theorem dX0_recallLoan_72 : decode cX0_recallLoan 72 = .ok (.iload_n 2, 1) := by decide +kernel
theorem dX0_recallLoan_73 : decode cX0_recallLoan 73 = .ok (.iload_n 1, 1) := by decide +kernel
theorem dX0_recallLoan_74 : decode cX0_recallLoan 74 = .ok (.invokevirtual 136, 3) := by decide +kernel
theorem dX0_recallLoan_77 : decode cX0_recallLoan 77 = .ok (.istore_n 3, 1) := by decide +kernel
theorem dX0_recallLoan_78 : decode cX0_recallLoan 78 = .ok (.iload_n 3, 1) := by decide +kernel
theorem dX0_recallLoan_79 : decode cX0_recallLoan 79 = .ok (.iconst (-1), 1) := by decide +kernel
theorem dX0_recallLoan_80 : decode cX0_recallLoan 80 = .ok (.if_icmp .eq 18, 3) := by decide +kernel
theorem dX0_recallLoan_83 : decode cX0_recallLoan 83 = .ok (.aload_n 0, 1) := by decide +kernel
theorem dX0_recallLoan_84 : decode cX0_recallLoan 84 = .ok (.getfield 26, 3) := by decide +kernel
theorem dX0_recallLoan_87 : decode cX0_recallLoan 87 = .ok (.iload_n 2, 1) := by decide +kernel
theorem dX0_recallLoan_88 : decode cX0_recallLoan 88 = .ok (.aaload, 1) := by decide +kernel
theorem dX0_recallLoan_89 : decode cX0_recallLoan 89 = .ok (.iload_n 3, 1) := by decide +kernel
theorem dX0_recallLoan_90 : decode cX0_recallLoan 90 = .ok (.dup2, 1) := by decide +kernel
theorem dX0_recallLoan_91 : decode cX0_recallLoan 91 = .ok (.iaload, 1) := by decide +kernel
theorem dX0_recallLoan_92 : decode cX0_recallLoan 92 = .ok (.iconst 1, 1) := by decide +kernel
theorem dX0_recallLoan_93 : decode cX0_recallLoan 93 = .ok (.iadd, 1) := by decide +kernel
theorem dX0_recallLoan_94 : decode cX0_recallLoan 94 = .ok (.iastore, 1) := by decide +kernel
theorem dX0_recallLoan_95 : decode cX0_recallLoan 95 = .ok (.goto 8, 3) := by decide +kernel
theorem dX0_recallLoan_98 : decode cX0_recallLoan 98 = .ok (.aload_n 0, 1) := by decide +kernel
theorem dX0_recallLoan_99 : decode cX0_recallLoan 99 = .ok (.iload_n 2, 1) := by decide +kernel
theorem dX0_recallLoan_100 : decode cX0_recallLoan 100 = .ok (.invokevirtual 142, 3) := by decide +kernel
theorem dX0_recallLoan_103 : decode cX0_recallLoan 103 = .ok (.return_, 1) := by decide +kernel
theorem dX0_loseOldest_0 : decode cX0_loseOldest 0 = .ok (.aload_n 0, 1) := by decide +kernel
theorem dX0_loseOldest_1 : decode cX0_loseOldest 1 = .ok (.iload_n 1, 1) := by decide +kernel
theorem dX0_loseOldest_2 : decode cX0_loseOldest 2 = .ok (.iconst 0, 1) := by decide +kernel
theorem dX0_loseOldest_3 : decode cX0_loseOldest 3 = .ok (.invokevirtual 102, 3) := by decide +kernel
theorem dX0_loseOldest_6 : decode cX0_loseOldest 6 = .ok (.istore_n 2, 1) := by decide +kernel
theorem dX0_loseOldest_7 : decode cX0_loseOldest 7 = .ok (.iload_n 2, 1) := by decide +kernel
theorem dX0_loseOldest_8 : decode cX0_loseOldest 8 = .ok (.iconst (-1), 1) := by decide +kernel
theorem dX0_loseOldest_9 : decode cX0_loseOldest 9 = .ok (.if_icmp .eq 22, 3) := by decide +kernel
theorem dX0_loseOldest_12 : decode cX0_loseOldest 12 = .ok (.aload_n 0, 1) := by decide +kernel
theorem dX0_loseOldest_13 : decode cX0_loseOldest 13 = .ok (.getfield 29, 3) := by decide +kernel
theorem dX0_loseOldest_16 : decode cX0_loseOldest 16 = .ok (.iload_n 1, 1) := by decide +kernel
theorem dX0_loseOldest_17 : decode cX0_loseOldest 17 = .ok (.aaload, 1) := by decide +kernel
theorem dX0_loseOldest_18 : decode cX0_loseOldest 18 = .ok (.iload_n 2, 1) := by decide +kernel
theorem dX0_loseOldest_19 : decode cX0_loseOldest 19 = .ok (.iconst 0, 1) := by decide +kernel
theorem dX0_loseOldest_20 : decode cX0_loseOldest 20 = .ok (.iastore, 1) := by decide +kernel
theorem dX0_loseOldest_21 : decode cX0_loseOldest 21 = .ok (.aload_n 0, 1) := by decide +kernel
theorem dX0_loseOldest_22 : decode cX0_loseOldest 22 = .ok (.getfield 35, 3) := by decide +kernel
theorem dX0_loseOldest_25 : decode cX0_loseOldest 25 = .ok (.iload_n 1, 1) := by decide +kernel
theorem dX0_loseOldest_26 : decode cX0_loseOldest 26 = .ok (.dup2, 1) := by decide +kernel
theorem dX0_loseOldest_27 : decode cX0_loseOldest 27 = .ok (.iaload, 1) := by decide +kernel
theorem dX0_loseOldest_28 : decode cX0_loseOldest 28 = .ok (.iconst 1, 1) := by decide +kernel
theorem dX0_loseOldest_29 : decode cX0_loseOldest 29 = .ok (.iadd, 1) := by decide +kernel
theorem dX0_loseOldest_30 : decode cX0_loseOldest 30 = .ok (.iastore, 1) := by decide +kernel
theorem dX0_loseOldest_31 : decode cX0_loseOldest 31 = .ok (.return_, 1) := by decide +kernel
theorem dX0_greatestBorrower_0 : decode cX0_greatestBorrower 0 = .ok (.iconst (-1), 1) := by decide +kernel
theorem dX0_greatestBorrower_1 : decode cX0_greatestBorrower 1 = .ok (.istore_n 2, 1) := by decide +kernel
theorem dX0_greatestBorrower_2 : decode cX0_greatestBorrower 2 = .ok (.iconst 0, 1) := by decide +kernel
theorem dX0_greatestBorrower_3 : decode cX0_greatestBorrower 3 = .ok (.istore_n 3, 1) := by decide +kernel
theorem dX0_greatestBorrower_4 : decode cX0_greatestBorrower 4 = .ok (.iload_n 3, 1) := by decide +kernel
theorem dX0_greatestBorrower_5 : decode cX0_greatestBorrower 5 = .ok (.aload_n 0, 1) := by decide +kernel
theorem dX0_greatestBorrower_6 : decode cX0_greatestBorrower 6 = .ok (.getfield 41, 3) := by decide +kernel
theorem dX0_greatestBorrower_9 : decode cX0_greatestBorrower 9 = .ok (.if_icmp .ge 39, 3) := by decide +kernel
theorem dX0_greatestBorrower_12 : decode cX0_greatestBorrower 12 = .ok (.aload_n 0, 1) := by decide +kernel
theorem dX0_greatestBorrower_13 : decode cX0_greatestBorrower 13 = .ok (.getfield 26, 3) := by decide +kernel
theorem dX0_greatestBorrower_16 : decode cX0_greatestBorrower 16 = .ok (.iload_n 3, 1) := by decide +kernel
theorem dX0_greatestBorrower_17 : decode cX0_greatestBorrower 17 = .ok (.aaload, 1) := by decide +kernel
theorem dX0_greatestBorrower_18 : decode cX0_greatestBorrower 18 = .ok (.iload_n 1, 1) := by decide +kernel
theorem dX0_greatestBorrower_19 : decode cX0_greatestBorrower 19 = .ok (.iaload, 1) := by decide +kernel
theorem dX0_greatestBorrower_20 : decode cX0_greatestBorrower 20 = .ok (.iload_n 2, 1) := by decide +kernel
theorem dX0_greatestBorrower_21 : decode cX0_greatestBorrower 21 = .ok (.iconst (-1), 1) := by decide +kernel
theorem dX0_greatestBorrower_22 : decode cX0_greatestBorrower 22 = .ok (.if_icmp .ne 7, 3) := by decide +kernel
theorem dX0_greatestBorrower_25 : decode cX0_greatestBorrower 25 = .ok (.iconst 0, 1) := by decide +kernel
theorem dX0_greatestBorrower_26 : decode cX0_greatestBorrower 26 = .ok (.goto 11, 3) := by decide +kernel
theorem dX0_greatestBorrower_29 : decode cX0_greatestBorrower 29 = .ok (.aload_n 0, 1) := by decide +kernel
theorem dX0_greatestBorrower_30 : decode cX0_greatestBorrower 30 = .ok (.getfield 26, 3) := by decide +kernel
theorem dX0_greatestBorrower_33 : decode cX0_greatestBorrower 33 = .ok (.iload_n 2, 1) := by decide +kernel
theorem dX0_greatestBorrower_34 : decode cX0_greatestBorrower 34 = .ok (.aaload, 1) := by decide +kernel
theorem dX0_greatestBorrower_35 : decode cX0_greatestBorrower 35 = .ok (.iload_n 1, 1) := by decide +kernel
theorem dX0_greatestBorrower_36 : decode cX0_greatestBorrower 36 = .ok (.iaload, 1) := by decide +kernel
theorem dX0_greatestBorrower_37 : decode cX0_greatestBorrower 37 = .ok (.if_icmp .le 5, 3) := by decide +kernel
theorem dX0_greatestBorrower_40 : decode cX0_greatestBorrower 40 = .ok (.iload_n 3, 1) := by decide +kernel
theorem dX0_greatestBorrower_41 : decode cX0_greatestBorrower 41 = .ok (.istore_n 2, 1) := by decide +kernel
theorem dX0_greatestBorrower_42 : decode cX0_greatestBorrower 42 = .ok (.iinc 3 1, 3) := by decide +kernel
theorem dX0_greatestBorrower_45 : decode cX0_greatestBorrower 45 = .ok (.goto (-41), 3) := by decide +kernel
theorem dX0_greatestBorrower_48 : decode cX0_greatestBorrower 48 = .ok (.iload_n 2, 1) := by decide +kernel
theorem dX0_greatestBorrower_49 : decode cX0_greatestBorrower 49 = .ok (.ireturn, 1) := by decide +kernel
theorem dX0_greatestLender_0 : decode cX0_greatestLender 0 = .ok (.iconst (-1), 1) := by decide +kernel
theorem dX0_greatestLender_1 : decode cX0_greatestLender 1 = .ok (.istore_n 2, 1) := by decide +kernel
theorem dX0_greatestLender_2 : decode cX0_greatestLender 2 = .ok (.iconst 0, 1) := by decide +kernel
theorem dX0_greatestLender_3 : decode cX0_greatestLender 3 = .ok (.istore_n 3, 1) := by decide +kernel
theorem dX0_greatestLender_4 : decode cX0_greatestLender 4 = .ok (.iload_n 3, 1) := by decide +kernel
theorem dX0_greatestLender_5 : decode cX0_greatestLender 5 = .ok (.aload_n 0, 1) := by decide +kernel
theorem dX0_greatestLender_6 : decode cX0_greatestLender 6 = .ok (.getfield 41, 3) := by decide +kernel
theorem dX0_greatestLender_9 : decode cX0_greatestLender 9 = .ok (.if_icmp .ge 39, 3) := by decide +kernel
theorem dX0_greatestLender_12 : decode cX0_greatestLender 12 = .ok (.aload_n 0, 1) := by decide +kernel
theorem dX0_greatestLender_13 : decode cX0_greatestLender 13 = .ok (.getfield 26, 3) := by decide +kernel
theorem dX0_greatestLender_16 : decode cX0_greatestLender 16 = .ok (.iload_n 1, 1) := by decide +kernel
theorem dX0_greatestLender_17 : decode cX0_greatestLender 17 = .ok (.aaload, 1) := by decide +kernel
theorem dX0_greatestLender_18 : decode cX0_greatestLender 18 = .ok (.iload_n 3, 1) := by decide +kernel
theorem dX0_greatestLender_19 : decode cX0_greatestLender 19 = .ok (.iaload, 1) := by decide +kernel
theorem dX0_greatestLender_20 : decode cX0_greatestLender 20 = .ok (.iload_n 2, 1) := by decide +kernel
theorem dX0_greatestLender_21 : decode cX0_greatestLender 21 = .ok (.iconst (-1), 1) := by decide +kernel
theorem dX0_greatestLender_22 : decode cX0_greatestLender 22 = .ok (.if_icmp .ne 7, 3) := by decide +kernel
theorem dX0_greatestLender_25 : decode cX0_greatestLender 25 = .ok (.iconst 0, 1) := by decide +kernel
theorem dX0_greatestLender_26 : decode cX0_greatestLender 26 = .ok (.goto 11, 3) := by decide +kernel
theorem dX0_greatestLender_29 : decode cX0_greatestLender 29 = .ok (.aload_n 0, 1) := by decide +kernel
theorem dX0_greatestLender_30 : decode cX0_greatestLender 30 = .ok (.getfield 26, 3) := by decide +kernel
theorem dX0_greatestLender_33 : decode cX0_greatestLender 33 = .ok (.iload_n 1, 1) := by decide +kernel
theorem dX0_greatestLender_34 : decode cX0_greatestLender 34 = .ok (.aaload, 1) := by decide +kernel
theorem dX0_greatestLender_35 : decode cX0_greatestLender 35 = .ok (.iload_n 2, 1) := by decide +kernel
theorem dX0_greatestLender_36 : decode cX0_greatestLender 36 = .ok (.iaload, 1) := by decide +kernel
theorem dX0_greatestLender_37 : decode cX0_greatestLender 37 = .ok (.if_icmp .le 5, 3) := by decide +kernel
theorem dX0_greatestLender_40 : decode cX0_greatestLender 40 = .ok (.iload_n 3, 1) := by decide +kernel
theorem dX0_greatestLender_41 : decode cX0_greatestLender 41 = .ok (.istore_n 2, 1) := by decide +kernel
theorem dX0_greatestLender_42 : decode cX0_greatestLender 42 = .ok (.iinc 3 1, 3) := by decide +kernel
theorem dX0_greatestLender_45 : decode cX0_greatestLender 45 = .ok (.goto (-41), 3) := by decide +kernel
theorem dX0_greatestLender_48 : decode cX0_greatestLender 48 = .ok (.iload_n 2, 1) := by decide +kernel
theorem dX0_greatestLender_49 : decode cX0_greatestLender 49 = .ok (.ireturn, 1) := by decide +kernel
theorem dX0_idlestBut_0 : decode cX0_idlestBut 0 = .ok (.iconst (-1), 1) := by decide +kernel
theorem dX0_idlestBut_1 : decode cX0_idlestBut 1 = .ok (.istore_n 3, 1) := by decide +kernel
theorem dX0_idlestBut_2 : decode cX0_idlestBut 2 = .ok (.iconst 0, 1) := by decide +kernel
theorem dX0_idlestBut_3 : decode cX0_idlestBut 3 = .ok (.istore 4, 2) := by decide +kernel
theorem dX0_idlestBut_5 : decode cX0_idlestBut 5 = .ok (.iconst 0, 1) := by decide +kernel
theorem dX0_idlestBut_6 : decode cX0_idlestBut 6 = .ok (.istore 5, 2) := by decide +kernel
theorem dX0_idlestBut_8 : decode cX0_idlestBut 8 = .ok (.iload 5, 2) := by decide +kernel
theorem dX0_idlestBut_10 : decode cX0_idlestBut 10 = .ok (.aload_n 0, 1) := by decide +kernel
theorem dX0_idlestBut_11 : decode cX0_idlestBut 11 = .ok (.getfield 41, 3) := by decide +kernel
theorem dX0_idlestBut_14 : decode cX0_idlestBut 14 = .ok (.if_icmp .ge 43, 3) := by decide +kernel
theorem dX0_idlestBut_17 : decode cX0_idlestBut 17 = .ok (.aload_n 0, 1) := by decide +kernel
theorem dX0_idlestBut_18 : decode cX0_idlestBut 18 = .ok (.iload 5, 2) := by decide +kernel
theorem dX0_idlestBut_20 : decode cX0_idlestBut 20 = .ok (.invokevirtual 80, 3) := by decide +kernel
theorem dX0_idlestBut_23 : decode cX0_idlestBut 23 = .ok (.istore 6, 2) := by decide +kernel
theorem dX0_idlestBut_25 : decode cX0_idlestBut 25 = .ok (.iload 5, 2) := by decide +kernel
theorem dX0_idlestBut_27 : decode cX0_idlestBut 27 = .ok (.iload_n 1, 1) := by decide +kernel
theorem dX0_idlestBut_28 : decode cX0_idlestBut 28 = .ok (.if_icmp .eq 23, 3) := by decide +kernel
theorem dX0_idlestBut_31 : decode cX0_idlestBut 31 = .ok (.iload 5, 2) := by decide +kernel
theorem dX0_idlestBut_33 : decode cX0_idlestBut 33 = .ok (.iload_n 2, 1) := by decide +kernel
theorem dX0_idlestBut_34 : decode cX0_idlestBut 34 = .ok (.if_icmp .eq 17, 3) := by decide +kernel
theorem dX0_idlestBut_37 : decode cX0_idlestBut 37 = .ok (.iload 6, 2) := by decide +kernel
theorem dX0_idlestBut_39 : decode cX0_idlestBut 39 = .ok (.iload 4, 2) := by decide +kernel
theorem dX0_idlestBut_41 : decode cX0_idlestBut 41 = .ok (.if_icmp .le 10, 3) := by decide +kernel
theorem dX0_idlestBut_44 : decode cX0_idlestBut 44 = .ok (.iload 5, 2) := by decide +kernel
theorem dX0_idlestBut_46 : decode cX0_idlestBut 46 = .ok (.istore_n 3, 1) := by decide +kernel
theorem dX0_idlestBut_47 : decode cX0_idlestBut 47 = .ok (.iload 6, 2) := by decide +kernel
theorem dX0_idlestBut_49 : decode cX0_idlestBut 49 = .ok (.istore 4, 2) := by decide +kernel
theorem dX0_idlestBut_51 : decode cX0_idlestBut 51 = .ok (.iinc 5 1, 3) := by decide +kernel
theorem dX0_idlestBut_54 : decode cX0_idlestBut 54 = .ok (.goto (-46), 3) := by decide +kernel
theorem dX0_idlestBut_57 : decode cX0_idlestBut 57 = .ok (.iload_n 3, 1) := by decide +kernel
theorem dX0_idlestBut_58 : decode cX0_idlestBut 58 = .ok (.ireturn, 1) := by decide +kernel
theorem dX1_init_0 : decode cX1_init 0 = .ok (.aload_n 0, 1) := by decide +kernel
theorem dX1_init_1 : decode cX1_init 1 = .ok (.invokespecial 3, 3) := by decide +kernel
theorem dX1_init_4 : decode cX1_init 4 = .ok (.aload_n 0, 1) := by decide +kernel
theorem dX1_init_5 : decode cX1_init 5 = .ok (.bipush 14, 2) := by decide +kernel
theorem dX1_init_7 : decode cX1_init 7 = .ok (.anewarray 9, 3) := by decide +kernel
theorem dX1_init_10 : decode cX1_init 10 = .ok (.putfield 11, 3) := by decide +kernel
theorem dX1_init_13 : decode cX1_init 13 = .ok (.iconst 0, 1) := by decide +kernel
theorem dX1_init_14 : decode cX1_init 14 = .ok (.istore_n 1, 1) := by decide +kernel
theorem dX1_init_15 : decode cX1_init 15 = .ok (.iload_n 1, 1) := by decide +kernel
theorem dX1_init_16 : decode cX1_init 16 = .ok (.bipush 14, 2) := by decide +kernel
theorem dX1_init_18 : decode cX1_init 18 = .ok (.if_icmp .ge 22, 3) := by decide +kernel
theorem dX1_init_21 : decode cX1_init 21 = .ok (.aload_n 0, 1) := by decide +kernel
theorem dX1_init_22 : decode cX1_init 22 = .ok (.getfield 11, 3) := by decide +kernel
theorem dX1_init_25 : decode cX1_init 25 = .ok (.iload_n 1, 1) := by decide +kernel
theorem dX1_init_26 : decode cX1_init 26 = .ok (.new 9, 3) := by decide +kernel
theorem dX1_init_29 : decode cX1_init 29 = .ok (.dup, 1) := by decide +kernel
theorem dX1_init_30 : decode cX1_init 30 = .ok (.invokespecial 17, 3) := by decide +kernel
theorem dX1_init_33 : decode cX1_init 33 = .ok (.aastore, 1) := by decide +kernel
theorem dX1_init_34 : decode cX1_init 34 = .ok (.iinc 1 1, 3) := by decide +kernel
theorem dX1_init_37 : decode cX1_init 37 = .ok (.goto (-22), 3) := by decide +kernel
theorem dX1_init_40 : decode cX1_init 40 = .ok (.return_, 1) := by decide +kernel
theorem dX1_isEmpty_0 : decode cX1_isEmpty 0 = .ok (.aload_n 0, 1) := by decide +kernel
theorem dX1_isEmpty_1 : decode cX1_isEmpty 1 = .ok (.getfield 18, 3) := by decide +kernel
theorem dX1_isEmpty_4 : decode cX1_isEmpty 4 = .ok (.ifCond .ne 7, 3) := by decide +kernel
theorem dX1_isEmpty_7 : decode cX1_isEmpty 7 = .ok (.iconst 1, 1) := by decide +kernel
theorem dX1_isEmpty_8 : decode cX1_isEmpty 8 = .ok (.goto 4, 3) := by decide +kernel
theorem dX1_isEmpty_11 : decode cX1_isEmpty 11 = .ok (.iconst 0, 1) := by decide +kernel
theorem dX1_isEmpty_12 : decode cX1_isEmpty 12 = .ok (.ireturn, 1) := by decide +kernel
theorem dX1_forgetAll_0 : decode cX1_forgetAll 0 = .ok (.aload_n 0, 1) := by decide +kernel
theorem dX1_forgetAll_1 : decode cX1_forgetAll 1 = .ok (.iconst 0, 1) := by decide +kernel
theorem dX1_forgetAll_2 : decode cX1_forgetAll 2 = .ok (.putfield 18, 3) := by decide +kernel
theorem dX1_forgetAll_5 : decode cX1_forgetAll 5 = .ok (.return_, 1) := by decide +kernel
theorem dX1_remember_0 : decode cX1_remember 0 = .ok (.aload_n 0, 1) := by decide +kernel
theorem dX1_remember_1 : decode cX1_remember 1 = .ok (.getfield 18, 3) := by decide +kernel
theorem dX1_remember_4 : decode cX1_remember 4 = .ok (.bipush 14, 2) := by decide +kernel
theorem dX1_remember_6 : decode cX1_remember 6 = .ok (.if_icmp .ne 26, 3) := by decide +kernel
theorem dX1_remember_9 : decode cX1_remember 9 = .ok (.aload_n 0, 1) := by decide +kernel
theorem dX1_remember_10 : decode cX1_remember 10 = .ok (.aload_n 0, 1) := by decide +kernel
theorem dX1_remember_11 : decode cX1_remember 11 = .ok (.getfield 22, 3) := by decide +kernel
theorem dX1_remember_14 : decode cX1_remember 14 = .ok (.iconst 1, 1) := by decide +kernel
theorem dX1_remember_15 : decode cX1_remember 15 = .ok (.iadd, 1) := by decide +kernel
theorem dX1_remember_16 : decode cX1_remember 16 = .ok (.bipush 14, 2) := by decide +kernel
theorem dX1_remember_18 : decode cX1_remember 18 = .ok (.irem, 1) := by decide +kernel
theorem dX1_remember_19 : decode cX1_remember 19 = .ok (.putfield 22, 3) := by decide +kernel
theorem dX1_remember_22 : decode cX1_remember 22 = .ok (.aload_n 0, 1) := by decide +kernel
theorem dX1_remember_23 : decode cX1_remember 23 = .ok (.dup, 1) := by decide +kernel
theorem dX1_remember_24 : decode cX1_remember 24 = .ok (.getfield 18, 3) := by decide +kernel
theorem dX1_remember_27 : decode cX1_remember 27 = .ok (.iconst 1, 1) := by decide +kernel
theorem dX1_remember_28 : decode cX1_remember 28 = .ok (.isub, 1) := by decide +kernel
theorem dX1_remember_29 : decode cX1_remember 29 = .ok (.putfield 18, 3) := by decide +kernel
theorem dX1_remember_32 : decode cX1_remember 32 = .ok (.aload_n 0, 1) := by decide +kernel
theorem dX1_remember_33 : decode cX1_remember 33 = .ok (.getfield 11, 3) := by decide +kernel
theorem dX1_remember_36 : decode cX1_remember 36 = .ok (.aload_n 0, 1) := by decide +kernel
theorem dX1_remember_37 : decode cX1_remember 37 = .ok (.getfield 22, 3) := by decide +kernel
theorem dX1_remember_40 : decode cX1_remember 40 = .ok (.aload_n 0, 1) := by decide +kernel
theorem dX1_remember_41 : decode cX1_remember 41 = .ok (.getfield 18, 3) := by decide +kernel
theorem dX1_remember_44 : decode cX1_remember 44 = .ok (.iadd, 1) := by decide +kernel
theorem dX1_remember_45 : decode cX1_remember 45 = .ok (.bipush 14, 2) := by decide +kernel
theorem dX1_remember_47 : decode cX1_remember 47 = .ok (.irem, 1) := by decide +kernel
theorem dX1_remember_48 : decode cX1_remember 48 = .ok (.aaload, 1) := by decide +kernel
theorem dX1_remember_49 : decode cX1_remember 49 = .ok (.aload_n 1, 1) := by decide +kernel
theorem dX1_remember_50 : decode cX1_remember 50 = .ok (.invokevirtual 25, 3) := by decide +kernel
theorem dX1_remember_53 : decode cX1_remember 53 = .ok (.aload_n 0, 1) := by decide +kernel
theorem dX1_remember_54 : decode cX1_remember 54 = .ok (.dup, 1) := by decide +kernel
theorem dX1_remember_55 : decode cX1_remember 55 = .ok (.getfield 18, 3) := by decide +kernel
theorem dX1_remember_58 : decode cX1_remember 58 = .ok (.iconst 1, 1) := by decide +kernel
theorem dX1_remember_59 : decode cX1_remember 59 = .ok (.iadd, 1) := by decide +kernel
theorem dX1_remember_60 : decode cX1_remember 60 = .ok (.putfield 18, 3) := by decide +kernel
theorem dX1_remember_63 : decode cX1_remember 63 = .ok (.return_, 1) := by decide +kernel
theorem dX1_takeBack_0 : decode cX1_takeBack 0 = .ok (.aload_n 0, 1) := by decide +kernel
theorem dX1_takeBack_1 : decode cX1_takeBack 1 = .ok (.getfield 18, 3) := by decide +kernel
theorem dX1_takeBack_4 : decode cX1_takeBack 4 = .ok (.ifCond .le 34, 3) := by decide +kernel
theorem dX1_takeBack_7 : decode cX1_takeBack 7 = .ok (.aload_n 0, 1) := by decide +kernel
theorem dX1_takeBack_8 : decode cX1_takeBack 8 = .ok (.dup, 1) := by decide +kernel
theorem dX1_takeBack_9 : decode cX1_takeBack 9 = .ok (.getfield 18, 3) := by decide +kernel
theorem dX1_takeBack_12 : decode cX1_takeBack 12 = .ok (.iconst 1, 1) := by decide +kernel
theorem dX1_takeBack_13 : decode cX1_takeBack 13 = .ok (.isub, 1) := by decide +kernel
theorem dX1_takeBack_14 : decode cX1_takeBack 14 = .ok (.putfield 18, 3) := by decide +kernel
theorem dX1_takeBack_17 : decode cX1_takeBack 17 = .ok (.aload_n 1, 1) := by decide +kernel
theorem dX1_takeBack_18 : decode cX1_takeBack 18 = .ok (.aload_n 0, 1) := by decide +kernel
theorem dX1_takeBack_19 : decode cX1_takeBack 19 = .ok (.getfield 11, 3) := by decide +kernel
theorem dX1_takeBack_22 : decode cX1_takeBack 22 = .ok (.aload_n 0, 1) := by decide +kernel
theorem dX1_takeBack_23 : decode cX1_takeBack 23 = .ok (.getfield 22, 3) := by decide +kernel
theorem dX1_takeBack_26 : decode cX1_takeBack 26 = .ok (.aload_n 0, 1) := by decide +kernel
theorem dX1_takeBack_27 : decode cX1_takeBack 27 = .ok (.getfield 18, 3) := by decide +kernel
theorem dX1_takeBack_30 : decode cX1_takeBack 30 = .ok (.iadd, 1) := by decide +kernel
theorem dX1_takeBack_31 : decode cX1_takeBack 31 = .ok (.bipush 14, 2) := by decide +kernel
theorem dX1_takeBack_33 : decode cX1_takeBack 33 = .ok (.irem, 1) := by decide +kernel
theorem dX1_takeBack_34 : decode cX1_takeBack 34 = .ok (.aaload, 1) := by decide +kernel
theorem dX1_takeBack_35 : decode cX1_takeBack 35 = .ok (.invokevirtual 25, 3) := by decide +kernel
theorem dX1_takeBack_38 : decode cX1_takeBack 38 = .ok (.aload_n 0, 1) := by decide +kernel
theorem dX1_takeBack_39 : decode cX1_takeBack 39 = .ok (.getfield 18, 3) := by decide +kernel
theorem dX1_takeBack_42 : decode cX1_takeBack 42 = .ok (.ireturn, 1) := by decide +kernel
theorem dX2_init_0 : decode cX2_init 0 = .ok (.aload_n 0, 1) := by decide +kernel
theorem dX2_init_1 : decode cX2_init 1 = .ok (.invokespecial 3, 3) := by decide +kernel
theorem dX2_init_4 : decode cX2_init 4 = .ok (.aload_n 0, 1) := by decide +kernel
theorem dX2_init_5 : decode cX2_init 5 = .ok (.bipush 120, 2) := by decide +kernel
theorem dX2_init_7 : decode cX2_init 7 = .ok (.newarray .char, 2) := by decide +kernel
theorem dX2_init_9 : decode cX2_init 9 = .ok (.putfield 9, 3) := by decide +kernel
theorem dX2_init_12 : decode cX2_init 12 = .ok (.return_, 1) := by decide +kernel
theorem dX2_isFull_0 : decode cX2_isFull 0 = .ok (.aload_n 0, 1) := by decide +kernel
theorem dX2_isFull_1 : decode cX2_isFull 1 = .ok (.getfield 15, 3) := by decide +kernel
theorem dX2_isFull_4 : decode cX2_isFull 4 = .ok (.bipush 120, 2) := by decide +kernel
theorem dX2_isFull_6 : decode cX2_isFull 6 = .ok (.if_icmp .lt 7, 3) := by decide +kernel
theorem dX2_isFull_9 : decode cX2_isFull 9 = .ok (.iconst 1, 1) := by decide +kernel
theorem dX2_isFull_10 : decode cX2_isFull 10 = .ok (.goto 4, 3) := by decide +kernel
theorem dX2_isFull_13 : decode cX2_isFull 13 = .ok (.iconst 0, 1) := by decide +kernel
theorem dX2_isFull_14 : decode cX2_isFull 14 = .ok (.ireturn, 1) := by decide +kernel
theorem dX2_add_0 : decode cX2_add 0 = .ok (.aload_n 0, 1) := by decide +kernel
theorem dX2_add_1 : decode cX2_add 1 = .ok (.invokevirtual 19, 3) := by decide +kernel
theorem dX2_add_4 : decode cX2_add 4 = .ok (.ifCond .ne 23, 3) := by decide +kernel
theorem dX2_add_7 : decode cX2_add 7 = .ok (.aload_n 0, 1) := by decide +kernel
theorem dX2_add_8 : decode cX2_add 8 = .ok (.getfield 9, 3) := by decide +kernel
theorem dX2_add_11 : decode cX2_add 11 = .ok (.aload_n 0, 1) := by decide +kernel
theorem dX2_add_12 : decode cX2_add 12 = .ok (.getfield 15, 3) := by decide +kernel
theorem dX2_add_15 : decode cX2_add 15 = .ok (.iload_n 1, 1) := by decide +kernel
theorem dX2_add_16 : decode cX2_add 16 = .ok (.castore, 1) := by decide +kernel
theorem dX2_add_17 : decode cX2_add 17 = .ok (.aload_n 0, 1) := by decide +kernel
theorem dX2_add_18 : decode cX2_add 18 = .ok (.dup, 1) := by decide +kernel
theorem dX2_add_19 : decode cX2_add 19 = .ok (.getfield 15, 3) := by decide +kernel
theorem dX2_add_22 : decode cX2_add 22 = .ok (.iconst 1, 1) := by decide +kernel
theorem dX2_add_23 : decode cX2_add 23 = .ok (.iadd, 1) := by decide +kernel
theorem dX2_add_24 : decode cX2_add 24 = .ok (.putfield 15, 3) := by decide +kernel
theorem dX2_add_27 : decode cX2_add 27 = .ok (.aload_n 0, 1) := by decide +kernel
theorem dX2_add_28 : decode cX2_add 28 = .ok (.getfield 15, 3) := by decide +kernel
theorem dX2_add_31 : decode cX2_add 31 = .ok (.ireturn, 1) := by decide +kernel
theorem dX2_empty_0 : decode cX2_empty 0 = .ok (.aload_n 0, 1) := by decide +kernel
theorem dX2_empty_1 : decode cX2_empty 1 = .ok (.getfield 15, 3) := by decide +kernel
theorem dX2_empty_4 : decode cX2_empty 4 = .ok (.istore_n 1, 1) := by decide +kernel
theorem dX2_empty_5 : decode cX2_empty 5 = .ok (.aload_n 0, 1) := by decide +kernel
theorem dX2_empty_6 : decode cX2_empty 6 = .ok (.iconst 0, 1) := by decide +kernel
theorem dX2_empty_7 : decode cX2_empty 7 = .ok (.putfield 15, 3) := by decide +kernel
theorem dX2_empty_10 : decode cX2_empty 10 = .ok (.iload_n 1, 1) := by decide +kernel
theorem dX2_empty_11 : decode cX2_empty 11 = .ok (.ireturn, 1) := by decide +kernel
theorem dX2_sign_0 : decode cX2_sign 0 = .ok (.iload_n 1, 1) := by decide +kernel
theorem dX2_sign_1 : decode cX2_sign 1 = .ok (.ifCond .lt 20, 3) := by decide +kernel
theorem dX2_sign_4 : decode cX2_sign 4 = .ok (.iload_n 1, 1) := by decide +kernel
theorem dX2_sign_5 : decode cX2_sign 5 = .ok (.aload_n 0, 1) := by decide +kernel
theorem dX2_sign_6 : decode cX2_sign 6 = .ok (.getfield 15, 3) := by decide +kernel
theorem dX2_sign_9 : decode cX2_sign 9 = .ok (.if_icmp .ge 12, 3) := by decide +kernel
theorem dX2_sign_12 : decode cX2_sign 12 = .ok (.aload_n 0, 1) := by decide +kernel
theorem dX2_sign_13 : decode cX2_sign 13 = .ok (.getfield 9, 3) := by decide +kernel
theorem dX2_sign_16 : decode cX2_sign 16 = .ok (.iload_n 1, 1) := by decide +kernel
theorem dX2_sign_17 : decode cX2_sign 17 = .ok (.caload, 1) := by decide +kernel
theorem dX2_sign_18 : decode cX2_sign 18 = .ok (.goto 5, 3) := by decide +kernel
theorem dX2_sign_21 : decode cX2_sign 21 = .ok (.bipush 32, 2) := by decide +kernel
theorem dX2_sign_23 : decode cX2_sign 23 = .ok (.ireturn, 1) := by decide +kernel
theorem dX2_isDigit_0 : decode cX2_isDigit 0 = .ok (.aload_n 0, 1) := by decide +kernel
theorem dX2_isDigit_1 : decode cX2_isDigit 1 = .ok (.iload_n 1, 1) := by decide +kernel
theorem dX2_isDigit_2 : decode cX2_isDigit 2 = .ok (.invokevirtual 23, 3) := by decide +kernel
theorem dX2_isDigit_5 : decode cX2_isDigit 5 = .ok (.bipush 48, 2) := by decide +kernel
theorem dX2_isDigit_7 : decode cX2_isDigit 7 = .ok (.if_icmp .lt 17, 3) := by decide +kernel
theorem dX2_isDigit_10 : decode cX2_isDigit 10 = .ok (.aload_n 0, 1) := by decide +kernel
theorem dX2_isDigit_11 : decode cX2_isDigit 11 = .ok (.iload_n 1, 1) := by decide +kernel
theorem dX2_isDigit_12 : decode cX2_isDigit 12 = .ok (.invokevirtual 23, 3) := by decide +kernel
theorem dX2_isDigit_15 : decode cX2_isDigit 15 = .ok (.bipush 57, 2) := by decide +kernel
theorem dX2_isDigit_17 : decode cX2_isDigit 17 = .ok (.if_icmp .gt 7, 3) := by decide +kernel
theorem dX2_isDigit_20 : decode cX2_isDigit 20 = .ok (.iconst 1, 1) := by decide +kernel
theorem dX2_isDigit_21 : decode cX2_isDigit 21 = .ok (.goto 4, 3) := by decide +kernel
theorem dX2_isDigit_24 : decode cX2_isDigit 24 = .ok (.iconst 0, 1) := by decide +kernel
theorem dX2_isDigit_25 : decode cX2_isDigit 25 = .ok (.ireturn, 1) := by decide +kernel
theorem dX2_number_0 : decode cX2_number 0 = .ok (.iconst 0, 1) := by decide +kernel
theorem dX2_number_1 : decode cX2_number 1 = .ok (.istore_n 3, 1) := by decide +kernel
theorem dX2_number_2 : decode cX2_number 2 = .ok (.iconst 0, 1) := by decide +kernel
theorem dX2_number_3 : decode cX2_number 3 = .ok (.istore 4, 2) := by decide +kernel
theorem dX2_number_5 : decode cX2_number 5 = .ok (.iload 4, 2) := by decide +kernel
theorem dX2_number_7 : decode cX2_number 7 = .ok (.iload_n 2, 1) := by decide +kernel
theorem dX2_number_8 : decode cX2_number 8 = .ok (.if_icmp .ge 37, 3) := by decide +kernel
theorem dX2_number_11 : decode cX2_number 11 = .ok (.aload_n 0, 1) := by decide +kernel
theorem dX2_number_12 : decode cX2_number 12 = .ok (.iload_n 1, 1) := by decide +kernel
theorem dX2_number_13 : decode cX2_number 13 = .ok (.iload 4, 2) := by decide +kernel
theorem dX2_number_15 : decode cX2_number 15 = .ok (.iadd, 1) := by decide +kernel
theorem dX2_number_16 : decode cX2_number 16 = .ok (.invokevirtual 27, 3) := by decide +kernel
theorem dX2_number_19 : decode cX2_number 19 = .ok (.ifCond .eq 20, 3) := by decide +kernel
theorem dX2_number_22 : decode cX2_number 22 = .ok (.bipush 10, 2) := by decide +kernel
theorem dX2_number_24 : decode cX2_number 24 = .ok (.iload_n 3, 1) := by decide +kernel
theorem dX2_number_25 : decode cX2_number 25 = .ok (.imul, 1) := by decide +kernel
theorem dX2_number_26 : decode cX2_number 26 = .ok (.aload_n 0, 1) := by decide +kernel
theorem dX2_number_27 : decode cX2_number 27 = .ok (.iload_n 1, 1) := by decide +kernel
theorem dX2_number_28 : decode cX2_number 28 = .ok (.iload 4, 2) := by decide +kernel
theorem dX2_number_30 : decode cX2_number 30 = .ok (.iadd, 1) := by decide +kernel
theorem dX2_number_31 : decode cX2_number 31 = .ok (.invokevirtual 23, 3) := by decide +kernel
theorem dX2_number_34 : decode cX2_number 34 = .ok (.iadd, 1) := by decide +kernel
theorem dX2_number_35 : decode cX2_number 35 = .ok (.bipush 48, 2) := by decide +kernel
theorem dX2_number_37 : decode cX2_number 37 = .ok (.isub, 1) := by decide +kernel
theorem dX2_number_38 : decode cX2_number 38 = .ok (.istore_n 3, 1) := by decide +kernel
theorem dX2_number_39 : decode cX2_number 39 = .ok (.iinc 4 1, 3) := by decide +kernel
theorem dX2_number_42 : decode cX2_number 42 = .ok (.goto (-37), 3) := by decide +kernel
theorem dX2_number_45 : decode cX2_number 45 = .ok (.iload_n 3, 1) := by decide +kernel
theorem dX2_number_46 : decode cX2_number 46 = .ok (.ireturn, 1) := by decide +kernel
theorem dX2_firstError_0 : decode cX2_firstError 0 = .ok (.ldc 31, 2) := by decide +kernel
theorem dX2_firstError_2 : decode cX2_firstError 2 = .ok (.astore_n 1, 1) := by decide +kernel
theorem dX2_firstError_3 : decode cX2_firstError 3 = .ok (.iconst 0, 1) := by decide +kernel
theorem dX2_firstError_4 : decode cX2_firstError 4 = .ok (.istore_n 2, 1) := by decide +kernel
theorem dX2_firstError_5 : decode cX2_firstError 5 = .ok (.iconst 0, 1) := by decide +kernel
theorem dX2_firstError_6 : decode cX2_firstError 6 = .ok (.istore_n 3, 1) := by decide +kernel
theorem dX2_firstError_7 : decode cX2_firstError 7 = .ok (.iload_n 3, 1) := by decide +kernel
theorem dX2_firstError_8 : decode cX2_firstError 8 = .ok (.aload_n 0, 1) := by decide +kernel
theorem dX2_firstError_9 : decode cX2_firstError 9 = .ok (.getfield 15, 3) := by decide +kernel
theorem dX2_firstError_12 : decode cX2_firstError 12 = .ok (.if_icmp .ge 58, 3) := by decide +kernel
theorem dX2_firstError_15 : decode cX2_firstError 15 = .ok (.iload_n 2, 1) := by decide +kernel
theorem dX2_firstError_16 : decode cX2_firstError 16 = .ok (.aload_n 1, 1) := by decide +kernel
theorem dX2_firstError_17 : decode cX2_firstError 17 = .ok (.invokevirtual 33, 3) := by decide +kernel
theorem dX2_firstError_20 : decode cX2_firstError 20 = .ok (.if_icmp .ge 24, 3) := by decide +kernel
theorem dX2_firstError_23 : decode cX2_firstError 23 = .ok (.aload_n 0, 1) := by decide +kernel
theorem dX2_firstError_24 : decode cX2_firstError 24 = .ok (.aload_n 1, 1) := by decide +kernel
theorem dX2_firstError_25 : decode cX2_firstError 25 = .ok (.iload_n 2, 1) := by decide +kernel
theorem dX2_firstError_26 : decode cX2_firstError 26 = .ok (.invokevirtual 38, 3) := by decide +kernel
theorem dX2_firstError_29 : decode cX2_firstError 29 = .ok (.iload_n 3, 1) := by decide +kernel
theorem dX2_firstError_30 : decode cX2_firstError 30 = .ok (.invokevirtual 41, 3) := by decide +kernel
theorem dX2_firstError_33 : decode cX2_firstError 33 = .ok (.ifCond .ne 5, 3) := by decide +kernel
theorem dX2_firstError_36 : decode cX2_firstError 36 = .ok (.iload_n 3, 1) := by decide +kernel
theorem dX2_firstError_37 : decode cX2_firstError 37 = .ok (.ireturn, 1) := by decide +kernel
theorem dX2_firstError_38 : decode cX2_firstError 38 = .ok (.iinc 2 1, 3) := by decide +kernel
theorem dX2_firstError_41 : decode cX2_firstError 41 = .ok (.goto 23, 3) := by decide +kernel
theorem dX2_firstError_44 : decode cX2_firstError 44 = .ok (.aload_n 0, 1) := by decide +kernel
theorem dX2_firstError_45 : decode cX2_firstError 45 = .ok (.iload_n 3, 1) := by decide +kernel
theorem dX2_firstError_46 : decode cX2_firstError 46 = .ok (.invokevirtual 23, 3) := by decide +kernel
theorem dX2_firstError_49 : decode cX2_firstError 49 = .ok (.invokestatic 45, 3) := by decide +kernel
theorem dX2_firstError_52 : decode cX2_firstError 52 = .ok (.astore_n 1, 1) := by decide +kernel
theorem dX2_firstError_53 : decode cX2_firstError 53 = .ok (.iconst 0, 1) := by decide +kernel
theorem dX2_firstError_54 : decode cX2_firstError 54 = .ok (.istore_n 2, 1) := by decide +kernel
theorem dX2_firstError_55 : decode cX2_firstError 55 = .ok (.aload_n 1, 1) := by decide +kernel
theorem dX2_firstError_56 : decode cX2_firstError 56 = .ok (.invokevirtual 49, 3) := by decide +kernel
theorem dX2_firstError_59 : decode cX2_firstError 59 = .ok (.ifCond .eq 5, 3) := by decide +kernel
theorem dX2_firstError_62 : decode cX2_firstError 62 = .ok (.iload_n 3, 1) := by decide +kernel
theorem dX2_firstError_63 : decode cX2_firstError 63 = .ok (.ireturn, 1) := by decide +kernel
theorem dX2_firstError_64 : decode cX2_firstError 64 = .ok (.iinc 3 1, 3) := by decide +kernel
theorem dX2_firstError_67 : decode cX2_firstError 67 = .ok (.goto (-60), 3) := by decide +kernel
theorem dX2_firstError_70 : decode cX2_firstError 70 = .ok (.iload_n 2, 1) := by decide +kernel
theorem dX2_firstError_71 : decode cX2_firstError 71 = .ok (.aload_n 1, 1) := by decide +kernel
theorem dX2_firstError_72 : decode cX2_firstError 72 = .ok (.invokevirtual 33, 3) := by decide +kernel
theorem dX2_firstError_75 : decode cX2_firstError 75 = .ok (.if_icmp .ge 10, 3) := by decide +kernel
theorem dX2_firstError_78 : decode cX2_firstError 78 = .ok (.aload_n 0, 1) := by decide +kernel
theorem dX2_firstError_79 : decode cX2_firstError 79 = .ok (.getfield 15, 3) := by decide +kernel
theorem dX2_firstError_82 : decode cX2_firstError 82 = .ok (.goto 4, 3) := by decide +kernel
theorem dX2_firstError_85 : decode cX2_firstError 85 = .ok (.iconst (-1), 1) := by decide +kernel
theorem dX2_firstError_86 : decode cX2_firstError 86 = .ok (.ireturn, 1) := by decide +kernel
theorem dX2_placesBehind_0 : decode cX2_placesBehind 0 = .ok (.iload_n 0, 1) := by decide +kernel
theorem dX2_placesBehind_1 : decode cX2_placesBehind 1 = .ok (.lookupswitch 63 #[(102, 57), (114, 60), (115, 51), (116, 54), (119, 54)], 51) := by decide +kernel
theorem dX2_placesBehind_52 : decode cX2_placesBehind 52 = .ok (.ldc 52, 2) := by decide +kernel
theorem dX2_placesBehind_54 : decode cX2_placesBehind 54 = .ok (.areturn, 1) := by decide +kernel
theorem dX2_placesBehind_55 : decode cX2_placesBehind 55 = .ok (.ldc 54, 2) := by decide +kernel
theorem dX2_placesBehind_57 : decode cX2_placesBehind 57 = .ok (.areturn, 1) := by decide +kernel
theorem dX2_placesBehind_58 : decode cX2_placesBehind 58 = .ok (.ldc 56, 2) := by decide +kernel
theorem dX2_placesBehind_60 : decode cX2_placesBehind 60 = .ok (.areturn, 1) := by decide +kernel
theorem dX2_placesBehind_61 : decode cX2_placesBehind 61 = .ok (.ldc 58, 2) := by decide +kernel
theorem dX2_placesBehind_63 : decode cX2_placesBehind 63 = .ok (.areturn, 1) := by decide +kernel
theorem dX2_placesBehind_64 : decode cX2_placesBehind 64 = .ok (.ldc 60, 2) := by decide +kernel
theorem dX2_placesBehind_66 : decode cX2_placesBehind 66 = .ok (.areturn, 1) := by decide +kernel
theorem dX2_fits_0 : decode cX2_fits 0 = .ok (.iload_n 1, 1) := by decide +kernel
theorem dX2_fits_1 : decode cX2_fits 1 = .ok (.bipush 68, 2) := by decide +kernel
theorem dX2_fits_3 : decode cX2_fits 3 = .ok (.if_icmp .ne 19, 3) := by decide +kernel
theorem dX2_fits_6 : decode cX2_fits 6 = .ok (.aload_n 0, 1) := by decide +kernel
theorem dX2_fits_7 : decode cX2_fits 7 = .ok (.iload_n 2, 1) := by decide +kernel
theorem dX2_fits_8 : decode cX2_fits 8 = .ok (.invokevirtual 23, 3) := by decide +kernel
theorem dX2_fits_11 : decode cX2_fits 11 = .ok (.bipush 68, 2) := by decide +kernel
theorem dX2_fits_13 : decode cX2_fits 13 = .ok (.if_icmp .ne 7, 3) := by decide +kernel
theorem dX2_fits_16 : decode cX2_fits 16 = .ok (.iconst 1, 1) := by decide +kernel
theorem dX2_fits_17 : decode cX2_fits 17 = .ok (.goto 4, 3) := by decide +kernel
theorem dX2_fits_20 : decode cX2_fits 20 = .ok (.iconst 0, 1) := by decide +kernel
theorem dX2_fits_21 : decode cX2_fits 21 = .ok (.ireturn, 1) := by decide +kernel
theorem dX2_fits_22 : decode cX2_fits 22 = .ok (.aload_n 0, 1) := by decide +kernel
theorem dX2_fits_23 : decode cX2_fits 23 = .ok (.iload_n 2, 1) := by decide +kernel
theorem dX2_fits_24 : decode cX2_fits 24 = .ok (.invokevirtual 27, 3) := by decide +kernel
theorem dX2_fits_27 : decode cX2_fits 27 = .ok (.ifCond .ne 5, 3) := by decide +kernel
theorem dX2_fits_30 : decode cX2_fits 30 = .ok (.iconst 0, 1) := by decide +kernel
theorem dX2_fits_31 : decode cX2_fits 31 = .ok (.ireturn, 1) := by decide +kernel
theorem dX2_fits_32 : decode cX2_fits 32 = .ok (.aload_n 0, 1) := by decide +kernel
theorem dX2_fits_33 : decode cX2_fits 33 = .ok (.iload_n 2, 1) := by decide +kernel
theorem dX2_fits_34 : decode cX2_fits 34 = .ok (.iconst 1, 1) := by decide +kernel
theorem dX2_fits_35 : decode cX2_fits 35 = .ok (.invokevirtual 62, 3) := by decide +kernel
theorem dX2_fits_38 : decode cX2_fits 38 = .ok (.istore_n 3, 1) := by decide +kernel
theorem dX2_fits_39 : decode cX2_fits 39 = .ok (.iload_n 1, 1) := by decide +kernel
theorem dX2_fits_40 : decode cX2_fits 40 = .ok (.lookupswitch 147 #[(80, 63), (83, 52), (99, 97), (102, 128), (112, 78)], 52) := by decide +kernel
theorem dX2_fits_92 : decode cX2_fits 92 = .ok (.iload_n 3, 1) := by decide +kernel
theorem dX2_fits_93 : decode cX2_fits 93 = .ok (.iconst 5, 1) := by decide +kernel
theorem dX2_fits_94 : decode cX2_fits 94 = .ok (.if_icmp .ge 7, 3) := by decide +kernel
theorem dX2_fits_97 : decode cX2_fits 97 = .ok (.iconst 1, 1) := by decide +kernel
theorem dX2_fits_98 : decode cX2_fits 98 = .ok (.goto 4, 3) := by decide +kernel
theorem dX2_fits_101 : decode cX2_fits 101 = .ok (.iconst 0, 1) := by decide +kernel
theorem dX2_fits_102 : decode cX2_fits 102 = .ok (.ireturn, 1) := by decide +kernel
theorem dX2_fits_103 : decode cX2_fits 103 = .ok (.bipush 10, 2) := by decide +kernel
theorem dX2_fits_105 : decode cX2_fits 105 = .ok (.iload_n 3, 1) := by decide +kernel
theorem dX2_fits_106 : decode cX2_fits 106 = .ok (.imul, 1) := by decide +kernel
theorem dX2_fits_107 : decode cX2_fits 107 = .ok (.bipush 40, 2) := by decide +kernel
theorem dX2_fits_109 : decode cX2_fits 109 = .ok (.if_icmp .ge 7, 3) := by decide +kernel
theorem dX2_fits_112 : decode cX2_fits 112 = .ok (.iconst 1, 1) := by decide +kernel
theorem dX2_fits_113 : decode cX2_fits 113 = .ok (.goto 4, 3) := by decide +kernel
theorem dX2_fits_116 : decode cX2_fits 116 = .ok (.iconst 0, 1) := by decide +kernel
theorem dX2_fits_117 : decode cX2_fits 117 = .ok (.ireturn, 1) := by decide +kernel
theorem dX2_fits_118 : decode cX2_fits 118 = .ok (.aload_n 0, 1) := by decide +kernel
theorem dX2_fits_119 : decode cX2_fits 119 = .ok (.iload_n 2, 1) := by decide +kernel
theorem dX2_fits_120 : decode cX2_fits 120 = .ok (.iconst 1, 1) := by decide +kernel
theorem dX2_fits_121 : decode cX2_fits 121 = .ok (.isub, 1) := by decide +kernel
theorem dX2_fits_122 : decode cX2_fits 122 = .ok (.iconst 2, 1) := by decide +kernel
theorem dX2_fits_123 : decode cX2_fits 123 = .ok (.invokevirtual 62, 3) := by decide +kernel
theorem dX2_fits_126 : decode cX2_fits 126 = .ok (.bipush 40, 2) := by decide +kernel
theorem dX2_fits_128 : decode cX2_fits 128 = .ok (.if_icmp .ge 7, 3) := by decide +kernel
theorem dX2_fits_131 : decode cX2_fits 131 = .ok (.iconst 1, 1) := by decide +kernel
theorem dX2_fits_132 : decode cX2_fits 132 = .ok (.goto 4, 3) := by decide +kernel
theorem dX2_fits_135 : decode cX2_fits 135 = .ok (.iconst 0, 1) := by decide +kernel
theorem dX2_fits_136 : decode cX2_fits 136 = .ok (.ireturn, 1) := by decide +kernel
theorem dX2_fits_137 : decode cX2_fits 137 = .ok (.aload_n 0, 1) := by decide +kernel
theorem dX2_fits_138 : decode cX2_fits 138 = .ok (.iload_n 2, 1) := by decide +kernel
theorem dX2_fits_139 : decode cX2_fits 139 = .ok (.iconst 1, 1) := by decide +kernel
theorem dX2_fits_140 : decode cX2_fits 140 = .ok (.isub, 1) := by decide +kernel
theorem dX2_fits_141 : decode cX2_fits 141 = .ok (.iconst 2, 1) := by decide +kernel
theorem dX2_fits_142 : decode cX2_fits 142 = .ok (.invokevirtual 62, 3) := by decide +kernel
theorem dX2_fits_145 : decode cX2_fits 145 = .ok (.iconst 1, 1) := by decide +kernel
theorem dX2_fits_146 : decode cX2_fits 146 = .ok (.if_icmp .lt 20, 3) := by decide +kernel
theorem dX2_fits_149 : decode cX2_fits 149 = .ok (.aload_n 0, 1) := by decide +kernel
theorem dX2_fits_150 : decode cX2_fits 150 = .ok (.iload_n 2, 1) := by decide +kernel
theorem dX2_fits_151 : decode cX2_fits 151 = .ok (.iconst 1, 1) := by decide +kernel
theorem dX2_fits_152 : decode cX2_fits 152 = .ok (.isub, 1) := by decide +kernel
theorem dX2_fits_153 : decode cX2_fits 153 = .ok (.iconst 2, 1) := by decide +kernel
theorem dX2_fits_154 : decode cX2_fits 154 = .ok (.invokevirtual 62, 3) := by decide +kernel
theorem dX2_fits_157 : decode cX2_fits 157 = .ok (.bipush 60, 2) := by decide +kernel
theorem dX2_fits_159 : decode cX2_fits 159 = .ok (.if_icmp .gt 7, 3) := by decide +kernel
theorem dX2_fits_162 : decode cX2_fits 162 = .ok (.iconst 1, 1) := by decide +kernel
theorem dX2_fits_163 : decode cX2_fits 163 = .ok (.goto 4, 3) := by decide +kernel
theorem dX2_fits_166 : decode cX2_fits 166 = .ok (.iconst 0, 1) := by decide +kernel
theorem dX2_fits_167 : decode cX2_fits 167 = .ok (.ireturn, 1) := by decide +kernel
theorem dX2_fits_168 : decode cX2_fits 168 = .ok (.aload_n 0, 1) := by decide +kernel
theorem dX2_fits_169 : decode cX2_fits 169 = .ok (.iload_n 2, 1) := by decide +kernel
theorem dX2_fits_170 : decode cX2_fits 170 = .ok (.iconst 1, 1) := by decide +kernel
theorem dX2_fits_171 : decode cX2_fits 171 = .ok (.isub, 1) := by decide +kernel
theorem dX2_fits_172 : decode cX2_fits 172 = .ok (.iconst 2, 1) := by decide +kernel
theorem dX2_fits_173 : decode cX2_fits 173 = .ok (.invokevirtual 62, 3) := by decide +kernel
theorem dX2_fits_176 : decode cX2_fits 176 = .ok (.bipush 60, 2) := by decide +kernel
theorem dX2_fits_178 : decode cX2_fits 178 = .ok (.if_icmp .gt 7, 3) := by decide +kernel
theorem dX2_fits_181 : decode cX2_fits 181 = .ok (.iconst 1, 1) := by decide +kernel
theorem dX2_fits_182 : decode cX2_fits 182 = .ok (.goto 4, 3) := by decide +kernel
theorem dX2_fits_185 : decode cX2_fits 185 = .ok (.iconst 0, 1) := by decide +kernel
theorem dX2_fits_186 : decode cX2_fits 186 = .ok (.ireturn, 1) := by decide +kernel
theorem dX2_fits_187 : decode cX2_fits 187 = .ok (.bipush 10, 2) := by decide +kernel
theorem dX2_fits_189 : decode cX2_fits 189 = .ok (.iload_n 3, 1) := by decide +kernel
theorem dX2_fits_190 : decode cX2_fits 190 = .ok (.imul, 1) := by decide +kernel
theorem dX2_fits_191 : decode cX2_fits 191 = .ok (.bipush 60, 2) := by decide +kernel
theorem dX2_fits_193 : decode cX2_fits 193 = .ok (.if_icmp .gt 7, 3) := by decide +kernel
theorem dX2_fits_196 : decode cX2_fits 196 = .ok (.iconst 1, 1) := by decide +kernel
theorem dX2_fits_197 : decode cX2_fits 197 = .ok (.goto 4, 3) := by decide +kernel
theorem dX2_fits_200 : decode cX2_fits 200 = .ok (.iconst 0, 1) := by decide +kernel
theorem dX2_fits_201 : decode cX2_fits 201 = .ok (.ireturn, 1) := by decide +kernel
theorem dX3_init_0 : decode cX3_init 0 = .ok (.aload_n 0, 1) := by decide +kernel
theorem dX3_init_1 : decode cX3_init 1 = .ok (.invokespecial 1, 3) := by decide +kernel
theorem dX3_init_4 : decode cX3_init 4 = .ok (.aload_n 0, 1) := by decide +kernel
theorem dX3_init_5 : decode cX3_init 5 = .ok (.new 7, 3) := by decide +kernel
theorem dX3_init_8 : decode cX3_init 8 = .ok (.dup, 1) := by decide +kernel
theorem dX3_init_9 : decode cX3_init 9 = .ok (.invokespecial 9, 3) := by decide +kernel
theorem dX3_init_12 : decode cX3_init 12 = .ok (.putfield 10, 3) := by decide +kernel
theorem dX3_init_15 : decode cX3_init 15 = .ok (.aload_n 0, 1) := by decide +kernel
theorem dX3_init_16 : decode cX3_init 16 = .ok (.new 16, 3) := by decide +kernel
theorem dX3_init_19 : decode cX3_init 19 = .ok (.dup, 1) := by decide +kernel
theorem dX3_init_20 : decode cX3_init 20 = .ok (.invokespecial 18, 3) := by decide +kernel
theorem dX3_init_23 : decode cX3_init 23 = .ok (.putfield 19, 3) := by decide +kernel
theorem dX3_init_26 : decode cX3_init 26 = .ok (.aload_n 0, 1) := by decide +kernel
theorem dX3_init_27 : decode cX3_init 27 = .ok (.new 23, 3) := by decide +kernel
theorem dX3_init_30 : decode cX3_init 30 = .ok (.dup, 1) := by decide +kernel
theorem dX3_init_31 : decode cX3_init 31 = .ok (.invokespecial 25, 3) := by decide +kernel
theorem dX3_init_34 : decode cX3_init 34 = .ok (.putfield 26, 3) := by decide +kernel
theorem dX3_init_37 : decode cX3_init 37 = .ok (.aload_n 0, 1) := by decide +kernel
theorem dX3_init_38 : decode cX3_init 38 = .ok (.iconst 2, 1) := by decide +kernel
theorem dX3_init_39 : decode cX3_init 39 = .ok (.anewarray 16, 3) := by decide +kernel
theorem dX3_init_42 : decode cX3_init 42 = .ok (.putfield 30, 3) := by decide +kernel
theorem dX3_init_45 : decode cX3_init 45 = .ok (.aload_n 0, 1) := by decide +kernel
theorem dX3_init_46 : decode cX3_init 46 = .ok (.iconst 2, 1) := by decide +kernel
theorem dX3_init_47 : decode cX3_init 47 = .ok (.newarray .boolean, 2) := by decide +kernel
theorem dX3_init_49 : decode cX3_init 49 = .ok (.putfield 34, 3) := by decide +kernel
theorem dX3_init_52 : decode cX3_init 52 = .ok (.aload_n 0, 1) := by decide +kernel
theorem dX3_init_53 : decode cX3_init 53 = .ok (.new 16, 3) := by decide +kernel
theorem dX3_init_56 : decode cX3_init 56 = .ok (.dup, 1) := by decide +kernel
theorem dX3_init_57 : decode cX3_init 57 = .ok (.invokespecial 18, 3) := by decide +kernel
theorem dX3_init_60 : decode cX3_init 60 = .ok (.putfield 38, 3) := by decide +kernel
theorem dX3_init_63 : decode cX3_init 63 = .ok (.aload_n 0, 1) := by decide +kernel
theorem dX3_init_64 : decode cX3_init 64 = .ok (.new 16, 3) := by decide +kernel
theorem dX3_init_67 : decode cX3_init 67 = .ok (.dup, 1) := by decide +kernel
theorem dX3_init_68 : decode cX3_init 68 = .ok (.invokespecial 18, 3) := by decide +kernel
theorem dX3_init_71 : decode cX3_init 71 = .ok (.putfield 41, 3) := by decide +kernel
theorem dX3_init_74 : decode cX3_init 74 = .ok (.aload_n 0, 1) := by decide +kernel
theorem dX3_init_75 : decode cX3_init 75 = .ok (.new 16, 3) := by decide +kernel
theorem dX3_init_78 : decode cX3_init 78 = .ok (.dup, 1) := by decide +kernel
theorem dX3_init_79 : decode cX3_init 79 = .ok (.invokespecial 18, 3) := by decide +kernel
theorem dX3_init_82 : decode cX3_init 82 = .ok (.putfield 44, 3) := by decide +kernel
theorem dX3_init_85 : decode cX3_init 85 = .ok (.iconst 0, 1) := by decide +kernel
theorem dX3_init_86 : decode cX3_init 86 = .ok (.istore_n 1, 1) := by decide +kernel
theorem dX3_init_87 : decode cX3_init 87 = .ok (.iload_n 1, 1) := by decide +kernel
theorem dX3_init_88 : decode cX3_init 88 = .ok (.iconst 2, 1) := by decide +kernel
theorem dX3_init_89 : decode cX3_init 89 = .ok (.if_icmp .ge 22, 3) := by decide +kernel
theorem dX3_init_92 : decode cX3_init 92 = .ok (.aload_n 0, 1) := by decide +kernel
theorem dX3_init_93 : decode cX3_init 93 = .ok (.getfield 30, 3) := by decide +kernel
theorem dX3_init_96 : decode cX3_init 96 = .ok (.iload_n 1, 1) := by decide +kernel
theorem dX3_init_97 : decode cX3_init 97 = .ok (.new 16, 3) := by decide +kernel
theorem dX3_init_100 : decode cX3_init 100 = .ok (.dup, 1) := by decide +kernel
theorem dX3_init_101 : decode cX3_init 101 = .ok (.invokespecial 18, 3) := by decide +kernel
theorem dX3_init_104 : decode cX3_init 104 = .ok (.aastore, 1) := by decide +kernel
theorem dX3_init_105 : decode cX3_init 105 = .ok (.iinc 1 1, 3) := by decide +kernel
theorem dX3_init_108 : decode cX3_init 108 = .ok (.goto (-21), 3) := by decide +kernel
theorem dX3_init_111 : decode cX3_init 111 = .ok (.return_, 1) := by decide +kernel
theorem dX3_append_0 : decode cX3_append 0 = .ok (.iload_n 1, 1) := by decide +kernel
theorem dX3_append_1 : decode cX3_append 1 = .ok (.ifCond .lt 10, 3) := by decide +kernel
theorem dX3_append_4 : decode cX3_append 4 = .ok (.iload_n 1, 1) := by decide +kernel
theorem dX3_append_5 : decode cX3_append 5 = .ok (.sipush 255, 3) := by decide +kernel
theorem dX3_append_8 : decode cX3_append 8 = .ok (.if_icmp .le 13, 3) := by decide +kernel
theorem dX3_append_11 : decode cX3_append 11 = .ok (.new 47, 3) := by decide +kernel
theorem dX3_append_14 : decode cX3_append 14 = .ok (.dup, 1) := by decide +kernel
theorem dX3_append_15 : decode cX3_append 15 = .ok (.ldc 49, 2) := by decide +kernel
theorem dX3_append_17 : decode cX3_append 17 = .ok (.invokespecial 51, 3) := by decide +kernel
theorem dX3_append_20 : decode cX3_append 20 = .ok (.athrow, 1) := by decide +kernel
theorem dX3_append_21 : decode cX3_append 21 = .ok (.aload_n 0, 1) := by decide +kernel
theorem dX3_append_22 : decode cX3_append 22 = .ok (.getfield 10, 3) := by decide +kernel
theorem dX3_append_25 : decode cX3_append 25 = .ok (.invokevirtual 54, 3) := by decide +kernel
theorem dX3_append_28 : decode cX3_append 28 = .ok (.ifCond .eq 13, 3) := by decide +kernel
theorem dX3_append_31 : decode cX3_append 31 = .ok (.new 58, 3) := by decide +kernel
theorem dX3_append_34 : decode cX3_append 34 = .ok (.dup, 1) := by decide +kernel
theorem dX3_append_35 : decode cX3_append 35 = .ok (.ldc 60, 2) := by decide +kernel
theorem dX3_append_37 : decode cX3_append 37 = .ok (.invokespecial 62, 3) := by decide +kernel
theorem dX3_append_40 : decode cX3_append 40 = .ok (.athrow, 1) := by decide +kernel
theorem dX3_append_41 : decode cX3_append 41 = .ok (.aload_n 0, 1) := by decide +kernel
theorem dX3_append_42 : decode cX3_append 42 = .ok (.getfield 10, 3) := by decide +kernel
theorem dX3_append_45 : decode cX3_append 45 = .ok (.iload_n 1, 1) := by decide +kernel
theorem dX3_append_46 : decode cX3_append 46 = .ok (.i2c, 1) := by decide +kernel
theorem dX3_append_47 : decode cX3_append 47 = .ok (.invokevirtual 63, 3) := by decide +kernel
theorem dX3_append_50 : decode cX3_append 50 = .ok (.ireturn, 1) := by decide +kernel
theorem dX3_clearText_0 : decode cX3_clearText 0 = .ok (.aload_n 0, 1) := by decide +kernel
theorem dX3_clearText_1 : decode cX3_clearText 1 = .ok (.getfield 10, 3) := by decide +kernel
theorem dX3_clearText_4 : decode cX3_clearText 4 = .ok (.invokevirtual 67, 3) := by decide +kernel
theorem dX3_clearText_7 : decode cX3_clearText 7 = .ok (.ireturn, 1) := by decide +kernel
theorem dX3_errorPosition_0 : decode cX3_errorPosition 0 = .ok (.aload_n 0, 1) := by decide +kernel
theorem dX3_errorPosition_1 : decode cX3_errorPosition 1 = .ok (.getfield 10, 3) := by decide +kernel
theorem dX3_errorPosition_4 : decode cX3_errorPosition 4 = .ok (.invokevirtual 71, 3) := by decide +kernel
theorem dX3_errorPosition_7 : decode cX3_errorPosition 7 = .ok (.ireturn, 1) := by decide +kernel
theorem dX3_load_0 : decode cX3_load 0 = .ok (.aload_n 0, 1) := by decide +kernel
theorem dX3_load_1 : decode cX3_load 1 = .ok (.getfield 10, 3) := by decide +kernel
theorem dX3_load_4 : decode cX3_load 4 = .ok (.invokevirtual 71, 3) := by decide +kernel
theorem dX3_load_7 : decode cX3_load 7 = .ok (.iconst (-1), 1) := by decide +kernel
theorem dX3_load_8 : decode cX3_load 8 = .ok (.if_icmp .eq 13, 3) := by decide +kernel
theorem dX3_load_11 : decode cX3_load 11 = .ok (.new 58, 3) := by decide +kernel
theorem dX3_load_14 : decode cX3_load 14 = .ok (.dup, 1) := by decide +kernel
theorem dX3_load_15 : decode cX3_load 15 = .ok (.ldc 74, 2) := by decide +kernel
theorem dX3_load_17 : decode cX3_load 17 = .ok (.invokespecial 62, 3) := by decide +kernel
theorem dX3_load_20 : decode cX3_load 20 = .ok (.athrow, 1) := by decide +kernel
theorem dX3_load_21 : decode cX3_load 21 = .ok (.aload_n 0, 1) := by decide +kernel
theorem dX3_load_22 : decode cX3_load 22 = .ok (.getfield 19, 3) := by decide +kernel
theorem dX3_load_25 : decode cX3_load 25 = .ok (.aload_n 0, 1) := by decide +kernel
theorem dX3_load_26 : decode cX3_load 26 = .ok (.getfield 38, 3) := by decide +kernel
theorem dX3_load_29 : decode cX3_load 29 = .ok (.invokevirtual 76, 3) := by decide +kernel
theorem dX3_load_32 : decode cX3_load 32 = .ok (.aload_n 0, 1) := by decide +kernel
theorem dX3_load_33 : decode cX3_load 33 = .ok (.getfield 26, 3) := by decide +kernel
theorem dX3_load_36 : decode cX3_load 36 = .ok (.invokevirtual 80, 3) := by decide +kernel
theorem dX3_load_39 : decode cX3_load 39 = .ok (.iconst 0, 1) := by decide +kernel
theorem dX3_load_40 : decode cX3_load 40 = .ok (.istore_n 1, 1) := by decide +kernel
theorem dX3_load_41 : decode cX3_load 41 = .ok (.iload_n 1, 1) := by decide +kernel
theorem dX3_load_42 : decode cX3_load 42 = .ok (.iconst 2, 1) := by decide +kernel
theorem dX3_load_43 : decode cX3_load 43 = .ok (.if_icmp .ge 16, 3) := by decide +kernel
theorem dX3_load_46 : decode cX3_load 46 = .ok (.aload_n 0, 1) := by decide +kernel
theorem dX3_load_47 : decode cX3_load 47 = .ok (.getfield 34, 3) := by decide +kernel
theorem dX3_load_50 : decode cX3_load 50 = .ok (.iload_n 1, 1) := by decide +kernel
theorem dX3_load_51 : decode cX3_load 51 = .ok (.iconst 0, 1) := by decide +kernel
theorem dX3_load_52 : decode cX3_load 52 = .ok (.bastore, 1) := by decide +kernel
theorem dX3_load_53 : decode cX3_load 53 = .ok (.iinc 1 1, 3) := by decide +kernel
theorem dX3_load_56 : decode cX3_load 56 = .ok (.goto (-15), 3) := by decide +kernel
theorem dX3_load_59 : decode cX3_load 59 = .ok (.iconst 0, 1) := by decide +kernel
theorem dX3_load_60 : decode cX3_load 60 = .ok (.istore_n 1, 1) := by decide +kernel
theorem dX3_load_61 : decode cX3_load 61 = .ok (.iconst 1, 1) := by decide +kernel
theorem dX3_load_62 : decode cX3_load 62 = .ok (.istore_n 2, 1) := by decide +kernel
theorem dX3_load_63 : decode cX3_load 63 = .ok (.iload_n 2, 1) := by decide +kernel
theorem dX3_load_64 : decode cX3_load 64 = .ok (.aload_n 0, 1) := by decide +kernel
theorem dX3_load_65 : decode cX3_load 65 = .ok (.getfield 10, 3) := by decide +kernel
theorem dX3_load_68 : decode cX3_load 68 = .ok (.getfield 83, 3) := by decide +kernel
theorem dX3_load_71 : decode cX3_load 71 = .ok (.if_icmp .ge 31, 3) := by decide +kernel
theorem dX3_load_74 : decode cX3_load 74 = .ok (.aload_n 0, 1) := by decide +kernel
theorem dX3_load_75 : decode cX3_load 75 = .ok (.getfield 10, 3) := by decide +kernel
theorem dX3_load_78 : decode cX3_load 78 = .ok (.iload_n 2, 1) := by decide +kernel
theorem dX3_load_79 : decode cX3_load 79 = .ok (.invokevirtual 87, 3) := by decide +kernel
theorem dX3_load_82 : decode cX3_load 82 = .ok (.ifCond .ne 14, 3) := by decide +kernel
theorem dX3_load_85 : decode cX3_load 85 = .ok (.aload_n 0, 1) := by decide +kernel
theorem dX3_load_86 : decode cX3_load 86 = .ok (.iload_n 2, 1) := by decide +kernel
theorem dX3_load_87 : decode cX3_load 87 = .ok (.invokevirtual 91, 3) := by decide +kernel
theorem dX3_load_90 : decode cX3_load 90 = .ok (.ifCond .ne 6, 3) := by decide +kernel
theorem dX3_load_93 : decode cX3_load 93 = .ok (.iinc 1 1, 3) := by decide +kernel
theorem dX3_load_96 : decode cX3_load 96 = .ok (.iinc 2 1, 3) := by decide +kernel
theorem dX3_load_99 : decode cX3_load 99 = .ok (.goto (-36), 3) := by decide +kernel
theorem dX3_load_102 : decode cX3_load 102 = .ok (.iload_n 1, 1) := by decide +kernel
theorem dX3_load_103 : decode cX3_load 103 = .ok (.ireturn, 1) := by decide +kernel
theorem dX3_obeyText_0 : decode cX3_obeyText 0 = .ok (.aload_n 0, 1) := by decide +kernel
theorem dX3_obeyText_1 : decode cX3_obeyText 1 = .ok (.getfield 10, 3) := by decide +kernel
theorem dX3_obeyText_4 : decode cX3_obeyText 4 = .ok (.iload_n 1, 1) := by decide +kernel
theorem dX3_obeyText_5 : decode cX3_obeyText 5 = .ok (.iconst 1, 1) := by decide +kernel
theorem dX3_obeyText_6 : decode cX3_obeyText 6 = .ok (.iadd, 1) := by decide +kernel
theorem dX3_obeyText_7 : decode cX3_obeyText 7 = .ok (.iconst 1, 1) := by decide +kernel
theorem dX3_obeyText_8 : decode cX3_obeyText 8 = .ok (.invokevirtual 94, 3) := by decide +kernel
theorem dX3_obeyText_11 : decode cX3_obeyText 11 = .ok (.istore_n 2, 1) := by decide +kernel
theorem dX3_obeyText_12 : decode cX3_obeyText 12 = .ok (.aload_n 0, 1) := by decide +kernel
theorem dX3_obeyText_13 : decode cX3_obeyText 13 = .ok (.getfield 10, 3) := by decide +kernel
theorem dX3_obeyText_16 : decode cX3_obeyText 16 = .ok (.iload_n 1, 1) := by decide +kernel
theorem dX3_obeyText_17 : decode cX3_obeyText 17 = .ok (.iconst 2, 1) := by decide +kernel
theorem dX3_obeyText_18 : decode cX3_obeyText 18 = .ok (.iadd, 1) := by decide +kernel
theorem dX3_obeyText_19 : decode cX3_obeyText 19 = .ok (.iconst 2, 1) := by decide +kernel
theorem dX3_obeyText_20 : decode cX3_obeyText 20 = .ok (.invokevirtual 94, 3) := by decide +kernel
theorem dX3_obeyText_23 : decode cX3_obeyText 23 = .ok (.istore_n 3, 1) := by decide +kernel
theorem dX3_obeyText_24 : decode cX3_obeyText 24 = .ok (.aload_n 0, 1) := by decide +kernel
theorem dX3_obeyText_25 : decode cX3_obeyText 25 = .ok (.getfield 10, 3) := by decide +kernel
theorem dX3_obeyText_28 : decode cX3_obeyText 28 = .ok (.iload_n 1, 1) := by decide +kernel
theorem dX3_obeyText_29 : decode cX3_obeyText 29 = .ok (.invokevirtual 98, 3) := by decide +kernel
theorem dX3_obeyText_32 : decode cX3_obeyText 32 = .ok (.lookupswitch 122 #[(102, 112), (115, 44), (116, 102), (119, 83)], 44) := by decide +kernel
theorem dX3_obeyText_76 : decode cX3_obeyText 76 = .ok (.aload_n 0, 1) := by decide +kernel
theorem dX3_obeyText_77 : decode cX3_obeyText 77 = .ok (.getfield 19, 3) := by decide +kernel
theorem dX3_obeyText_80 : decode cX3_obeyText 80 = .ok (.aload_n 0, 1) := by decide +kernel
theorem dX3_obeyText_81 : decode cX3_obeyText 81 = .ok (.getfield 10, 3) := by decide +kernel
theorem dX3_obeyText_84 : decode cX3_obeyText 84 = .ok (.iload_n 1, 1) := by decide +kernel
theorem dX3_obeyText_85 : decode cX3_obeyText 85 = .ok (.iconst 1, 1) := by decide +kernel
theorem dX3_obeyText_86 : decode cX3_obeyText 86 = .ok (.iadd, 1) := by decide +kernel
theorem dX3_obeyText_87 : decode cX3_obeyText 87 = .ok (.iconst 2, 1) := by decide +kernel
theorem dX3_obeyText_88 : decode cX3_obeyText 88 = .ok (.invokevirtual 94, 3) := by decide +kernel
theorem dX3_obeyText_91 : decode cX3_obeyText 91 = .ok (.aload_n 0, 1) := by decide +kernel
theorem dX3_obeyText_92 : decode cX3_obeyText 92 = .ok (.getfield 10, 3) := by decide +kernel
theorem dX3_obeyText_95 : decode cX3_obeyText 95 = .ok (.iload_n 1, 1) := by decide +kernel
theorem dX3_obeyText_96 : decode cX3_obeyText 96 = .ok (.iconst 3, 1) := by decide +kernel
theorem dX3_obeyText_97 : decode cX3_obeyText 97 = .ok (.iadd, 1) := by decide +kernel
theorem dX3_obeyText_98 : decode cX3_obeyText 98 = .ok (.iconst 2, 1) := by decide +kernel
theorem dX3_obeyText_99 : decode cX3_obeyText 99 = .ok (.invokevirtual 94, 3) := by decide +kernel
theorem dX3_obeyText_102 : decode cX3_obeyText 102 = .ok (.invokevirtual 102, 3) := by decide +kernel
theorem dX3_obeyText_105 : decode cX3_obeyText 105 = .ok (.iconst (-1), 1) := by decide +kernel
theorem dX3_obeyText_106 : decode cX3_obeyText 106 = .ok (.if_icmp .eq 7, 3) := by decide +kernel
theorem dX3_obeyText_109 : decode cX3_obeyText 109 = .ok (.iconst 1, 1) := by decide +kernel
theorem dX3_obeyText_110 : decode cX3_obeyText 110 = .ok (.goto 4, 3) := by decide +kernel
theorem dX3_obeyText_113 : decode cX3_obeyText 113 = .ok (.iconst 0, 1) := by decide +kernel
theorem dX3_obeyText_114 : decode cX3_obeyText 114 = .ok (.ireturn, 1) := by decide +kernel
theorem dX3_obeyText_115 : decode cX3_obeyText 115 = .ok (.aload_n 0, 1) := by decide +kernel
theorem dX3_obeyText_116 : decode cX3_obeyText 116 = .ok (.getfield 19, 3) := by decide +kernel
theorem dX3_obeyText_119 : decode cX3_obeyText 119 = .ok (.iload_n 2, 1) := by decide +kernel
theorem dX3_obeyText_120 : decode cX3_obeyText 120 = .ok (.iload_n 3, 1) := by decide +kernel
theorem dX3_obeyText_121 : decode cX3_obeyText 121 = .ok (.invokevirtual 105, 3) := by decide +kernel
theorem dX3_obeyText_124 : decode cX3_obeyText 124 = .ok (.iconst (-1), 1) := by decide +kernel
theorem dX3_obeyText_125 : decode cX3_obeyText 125 = .ok (.if_icmp .eq 7, 3) := by decide +kernel
theorem dX3_obeyText_128 : decode cX3_obeyText 128 = .ok (.iconst 1, 1) := by decide +kernel
theorem dX3_obeyText_129 : decode cX3_obeyText 129 = .ok (.goto 4, 3) := by decide +kernel
theorem dX3_obeyText_132 : decode cX3_obeyText 132 = .ok (.iconst 0, 1) := by decide +kernel
theorem dX3_obeyText_133 : decode cX3_obeyText 133 = .ok (.ireturn, 1) := by decide +kernel
theorem dX3_obeyText_134 : decode cX3_obeyText 134 = .ok (.aload_n 0, 1) := by decide +kernel
theorem dX3_obeyText_135 : decode cX3_obeyText 135 = .ok (.getfield 19, 3) := by decide +kernel
theorem dX3_obeyText_138 : decode cX3_obeyText 138 = .ok (.iload_n 2, 1) := by decide +kernel
theorem dX3_obeyText_139 : decode cX3_obeyText 139 = .ok (.iload_n 3, 1) := by decide +kernel
theorem dX3_obeyText_140 : decode cX3_obeyText 140 = .ok (.invokevirtual 108, 3) := by decide +kernel
theorem dX3_obeyText_143 : decode cX3_obeyText 143 = .ok (.ireturn, 1) := by decide +kernel
theorem dX3_obeyText_144 : decode cX3_obeyText 144 = .ok (.aload_n 0, 1) := by decide +kernel
theorem dX3_obeyText_145 : decode cX3_obeyText 145 = .ok (.getfield 19, 3) := by decide +kernel
theorem dX3_obeyText_148 : decode cX3_obeyText 148 = .ok (.iload_n 2, 1) := by decide +kernel
theorem dX3_obeyText_149 : decode cX3_obeyText 149 = .ok (.iload_n 3, 1) := by decide +kernel
theorem dX3_obeyText_150 : decode cX3_obeyText 150 = .ok (.invokevirtual 112, 3) := by decide +kernel
theorem dX3_obeyText_153 : decode cX3_obeyText 153 = .ok (.ireturn, 1) := by decide +kernel
theorem dX3_obeyText_154 : decode cX3_obeyText 154 = .ok (.aload_n 0, 1) := by decide +kernel
theorem dX3_obeyText_155 : decode cX3_obeyText 155 = .ok (.getfield 10, 3) := by decide +kernel
theorem dX3_obeyText_158 : decode cX3_obeyText 158 = .ok (.iload_n 1, 1) := by decide +kernel
theorem dX3_obeyText_159 : decode cX3_obeyText 159 = .ok (.iconst 4, 1) := by decide +kernel
theorem dX3_obeyText_160 : decode cX3_obeyText 160 = .ok (.iadd, 1) := by decide +kernel
theorem dX3_obeyText_161 : decode cX3_obeyText 161 = .ok (.iconst 2, 1) := by decide +kernel
theorem dX3_obeyText_162 : decode cX3_obeyText 162 = .ok (.invokevirtual 94, 3) := by decide +kernel
theorem dX3_obeyText_165 : decode cX3_obeyText 165 = .ok (.istore 4, 2) := by decide +kernel
theorem dX3_obeyText_167 : decode cX3_obeyText 167 = .ok (.iconst 1, 1) := by decide +kernel
theorem dX3_obeyText_168 : decode cX3_obeyText 168 = .ok (.istore 5, 2) := by decide +kernel
theorem dX3_obeyText_170 : decode cX3_obeyText 170 = .ok (.iload_n 3, 1) := by decide +kernel
theorem dX3_obeyText_171 : decode cX3_obeyText 171 = .ok (.istore 6, 2) := by decide +kernel
theorem dX3_obeyText_173 : decode cX3_obeyText 173 = .ok (.iload 6, 2) := by decide +kernel
theorem dX3_obeyText_175 : decode cX3_obeyText 175 = .ok (.iload 4, 2) := by decide +kernel
theorem dX3_obeyText_177 : decode cX3_obeyText 177 = .ok (.if_icmp .gt 30, 3) := by decide +kernel
theorem dX3_obeyText_180 : decode cX3_obeyText 180 = .ok (.aload_n 0, 1) := by decide +kernel
theorem dX3_obeyText_181 : decode cX3_obeyText 181 = .ok (.getfield 19, 3) := by decide +kernel
theorem dX3_obeyText_184 : decode cX3_obeyText 184 = .ok (.iload_n 2, 1) := by decide +kernel
theorem dX3_obeyText_185 : decode cX3_obeyText 185 = .ok (.iload 6, 2) := by decide +kernel
theorem dX3_obeyText_187 : decode cX3_obeyText 187 = .ok (.invokevirtual 105, 3) := by decide +kernel
theorem dX3_obeyText_190 : decode cX3_obeyText 190 = .ok (.iconst (-1), 1) := by decide +kernel
theorem dX3_obeyText_191 : decode cX3_obeyText 191 = .ok (.if_icmp .eq 7, 3) := by decide +kernel
theorem dX3_obeyText_194 : decode cX3_obeyText 194 = .ok (.iconst 1, 1) := by decide +kernel
theorem dX3_obeyText_195 : decode cX3_obeyText 195 = .ok (.goto 4, 3) := by decide +kernel
theorem dX3_obeyText_198 : decode cX3_obeyText 198 = .ok (.iconst 0, 1) := by decide +kernel
theorem dX3_obeyText_199 : decode cX3_obeyText 199 = .ok (.istore 5, 2) := by decide +kernel
theorem dX3_obeyText_201 : decode cX3_obeyText 201 = .ok (.iinc 6 1, 3) := by decide +kernel
theorem dX3_obeyText_204 : decode cX3_obeyText 204 = .ok (.goto (-31), 3) := by decide +kernel
theorem dX3_obeyText_207 : decode cX3_obeyText 207 = .ok (.iload 5, 2) := by decide +kernel
theorem dX3_obeyText_209 : decode cX3_obeyText 209 = .ok (.ireturn, 1) := by decide +kernel
theorem dX3_about_0 : decode cX3_about 0 = .ok (.iload_n 1, 1) := by decide +kernel
theorem dX3_about_1 : decode cX3_about 1 = .ok (.ifCond .lt 9, 3) := by decide +kernel
theorem dX3_about_4 : decode cX3_about 4 = .ok (.iload_n 1, 1) := by decide +kernel
theorem dX3_about_5 : decode cX3_about 5 = .ok (.bipush 8, 2) := by decide +kernel
theorem dX3_about_7 : decode cX3_about 7 = .ok (.if_icmp .le 13, 3) := by decide +kernel
theorem dX3_about_10 : decode cX3_about 10 = .ok (.new 47, 3) := by decide +kernel
theorem dX3_about_13 : decode cX3_about 13 = .ok (.dup, 1) := by decide +kernel
theorem dX3_about_14 : decode cX3_about 14 = .ok (.ldc 115, 2) := by decide +kernel
theorem dX3_about_16 : decode cX3_about 16 = .ok (.invokespecial 51, 3) := by decide +kernel
theorem dX3_about_19 : decode cX3_about 19 = .ok (.athrow, 1) := by decide +kernel
theorem dX3_about_20 : decode cX3_about 20 = .ok (.aload_n 0, 1) := by decide +kernel
theorem dX3_about_21 : decode cX3_about 21 = .ok (.getfield 19, 3) := by decide +kernel
theorem dX3_about_24 : decode cX3_about 24 = .ok (.iload_n 1, 1) := by decide +kernel
theorem dX3_about_25 : decode cX3_about 25 = .ok (.invokevirtual 117, 3) := by decide +kernel
theorem dX3_about_28 : decode cX3_about 28 = .ok (.ireturn, 1) := by decide +kernel
theorem dX3_space_0 : decode cX3_space 0 = .ok (.aload_n 0, 1) := by decide +kernel
theorem dX3_space_1 : decode cX3_space 1 = .ok (.iload_n 1, 1) := by decide +kernel
theorem dX3_space_2 : decode cX3_space 2 = .ok (.invokevirtual 121, 3) := by decide +kernel
theorem dX3_space_5 : decode cX3_space 5 = .ok (.iload_n 2, 1) := by decide +kernel
theorem dX3_space_6 : decode cX3_space 6 = .ok (.ifCond .lt 9, 3) := by decide +kernel
theorem dX3_space_9 : decode cX3_space 9 = .ok (.iload_n 2, 1) := by decide +kernel
theorem dX3_space_10 : decode cX3_space 10 = .ok (.bipush 10, 2) := by decide +kernel
theorem dX3_space_12 : decode cX3_space 12 = .ok (.if_icmp .le 13, 3) := by decide +kernel
theorem dX3_space_15 : decode cX3_space 15 = .ok (.new 47, 3) := by decide +kernel
theorem dX3_space_18 : decode cX3_space 18 = .ok (.dup, 1) := by decide +kernel
theorem dX3_space_19 : decode cX3_space 19 = .ok (.ldc 115, 2) := by decide +kernel
theorem dX3_space_21 : decode cX3_space 21 = .ok (.invokespecial 51, 3) := by decide +kernel
theorem dX3_space_24 : decode cX3_space 24 = .ok (.athrow, 1) := by decide +kernel
theorem dX3_space_25 : decode cX3_space 25 = .ok (.iload_n 2, 1) := by decide +kernel
theorem dX3_space_26 : decode cX3_space 26 = .ok (.bipush 8, 2) := by decide +kernel
theorem dX3_space_28 : decode cX3_space 28 = .ok (.if_icmp .ge 15, 3) := by decide +kernel
theorem dX3_space_31 : decode cX3_space 31 = .ok (.aload_n 0, 1) := by decide +kernel
theorem dX3_space_32 : decode cX3_space 32 = .ok (.getfield 19, 3) := by decide +kernel
theorem dX3_space_35 : decode cX3_space 35 = .ok (.iload_n 1, 1) := by decide +kernel
theorem dX3_space_36 : decode cX3_space 36 = .ok (.iload_n 2, 1) := by decide +kernel
theorem dX3_space_37 : decode cX3_space 37 = .ok (.invokevirtual 125, 3) := by decide +kernel
theorem dX3_space_40 : decode cX3_space 40 = .ok (.goto 12, 3) := by decide +kernel
theorem dX3_space_43 : decode cX3_space 43 = .ok (.aload_n 0, 1) := by decide +kernel
theorem dX3_space_44 : decode cX3_space 44 = .ok (.getfield 19, 3) := by decide +kernel
theorem dX3_space_47 : decode cX3_space 47 = .ok (.iload_n 1, 1) := by decide +kernel
theorem dX3_space_48 : decode cX3_space 48 = .ok (.iload_n 2, 1) := by decide +kernel
theorem dX3_space_49 : decode cX3_space 49 = .ok (.invokevirtual 128, 3) := by decide +kernel
theorem dX3_space_52 : decode cX3_space 52 = .ok (.ireturn, 1) := by decide +kernel
theorem dX3_loans_0 : decode cX3_loans 0 = .ok (.aload_n 0, 1) := by decide +kernel
theorem dX3_loans_1 : decode cX3_loans 1 = .ok (.iload_n 1, 1) := by decide +kernel
theorem dX3_loans_2 : decode cX3_loans 2 = .ok (.invokevirtual 121, 3) := by decide +kernel
theorem dX3_loans_5 : decode cX3_loans 5 = .ok (.aload_n 0, 1) := by decide +kernel
theorem dX3_loans_6 : decode cX3_loans 6 = .ok (.iload_n 2, 1) := by decide +kernel
theorem dX3_loans_7 : decode cX3_loans 7 = .ok (.invokevirtual 121, 3) := by decide +kernel
theorem dX3_loans_10 : decode cX3_loans 10 = .ok (.aload_n 0, 1) := by decide +kernel
theorem dX3_loans_11 : decode cX3_loans 11 = .ok (.getfield 19, 3) := by decide +kernel
theorem dX3_loans_14 : decode cX3_loans 14 = .ok (.getfield 131, 3) := by decide +kernel
theorem dX3_loans_17 : decode cX3_loans 17 = .ok (.iload_n 1, 1) := by decide +kernel
theorem dX3_loans_18 : decode cX3_loans 18 = .ok (.aaload, 1) := by decide +kernel
theorem dX3_loans_19 : decode cX3_loans 19 = .ok (.iload_n 2, 1) := by decide +kernel
theorem dX3_loans_20 : decode cX3_loans 20 = .ok (.iaload, 1) := by decide +kernel
theorem dX3_loans_21 : decode cX3_loans 21 = .ok (.ireturn, 1) := by decide +kernel
theorem dX3_time_0 : decode cX3_time 0 = .ok (.aload_n 0, 1) := by decide +kernel
theorem dX3_time_1 : decode cX3_time 1 = .ok (.iload_n 1, 1) := by decide +kernel
theorem dX3_time_2 : decode cX3_time 2 = .ok (.iload_n 2, 1) := by decide +kernel
theorem dX3_time_3 : decode cX3_time 3 = .ok (.invokevirtual 135, 3) := by decide +kernel
theorem dX3_time_6 : decode cX3_time 6 = .ok (.aload_n 0, 1) := by decide +kernel
theorem dX3_time_7 : decode cX3_time 7 = .ok (.getfield 19, 3) := by decide +kernel
theorem dX3_time_10 : decode cX3_time 10 = .ok (.iload_n 1, 1) := by decide +kernel
theorem dX3_time_11 : decode cX3_time 11 = .ok (.iload_n 2, 1) := by decide +kernel
theorem dX3_time_12 : decode cX3_time 12 = .ok (.invokevirtual 139, 3) := by decide +kernel
theorem dX3_time_15 : decode cX3_time 15 = .ok (.ifCond .eq 17, 3) := by decide +kernel
theorem dX3_time_18 : decode cX3_time 18 = .ok (.aload_n 0, 1) := by decide +kernel
theorem dX3_time_19 : decode cX3_time 19 = .ok (.getfield 19, 3) := by decide +kernel
theorem dX3_time_22 : decode cX3_time 22 = .ok (.getfield 142, 3) := by decide +kernel
theorem dX3_time_25 : decode cX3_time 25 = .ok (.iload_n 1, 1) := by decide +kernel
theorem dX3_time_26 : decode cX3_time 26 = .ok (.aaload, 1) := by decide +kernel
theorem dX3_time_27 : decode cX3_time 27 = .ok (.iload_n 2, 1) := by decide +kernel
theorem dX3_time_28 : decode cX3_time 28 = .ok (.iaload, 1) := by decide +kernel
theorem dX3_time_29 : decode cX3_time 29 = .ok (.goto 4, 3) := by decide +kernel
theorem dX3_time_32 : decode cX3_time 32 = .ok (.iconst (-1), 1) := by decide +kernel
theorem dX3_time_33 : decode cX3_time 33 = .ok (.ireturn, 1) := by decide +kernel
theorem dX3_oldest_0 : decode cX3_oldest 0 = .ok (.aload_n 0, 1) := by decide +kernel
theorem dX3_oldest_1 : decode cX3_oldest 1 = .ok (.iload_n 1, 1) := by decide +kernel
theorem dX3_oldest_2 : decode cX3_oldest 2 = .ok (.invokevirtual 121, 3) := by decide +kernel
theorem dX3_oldest_5 : decode cX3_oldest 5 = .ok (.iload_n 2, 1) := by decide +kernel
theorem dX3_oldest_6 : decode cX3_oldest 6 = .ok (.ifCond .ge 13, 3) := by decide +kernel
theorem dX3_oldest_9 : decode cX3_oldest 9 = .ok (.new 47, 3) := by decide +kernel
theorem dX3_oldest_12 : decode cX3_oldest 12 = .ok (.dup, 1) := by decide +kernel
theorem dX3_oldest_13 : decode cX3_oldest 13 = .ok (.ldc 145, 2) := by decide +kernel
theorem dX3_oldest_15 : decode cX3_oldest 15 = .ok (.invokespecial 51, 3) := by decide +kernel
theorem dX3_oldest_18 : decode cX3_oldest 18 = .ok (.athrow, 1) := by decide +kernel
theorem dX3_oldest_19 : decode cX3_oldest 19 = .ok (.aload_n 0, 1) := by decide +kernel
theorem dX3_oldest_20 : decode cX3_oldest 20 = .ok (.getfield 19, 3) := by decide +kernel
theorem dX3_oldest_23 : decode cX3_oldest 23 = .ok (.iload_n 1, 1) := by decide +kernel
theorem dX3_oldest_24 : decode cX3_oldest 24 = .ok (.iload_n 2, 1) := by decide +kernel
theorem dX3_oldest_25 : decode cX3_oldest 25 = .ok (.invokevirtual 147, 3) := by decide +kernel
theorem dX3_oldest_28 : decode cX3_oldest 28 = .ok (.ireturn, 1) := by decide +kernel
theorem dX3_make_0 : decode cX3_make 0 = .ok (.aload_n 0, 1) := by decide +kernel
theorem dX3_make_1 : decode cX3_make 1 = .ok (.getfield 19, 3) := by decide +kernel
theorem dX3_make_4 : decode cX3_make 4 = .ok (.iload_n 1, 1) := by decide +kernel
theorem dX3_make_5 : decode cX3_make 5 = .ok (.iload_n 2, 1) := by decide +kernel
theorem dX3_make_6 : decode cX3_make 6 = .ok (.invokevirtual 150, 3) := by decide +kernel
theorem dX3_make_9 : decode cX3_make 9 = .ok (.ifCond .ne 13, 3) := by decide +kernel
theorem dX3_make_12 : decode cX3_make 12 = .ok (.new 47, 3) := by decide +kernel
theorem dX3_make_15 : decode cX3_make 15 = .ok (.dup, 1) := by decide +kernel
theorem dX3_make_16 : decode cX3_make 16 = .ok (.ldc 153, 2) := by decide +kernel
theorem dX3_make_18 : decode cX3_make 18 = .ok (.invokespecial 51, 3) := by decide +kernel
theorem dX3_make_21 : decode cX3_make 21 = .ok (.athrow, 1) := by decide +kernel
theorem dX3_make_22 : decode cX3_make 22 = .ok (.aload_n 0, 1) := by decide +kernel
theorem dX3_make_23 : decode cX3_make 23 = .ok (.getfield 19, 3) := by decide +kernel
theorem dX3_make_26 : decode cX3_make 26 = .ok (.iload_n 1, 1) := by decide +kernel
theorem dX3_make_27 : decode cX3_make 27 = .ok (.invokevirtual 155, 3) := by decide +kernel
theorem dX3_make_30 : decode cX3_make 30 = .ok (.ifCond .ne 13, 3) := by decide +kernel
theorem dX3_make_33 : decode cX3_make 33 = .ok (.new 58, 3) := by decide +kernel
theorem dX3_make_36 : decode cX3_make 36 = .ok (.dup, 1) := by decide +kernel
theorem dX3_make_37 : decode cX3_make 37 = .ok (.ldc 158, 2) := by decide +kernel
theorem dX3_make_39 : decode cX3_make 39 = .ok (.invokespecial 62, 3) := by decide +kernel
theorem dX3_make_42 : decode cX3_make 42 = .ok (.athrow, 1) := by decide +kernel
theorem dX3_make_43 : decode cX3_make 43 = .ok (.aload_n 0, 1) := by decide +kernel
theorem dX3_make_44 : decode cX3_make 44 = .ok (.getfield 26, 3) := by decide +kernel
theorem dX3_make_47 : decode cX3_make 47 = .ok (.aload_n 0, 1) := by decide +kernel
theorem dX3_make_48 : decode cX3_make 48 = .ok (.getfield 19, 3) := by decide +kernel
theorem dX3_make_51 : decode cX3_make 51 = .ok (.invokevirtual 160, 3) := by decide +kernel
theorem dX3_make_54 : decode cX3_make 54 = .ok (.aload_n 0, 1) := by decide +kernel
theorem dX3_make_55 : decode cX3_make 55 = .ok (.getfield 19, 3) := by decide +kernel
theorem dX3_make_58 : decode cX3_make 58 = .ok (.iload_n 1, 1) := by decide +kernel
theorem dX3_make_59 : decode cX3_make 59 = .ok (.iload_n 2, 1) := by decide +kernel
theorem dX3_make_60 : decode cX3_make 60 = .ok (.invokevirtual 102, 3) := by decide +kernel
theorem dX3_make_63 : decode cX3_make 63 = .ok (.ireturn, 1) := by decide +kernel
theorem dX3_write_0 : decode cX3_write 0 = .ok (.aload_n 0, 1) := by decide +kernel
theorem dX3_write_1 : decode cX3_write 1 = .ok (.iload_n 1, 1) := by decide +kernel
theorem dX3_write_2 : decode cX3_write 2 = .ok (.iload_n 2, 1) := by decide +kernel
theorem dX3_write_3 : decode cX3_write 3 = .ok (.invokevirtual 135, 3) := by decide +kernel
theorem dX3_write_6 : decode cX3_write 6 = .ok (.aload_n 0, 1) := by decide +kernel
theorem dX3_write_7 : decode cX3_write 7 = .ok (.getfield 26, 3) := by decide +kernel
theorem dX3_write_10 : decode cX3_write 10 = .ok (.aload_n 0, 1) := by decide +kernel
theorem dX3_write_11 : decode cX3_write 11 = .ok (.getfield 19, 3) := by decide +kernel
theorem dX3_write_14 : decode cX3_write 14 = .ok (.invokevirtual 160, 3) := by decide +kernel
theorem dX3_write_17 : decode cX3_write 17 = .ok (.aload_n 0, 1) := by decide +kernel
theorem dX3_write_18 : decode cX3_write 18 = .ok (.getfield 19, 3) := by decide +kernel
theorem dX3_write_21 : decode cX3_write 21 = .ok (.iload_n 1, 1) := by decide +kernel
theorem dX3_write_22 : decode cX3_write 22 = .ok (.iload_n 2, 1) := by decide +kernel
theorem dX3_write_23 : decode cX3_write 23 = .ok (.invokevirtual 105, 3) := by decide +kernel
theorem dX3_write_26 : decode cX3_write 26 = .ok (.ireturn, 1) := by decide +kernel
theorem dX3_trim_0 : decode cX3_trim 0 = .ok (.aload_n 0, 1) := by decide +kernel
theorem dX3_trim_1 : decode cX3_trim 1 = .ok (.iload_n 1, 1) := by decide +kernel
theorem dX3_trim_2 : decode cX3_trim 2 = .ok (.iload_n 2, 1) := by decide +kernel
theorem dX3_trim_3 : decode cX3_trim 3 = .ok (.invokevirtual 135, 3) := by decide +kernel
theorem dX3_trim_6 : decode cX3_trim 6 = .ok (.aload_n 0, 1) := by decide +kernel
theorem dX3_trim_7 : decode cX3_trim 7 = .ok (.getfield 19, 3) := by decide +kernel
theorem dX3_trim_10 : decode cX3_trim 10 = .ok (.iload_n 1, 1) := by decide +kernel
theorem dX3_trim_11 : decode cX3_trim 11 = .ok (.iload_n 2, 1) := by decide +kernel
theorem dX3_trim_12 : decode cX3_trim 12 = .ok (.invokevirtual 139, 3) := by decide +kernel
theorem dX3_trim_15 : decode cX3_trim 15 = .ok (.ifCond .ne 13, 3) := by decide +kernel
theorem dX3_trim_18 : decode cX3_trim 18 = .ok (.new 58, 3) := by decide +kernel
theorem dX3_trim_21 : decode cX3_trim 21 = .ok (.dup, 1) := by decide +kernel
theorem dX3_trim_22 : decode cX3_trim 22 = .ok (.ldc 163, 2) := by decide +kernel
theorem dX3_trim_24 : decode cX3_trim 24 = .ok (.invokespecial 62, 3) := by decide +kernel
theorem dX3_trim_27 : decode cX3_trim 27 = .ok (.athrow, 1) := by decide +kernel
theorem dX3_trim_28 : decode cX3_trim 28 = .ok (.aload_n 0, 1) := by decide +kernel
theorem dX3_trim_29 : decode cX3_trim 29 = .ok (.getfield 26, 3) := by decide +kernel
theorem dX3_trim_32 : decode cX3_trim 32 = .ok (.aload_n 0, 1) := by decide +kernel
theorem dX3_trim_33 : decode cX3_trim 33 = .ok (.getfield 19, 3) := by decide +kernel
theorem dX3_trim_36 : decode cX3_trim 36 = .ok (.invokevirtual 160, 3) := by decide +kernel
theorem dX3_trim_39 : decode cX3_trim 39 = .ok (.aload_n 0, 1) := by decide +kernel
theorem dX3_trim_40 : decode cX3_trim 40 = .ok (.getfield 19, 3) := by decide +kernel
theorem dX3_trim_43 : decode cX3_trim 43 = .ok (.iload_n 1, 1) := by decide +kernel
theorem dX3_trim_44 : decode cX3_trim 44 = .ok (.iload_n 2, 1) := by decide +kernel
theorem dX3_trim_45 : decode cX3_trim 45 = .ok (.invokevirtual 108, 3) := by decide +kernel
theorem dX3_trim_48 : decode cX3_trim 48 = .ok (.pop, 1) := by decide +kernel
theorem dX3_trim_49 : decode cX3_trim 49 = .ok (.aload_n 0, 1) := by decide +kernel
theorem dX3_trim_50 : decode cX3_trim 50 = .ok (.getfield 19, 3) := by decide +kernel
theorem dX3_trim_53 : decode cX3_trim 53 = .ok (.iload_n 1, 1) := by decide +kernel
theorem dX3_trim_54 : decode cX3_trim 54 = .ok (.invokevirtual 165, 3) := by decide +kernel
theorem dX3_trim_57 : decode cX3_trim 57 = .ok (.ireturn, 1) := by decide +kernel
theorem dX3_setFloor_0 : decode cX3_setFloor 0 = .ok (.aload_n 0, 1) := by decide +kernel
theorem dX3_setFloor_1 : decode cX3_setFloor 1 = .ok (.iload_n 1, 1) := by decide +kernel
theorem dX3_setFloor_2 : decode cX3_setFloor 2 = .ok (.invokevirtual 121, 3) := by decide +kernel
theorem dX3_setFloor_5 : decode cX3_setFloor 5 = .ok (.iload_n 2, 1) := by decide +kernel
theorem dX3_setFloor_6 : decode cX3_setFloor 6 = .ok (.ifCond .lt 9, 3) := by decide +kernel
theorem dX3_setFloor_9 : decode cX3_setFloor 9 = .ok (.iload_n 2, 1) := by decide +kernel
theorem dX3_setFloor_10 : decode cX3_setFloor 10 = .ok (.bipush 60, 2) := by decide +kernel
theorem dX3_setFloor_12 : decode cX3_setFloor 12 = .ok (.if_icmp .le 13, 3) := by decide +kernel
theorem dX3_setFloor_15 : decode cX3_setFloor 15 = .ok (.new 47, 3) := by decide +kernel
theorem dX3_setFloor_18 : decode cX3_setFloor 18 = .ok (.dup, 1) := by decide +kernel
theorem dX3_setFloor_19 : decode cX3_setFloor 19 = .ok (.ldc 168, 2) := by decide +kernel
theorem dX3_setFloor_21 : decode cX3_setFloor 21 = .ok (.invokespecial 51, 3) := by decide +kernel
theorem dX3_setFloor_24 : decode cX3_setFloor 24 = .ok (.athrow, 1) := by decide +kernel
theorem dX3_setFloor_25 : decode cX3_setFloor 25 = .ok (.aload_n 0, 1) := by decide +kernel
theorem dX3_setFloor_26 : decode cX3_setFloor 26 = .ok (.getfield 19, 3) := by decide +kernel
theorem dX3_setFloor_29 : decode cX3_setFloor 29 = .ok (.iload_n 1, 1) := by decide +kernel
theorem dX3_setFloor_30 : decode cX3_setFloor 30 = .ok (.iload_n 2, 1) := by decide +kernel
theorem dX3_setFloor_31 : decode cX3_setFloor 31 = .ok (.invokevirtual 170, 3) := by decide +kernel
theorem dX3_setFloor_34 : decode cX3_setFloor 34 = .ok (.ifCond .ne 13, 3) := by decide +kernel
theorem dX3_setFloor_37 : decode cX3_setFloor 37 = .ok (.new 58, 3) := by decide +kernel
theorem dX3_setFloor_40 : decode cX3_setFloor 40 = .ok (.dup, 1) := by decide +kernel
theorem dX3_setFloor_41 : decode cX3_setFloor 41 = .ok (.ldc 173, 2) := by decide +kernel
theorem dX3_setFloor_43 : decode cX3_setFloor 43 = .ok (.invokespecial 62, 3) := by decide +kernel
theorem dX3_setFloor_46 : decode cX3_setFloor 46 = .ok (.athrow, 1) := by decide +kernel
theorem dX3_setFloor_47 : decode cX3_setFloor 47 = .ok (.aload_n 0, 1) := by decide +kernel
theorem dX3_setFloor_48 : decode cX3_setFloor 48 = .ok (.getfield 26, 3) := by decide +kernel
theorem dX3_setFloor_51 : decode cX3_setFloor 51 = .ok (.aload_n 0, 1) := by decide +kernel
theorem dX3_setFloor_52 : decode cX3_setFloor 52 = .ok (.getfield 19, 3) := by decide +kernel
theorem dX3_setFloor_55 : decode cX3_setFloor 55 = .ok (.invokevirtual 160, 3) := by decide +kernel
theorem dX3_setFloor_58 : decode cX3_setFloor 58 = .ok (.aload_n 0, 1) := by decide +kernel
theorem dX3_setFloor_59 : decode cX3_setFloor 59 = .ok (.getfield 19, 3) := by decide +kernel
theorem dX3_setFloor_62 : decode cX3_setFloor 62 = .ok (.getfield 175, 3) := by decide +kernel
theorem dX3_setFloor_65 : decode cX3_setFloor 65 = .ok (.iload_n 1, 1) := by decide +kernel
theorem dX3_setFloor_66 : decode cX3_setFloor 66 = .ok (.iaload, 1) := by decide +kernel
theorem dX3_setFloor_67 : decode cX3_setFloor 67 = .ok (.istore_n 3, 1) := by decide +kernel
theorem dX3_setFloor_68 : decode cX3_setFloor 68 = .ok (.aload_n 0, 1) := by decide +kernel
theorem dX3_setFloor_69 : decode cX3_setFloor 69 = .ok (.getfield 19, 3) := by decide +kernel
theorem dX3_setFloor_72 : decode cX3_setFloor 72 = .ok (.iload_n 1, 1) := by decide +kernel
theorem dX3_setFloor_73 : decode cX3_setFloor 73 = .ok (.iload_n 2, 1) := by decide +kernel
theorem dX3_setFloor_74 : decode cX3_setFloor 74 = .ok (.invokevirtual 112, 3) := by decide +kernel
theorem dX3_setFloor_77 : decode cX3_setFloor 77 = .ok (.pop, 1) := by decide +kernel
theorem dX3_setFloor_78 : decode cX3_setFloor 78 = .ok (.iload_n 3, 1) := by decide +kernel
theorem dX3_setFloor_79 : decode cX3_setFloor 79 = .ok (.ireturn, 1) := by decide +kernel
theorem dX3_setCeiling_0 : decode cX3_setCeiling 0 = .ok (.aload_n 0, 1) := by decide +kernel
theorem dX3_setCeiling_1 : decode cX3_setCeiling 1 = .ok (.iload_n 1, 1) := by decide +kernel
theorem dX3_setCeiling_2 : decode cX3_setCeiling 2 = .ok (.invokevirtual 121, 3) := by decide +kernel
theorem dX3_setCeiling_5 : decode cX3_setCeiling 5 = .ok (.aload_n 0, 1) := by decide +kernel
theorem dX3_setCeiling_6 : decode cX3_setCeiling 6 = .ok (.getfield 19, 3) := by decide +kernel
theorem dX3_setCeiling_9 : decode cX3_setCeiling 9 = .ok (.iload_n 1, 1) := by decide +kernel
theorem dX3_setCeiling_10 : decode cX3_setCeiling 10 = .ok (.iload_n 2, 1) := by decide +kernel
theorem dX3_setCeiling_11 : decode cX3_setCeiling 11 = .ok (.invokevirtual 179, 3) := by decide +kernel
theorem dX3_setCeiling_14 : decode cX3_setCeiling 14 = .ok (.ifCond .ne 13, 3) := by decide +kernel
theorem dX3_setCeiling_17 : decode cX3_setCeiling 17 = .ok (.new 47, 3) := by decide +kernel
theorem dX3_setCeiling_20 : decode cX3_setCeiling 20 = .ok (.dup, 1) := by decide +kernel
theorem dX3_setCeiling_21 : decode cX3_setCeiling 21 = .ok (.ldc 182, 2) := by decide +kernel
theorem dX3_setCeiling_23 : decode cX3_setCeiling 23 = .ok (.invokespecial 51, 3) := by decide +kernel
theorem dX3_setCeiling_26 : decode cX3_setCeiling 26 = .ok (.athrow, 1) := by decide +kernel
theorem dX3_setCeiling_27 : decode cX3_setCeiling 27 = .ok (.aload_n 0, 1) := by decide +kernel
theorem dX3_setCeiling_28 : decode cX3_setCeiling 28 = .ok (.getfield 26, 3) := by decide +kernel
theorem dX3_setCeiling_31 : decode cX3_setCeiling 31 = .ok (.aload_n 0, 1) := by decide +kernel
theorem dX3_setCeiling_32 : decode cX3_setCeiling 32 = .ok (.getfield 19, 3) := by decide +kernel
theorem dX3_setCeiling_35 : decode cX3_setCeiling 35 = .ok (.invokevirtual 160, 3) := by decide +kernel
theorem dX3_setCeiling_38 : decode cX3_setCeiling 38 = .ok (.aload_n 0, 1) := by decide +kernel
theorem dX3_setCeiling_39 : decode cX3_setCeiling 39 = .ok (.getfield 19, 3) := by decide +kernel
theorem dX3_setCeiling_42 : decode cX3_setCeiling 42 = .ok (.getfield 184, 3) := by decide +kernel
theorem dX3_setCeiling_45 : decode cX3_setCeiling 45 = .ok (.iload_n 1, 1) := by decide +kernel
theorem dX3_setCeiling_46 : decode cX3_setCeiling 46 = .ok (.iaload, 1) := by decide +kernel
theorem dX3_setCeiling_47 : decode cX3_setCeiling 47 = .ok (.istore_n 3, 1) := by decide +kernel
theorem dX3_setCeiling_48 : decode cX3_setCeiling 48 = .ok (.aload_n 0, 1) := by decide +kernel
theorem dX3_setCeiling_49 : decode cX3_setCeiling 49 = .ok (.getfield 19, 3) := by decide +kernel
theorem dX3_setCeiling_52 : decode cX3_setCeiling 52 = .ok (.iload_n 1, 1) := by decide +kernel
theorem dX3_setCeiling_53 : decode cX3_setCeiling 53 = .ok (.iload_n 2, 1) := by decide +kernel
theorem dX3_setCeiling_54 : decode cX3_setCeiling 54 = .ok (.invokevirtual 187, 3) := by decide +kernel
theorem dX3_setCeiling_57 : decode cX3_setCeiling 57 = .ok (.pop, 1) := by decide +kernel
theorem dX3_setCeiling_58 : decode cX3_setCeiling 58 = .ok (.iload_n 3, 1) := by decide +kernel
theorem dX3_setCeiling_59 : decode cX3_setCeiling 59 = .ok (.ireturn, 1) := by decide +kernel
theorem dX3_undo_0 : decode cX3_undo 0 = .ok (.aload_n 0, 1) := by decide +kernel
theorem dX3_undo_1 : decode cX3_undo 1 = .ok (.getfield 26, 3) := by decide +kernel
theorem dX3_undo_4 : decode cX3_undo 4 = .ok (.invokevirtual 190, 3) := by decide +kernel
theorem dX3_undo_7 : decode cX3_undo 7 = .ok (.ifCond .eq 13, 3) := by decide +kernel
theorem dX3_undo_10 : decode cX3_undo 10 = .ok (.new 58, 3) := by decide +kernel
theorem dX3_undo_13 : decode cX3_undo 13 = .ok (.dup, 1) := by decide +kernel
theorem dX3_undo_14 : decode cX3_undo 14 = .ok (.ldc 193, 2) := by decide +kernel
theorem dX3_undo_16 : decode cX3_undo 16 = .ok (.invokespecial 62, 3) := by decide +kernel
theorem dX3_undo_19 : decode cX3_undo 19 = .ok (.athrow, 1) := by decide +kernel
theorem dX3_undo_20 : decode cX3_undo 20 = .ok (.aload_n 0, 1) := by decide +kernel
theorem dX3_undo_21 : decode cX3_undo 21 = .ok (.getfield 26, 3) := by decide +kernel
theorem dX3_undo_24 : decode cX3_undo 24 = .ok (.aload_n 0, 1) := by decide +kernel
theorem dX3_undo_25 : decode cX3_undo 25 = .ok (.getfield 19, 3) := by decide +kernel
theorem dX3_undo_28 : decode cX3_undo 28 = .ok (.invokevirtual 195, 3) := by decide +kernel
theorem dX3_undo_31 : decode cX3_undo 31 = .ok (.ireturn, 1) := by decide +kernel
theorem dX3_would_0 : decode cX3_would 0 = .ok (.aload_n 0, 1) := by decide +kernel
theorem dX3_would_1 : decode cX3_would 1 = .ok (.iload_n 1, 1) := by decide +kernel
theorem dX3_would_2 : decode cX3_would 2 = .ok (.iload_n 2, 1) := by decide +kernel
theorem dX3_would_3 : decode cX3_would 3 = .ok (.invokevirtual 135, 3) := by decide +kernel
theorem dX3_would_6 : decode cX3_would 6 = .ok (.aload_n 0, 1) := by decide +kernel
theorem dX3_would_7 : decode cX3_would 7 = .ok (.getfield 44, 3) := by decide +kernel
theorem dX3_would_10 : decode cX3_would 10 = .ok (.aload_n 0, 1) := by decide +kernel
theorem dX3_would_11 : decode cX3_would 11 = .ok (.getfield 19, 3) := by decide +kernel
theorem dX3_would_14 : decode cX3_would 14 = .ok (.invokevirtual 76, 3) := by decide +kernel
theorem dX3_would_17 : decode cX3_would 17 = .ok (.aload_n 0, 1) := by decide +kernel
theorem dX3_would_18 : decode cX3_would 18 = .ok (.getfield 44, 3) := by decide +kernel
theorem dX3_would_21 : decode cX3_would 21 = .ok (.iload_n 1, 1) := by decide +kernel
theorem dX3_would_22 : decode cX3_would 22 = .ok (.iload_n 2, 1) := by decide +kernel
theorem dX3_would_23 : decode cX3_would 23 = .ok (.invokevirtual 105, 3) := by decide +kernel
theorem dX3_would_26 : decode cX3_would 26 = .ok (.ireturn, 1) := by decide +kernel
theorem dX3_room_0 : decode cX3_room 0 = .ok (.aload_n 0, 1) := by decide +kernel
theorem dX3_room_1 : decode cX3_room 1 = .ok (.iload_n 1, 1) := by decide +kernel
theorem dX3_room_2 : decode cX3_room 2 = .ok (.invokevirtual 121, 3) := by decide +kernel
theorem dX3_room_5 : decode cX3_room 5 = .ok (.aload_n 0, 1) := by decide +kernel
theorem dX3_room_6 : decode cX3_room 6 = .ok (.aload_n 0, 1) := by decide +kernel
theorem dX3_room_7 : decode cX3_room 7 = .ok (.getfield 19, 3) := by decide +kernel
theorem dX3_room_10 : decode cX3_room 10 = .ok (.iload_n 1, 1) := by decide +kernel
theorem dX3_room_11 : decode cX3_room 11 = .ok (.bipush 60, 2) := by decide +kernel
theorem dX3_room_13 : decode cX3_room 13 = .ok (.invokevirtual 199, 3) := by decide +kernel
theorem dX3_room_16 : decode cX3_room 16 = .ok (.ireturn, 1) := by decide +kernel
theorem dX3_harm_0 : decode cX3_harm 0 = .ok (.aload_n 0, 1) := by decide +kernel
theorem dX3_harm_1 : decode cX3_harm 1 = .ok (.iload_n 1, 1) := by decide +kernel
theorem dX3_harm_2 : decode cX3_harm 2 = .ok (.invokevirtual 121, 3) := by decide +kernel
theorem dX3_harm_5 : decode cX3_harm 5 = .ok (.iload_n 2, 1) := by decide +kernel
theorem dX3_harm_6 : decode cX3_harm 6 = .ok (.ifCond .lt 9, 3) := by decide +kernel
theorem dX3_harm_9 : decode cX3_harm 9 = .ok (.iload_n 2, 1) := by decide +kernel
theorem dX3_harm_10 : decode cX3_harm 10 = .ok (.bipush 60, 2) := by decide +kernel
theorem dX3_harm_12 : decode cX3_harm 12 = .ok (.if_icmp .le 13, 3) := by decide +kernel
theorem dX3_harm_15 : decode cX3_harm 15 = .ok (.new 47, 3) := by decide +kernel
theorem dX3_harm_18 : decode cX3_harm 18 = .ok (.dup, 1) := by decide +kernel
theorem dX3_harm_19 : decode cX3_harm 19 = .ok (.ldc 203, 2) := by decide +kernel
theorem dX3_harm_21 : decode cX3_harm 21 = .ok (.invokespecial 51, 3) := by decide +kernel
theorem dX3_harm_24 : decode cX3_harm 24 = .ok (.athrow, 1) := by decide +kernel
theorem dX3_harm_25 : decode cX3_harm 25 = .ok (.aload_n 0, 1) := by decide +kernel
theorem dX3_harm_26 : decode cX3_harm 26 = .ok (.aload_n 0, 1) := by decide +kernel
theorem dX3_harm_27 : decode cX3_harm 27 = .ok (.getfield 19, 3) := by decide +kernel
theorem dX3_harm_30 : decode cX3_harm 30 = .ok (.iload_n 1, 1) := by decide +kernel
theorem dX3_harm_31 : decode cX3_harm 31 = .ok (.iload_n 2, 1) := by decide +kernel
theorem dX3_harm_32 : decode cX3_harm 32 = .ok (.invokevirtual 199, 3) := by decide +kernel
theorem dX3_harm_35 : decode cX3_harm 35 = .ok (.pop, 1) := by decide +kernel
theorem dX3_harm_36 : decode cX3_harm 36 = .ok (.aload_n 0, 1) := by decide +kernel
theorem dX3_harm_37 : decode cX3_harm 37 = .ok (.getfield 44, 3) := by decide +kernel
theorem dX3_harm_40 : decode cX3_harm 40 = .ok (.invokevirtual 205, 3) := by decide +kernel
theorem dX3_harm_43 : decode cX3_harm 43 = .ok (.aload_n 0, 1) := by decide +kernel
theorem dX3_harm_44 : decode cX3_harm 44 = .ok (.getfield 19, 3) := by decide +kernel
theorem dX3_harm_47 : decode cX3_harm 47 = .ok (.invokevirtual 205, 3) := by decide +kernel
theorem dX3_harm_50 : decode cX3_harm 50 = .ok (.isub, 1) := by decide +kernel
theorem dX3_harm_51 : decode cX3_harm 51 = .ok (.ireturn, 1) := by decide +kernel
theorem dX3_victim_0 : decode cX3_victim 0 = .ok (.aload_n 0, 1) := by decide +kernel
theorem dX3_victim_1 : decode cX3_victim 1 = .ok (.iload_n 1, 1) := by decide +kernel
theorem dX3_victim_2 : decode cX3_victim 2 = .ok (.invokevirtual 121, 3) := by decide +kernel
theorem dX3_victim_5 : decode cX3_victim 5 = .ok (.aload_n 0, 1) := by decide +kernel
theorem dX3_victim_6 : decode cX3_victim 6 = .ok (.getfield 44, 3) := by decide +kernel
theorem dX3_victim_9 : decode cX3_victim 9 = .ok (.aload_n 0, 1) := by decide +kernel
theorem dX3_victim_10 : decode cX3_victim 10 = .ok (.getfield 19, 3) := by decide +kernel
theorem dX3_victim_13 : decode cX3_victim 13 = .ok (.invokevirtual 76, 3) := by decide +kernel
theorem dX3_victim_16 : decode cX3_victim 16 = .ok (.iconst (-1), 1) := by decide +kernel
theorem dX3_victim_17 : decode cX3_victim 17 = .ok (.istore_n 2, 1) := by decide +kernel
theorem dX3_victim_18 : decode cX3_victim 18 = .ok (.iconst 0, 1) := by decide +kernel
theorem dX3_victim_19 : decode cX3_victim 19 = .ok (.istore_n 3, 1) := by decide +kernel
theorem dX3_victim_20 : decode cX3_victim 20 = .ok (.iload_n 3, 1) := by decide +kernel
theorem dX3_victim_21 : decode cX3_victim 21 = .ok (.bipush 60, 2) := by decide +kernel
theorem dX3_victim_23 : decode cX3_victim 23 = .ok (.if_icmp .ge 40, 3) := by decide +kernel
theorem dX3_victim_26 : decode cX3_victim 26 = .ok (.iload_n 2, 1) := by decide +kernel
theorem dX3_victim_27 : decode cX3_victim 27 = .ok (.iconst (-1), 1) := by decide +kernel
theorem dX3_victim_28 : decode cX3_victim 28 = .ok (.if_icmp .ne 35, 3) := by decide +kernel
theorem dX3_victim_31 : decode cX3_victim 31 = .ok (.aload_n 0, 1) := by decide +kernel
theorem dX3_victim_32 : decode cX3_victim 32 = .ok (.getfield 44, 3) := by decide +kernel
theorem dX3_victim_35 : decode cX3_victim 35 = .ok (.iload_n 1, 1) := by decide +kernel
theorem dX3_victim_36 : decode cX3_victim 36 = .ok (.invokevirtual 208, 3) := by decide +kernel
theorem dX3_victim_39 : decode cX3_victim 39 = .ok (.iconst 5, 1) := by decide +kernel
theorem dX3_victim_40 : decode cX3_victim 40 = .ok (.if_icmp .ne 5, 3) := by decide +kernel
theorem dX3_victim_43 : decode cX3_victim 43 = .ok (.iconst (-1), 1) := by decide +kernel
theorem dX3_victim_44 : decode cX3_victim 44 = .ok (.ireturn, 1) := by decide +kernel
theorem dX3_victim_45 : decode cX3_victim 45 = .ok (.aload_n 0, 1) := by decide +kernel
theorem dX3_victim_46 : decode cX3_victim 46 = .ok (.getfield 44, 3) := by decide +kernel
theorem dX3_victim_49 : decode cX3_victim 49 = .ok (.aload_n 0, 1) := by decide +kernel
theorem dX3_victim_50 : decode cX3_victim 50 = .ok (.getfield 19, 3) := by decide +kernel
theorem dX3_victim_53 : decode cX3_victim 53 = .ok (.invokevirtual 211, 3) := by decide +kernel
theorem dX3_victim_56 : decode cX3_victim 56 = .ok (.istore_n 2, 1) := by decide +kernel
theorem dX3_victim_57 : decode cX3_victim 57 = .ok (.iinc 3 1, 3) := by decide +kernel
theorem dX3_victim_60 : decode cX3_victim 60 = .ok (.goto (-40), 3) := by decide +kernel
theorem dX3_victim_63 : decode cX3_victim 63 = .ok (.iload_n 2, 1) := by decide +kernel
theorem dX3_victim_64 : decode cX3_victim 64 = .ok (.ireturn, 1) := by decide +kernel
theorem dX3_noisy_0 : decode cX3_noisy 0 = .ok (.iconst (-1), 1) := by decide +kernel
theorem dX3_noisy_1 : decode cX3_noisy 1 = .ok (.istore_n 1, 1) := by decide +kernel
theorem dX3_noisy_2 : decode cX3_noisy 2 = .ok (.iconst 0, 1) := by decide +kernel
theorem dX3_noisy_3 : decode cX3_noisy 3 = .ok (.istore_n 2, 1) := by decide +kernel
theorem dX3_noisy_4 : decode cX3_noisy 4 = .ok (.iload_n 2, 1) := by decide +kernel
theorem dX3_noisy_5 : decode cX3_noisy 5 = .ok (.aload_n 0, 1) := by decide +kernel
theorem dX3_noisy_6 : decode cX3_noisy 6 = .ok (.getfield 19, 3) := by decide +kernel
theorem dX3_noisy_9 : decode cX3_noisy 9 = .ok (.getfield 214, 3) := by decide +kernel
theorem dX3_noisy_12 : decode cX3_noisy 12 = .ok (.if_icmp .ge 35, 3) := by decide +kernel
theorem dX3_noisy_15 : decode cX3_noisy 15 = .ok (.iload_n 1, 1) := by decide +kernel
theorem dX3_noisy_16 : decode cX3_noisy 16 = .ok (.iconst (-1), 1) := by decide +kernel
theorem dX3_noisy_17 : decode cX3_noisy 17 = .ok (.if_icmp .eq 22, 3) := by decide +kernel
theorem dX3_noisy_20 : decode cX3_noisy 20 = .ok (.aload_n 0, 1) := by decide +kernel
theorem dX3_noisy_21 : decode cX3_noisy 21 = .ok (.getfield 19, 3) := by decide +kernel
theorem dX3_noisy_24 : decode cX3_noisy 24 = .ok (.iload_n 2, 1) := by decide +kernel
theorem dX3_noisy_25 : decode cX3_noisy 25 = .ok (.invokevirtual 217, 3) := by decide +kernel
theorem dX3_noisy_28 : decode cX3_noisy 28 = .ok (.aload_n 0, 1) := by decide +kernel
theorem dX3_noisy_29 : decode cX3_noisy 29 = .ok (.getfield 19, 3) := by decide +kernel
theorem dX3_noisy_32 : decode cX3_noisy 32 = .ok (.iload_n 1, 1) := by decide +kernel
theorem dX3_noisy_33 : decode cX3_noisy 33 = .ok (.invokevirtual 217, 3) := by decide +kernel
theorem dX3_noisy_36 : decode cX3_noisy 36 = .ok (.if_icmp .le 5, 3) := by decide +kernel
theorem dX3_noisy_39 : decode cX3_noisy 39 = .ok (.iload_n 2, 1) := by decide +kernel
theorem dX3_noisy_40 : decode cX3_noisy 40 = .ok (.istore_n 1, 1) := by decide +kernel
theorem dX3_noisy_41 : decode cX3_noisy 41 = .ok (.iinc 2 1, 3) := by decide +kernel
theorem dX3_noisy_44 : decode cX3_noisy 44 = .ok (.goto (-40), 3) := by decide +kernel
theorem dX3_noisy_47 : decode cX3_noisy 47 = .ok (.iload_n 1, 1) := by decide +kernel
theorem dX3_noisy_48 : decode cX3_noisy 48 = .ok (.ireturn, 1) := by decide +kernel
theorem dX3_mostFloor_0 : decode cX3_mostFloor 0 = .ok (.aload_n 0, 1) := by decide +kernel
theorem dX3_mostFloor_1 : decode cX3_mostFloor 1 = .ok (.iload_n 1, 1) := by decide +kernel
theorem dX3_mostFloor_2 : decode cX3_mostFloor 2 = .ok (.invokevirtual 121, 3) := by decide +kernel
theorem dX3_mostFloor_5 : decode cX3_mostFloor 5 = .ok (.aload_n 0, 1) := by decide +kernel
theorem dX3_mostFloor_6 : decode cX3_mostFloor 6 = .ok (.getfield 19, 3) := by decide +kernel
theorem dX3_mostFloor_9 : decode cX3_mostFloor 9 = .ok (.iload_n 1, 1) := by decide +kernel
theorem dX3_mostFloor_10 : decode cX3_mostFloor 10 = .ok (.invokevirtual 220, 3) := by decide +kernel
theorem dX3_mostFloor_13 : decode cX3_mostFloor 13 = .ok (.ireturn, 1) := by decide +kernel
theorem dX3_leastFloor_0 : decode cX3_leastFloor 0 = .ok (.aload_n 0, 1) := by decide +kernel
theorem dX3_leastFloor_1 : decode cX3_leastFloor 1 = .ok (.iload_n 1, 1) := by decide +kernel
theorem dX3_leastFloor_2 : decode cX3_leastFloor 2 = .ok (.invokevirtual 121, 3) := by decide +kernel
theorem dX3_leastFloor_5 : decode cX3_leastFloor 5 = .ok (.aload_n 0, 1) := by decide +kernel
theorem dX3_leastFloor_6 : decode cX3_leastFloor 6 = .ok (.getfield 19, 3) := by decide +kernel
theorem dX3_leastFloor_9 : decode cX3_leastFloor 9 = .ok (.iload_n 1, 1) := by decide +kernel
theorem dX3_leastFloor_10 : decode cX3_leastFloor 10 = .ok (.invokevirtual 223, 3) := by decide +kernel
theorem dX3_leastFloor_13 : decode cX3_leastFloor 13 = .ok (.ireturn, 1) := by decide +kernel
theorem dX3_growGuess_0 : decode cX3_growGuess 0 = .ok (.aload_n 0, 1) := by decide +kernel
theorem dX3_growGuess_1 : decode cX3_growGuess 1 = .ok (.getfield 44, 3) := by decide +kernel
theorem dX3_growGuess_4 : decode cX3_growGuess 4 = .ok (.aload_n 1, 1) := by decide +kernel
theorem dX3_growGuess_5 : decode cX3_growGuess 5 = .ok (.invokevirtual 76, 3) := by decide +kernel
theorem dX3_growGuess_8 : decode cX3_growGuess 8 = .ok (.iconst 0, 1) := by decide +kernel
theorem dX3_growGuess_9 : decode cX3_growGuess 9 = .ok (.istore 4, 2) := by decide +kernel
theorem dX3_growGuess_11 : decode cX3_growGuess 11 = .ok (.iload 4, 2) := by decide +kernel
theorem dX3_growGuess_13 : decode cX3_growGuess 13 = .ok (.iload_n 3, 1) := by decide +kernel
theorem dX3_growGuess_14 : decode cX3_growGuess 14 = .ok (.if_icmp .ge 21, 3) := by decide +kernel
theorem dX3_growGuess_17 : decode cX3_growGuess 17 = .ok (.aload_n 0, 1) := by decide +kernel
theorem dX3_growGuess_18 : decode cX3_growGuess 18 = .ok (.getfield 44, 3) := by decide +kernel
theorem dX3_growGuess_21 : decode cX3_growGuess 21 = .ok (.iload_n 2, 1) := by decide +kernel
theorem dX3_growGuess_22 : decode cX3_growGuess 22 = .ok (.invokevirtual 208, 3) := by decide +kernel
theorem dX3_growGuess_25 : decode cX3_growGuess 25 = .ok (.iconst 5, 1) := by decide +kernel
theorem dX3_growGuess_26 : decode cX3_growGuess 26 = .ok (.if_icmp .eq 9, 3) := by decide +kernel
theorem dX3_growGuess_29 : decode cX3_growGuess 29 = .ok (.iinc 4 1, 3) := by decide +kernel
theorem dX3_growGuess_32 : decode cX3_growGuess 32 = .ok (.goto (-21), 3) := by decide +kernel
theorem dX3_growGuess_35 : decode cX3_growGuess 35 = .ok (.iload 4, 2) := by decide +kernel
theorem dX3_growGuess_37 : decode cX3_growGuess 37 = .ok (.ireturn, 1) := by decide +kernel
theorem dX3_runScript_0 : decode cX3_runScript 0 = .ok (.iload_n 1, 1) := by decide +kernel
theorem dX3_runScript_1 : decode cX3_runScript 1 = .ok (.iconst 1, 1) := by decide +kernel
theorem dX3_runScript_2 : decode cX3_runScript 2 = .ok (.if_icmp .lt 8, 3) := by decide +kernel
theorem dX3_runScript_5 : decode cX3_runScript 5 = .ok (.iload_n 1, 1) := by decide +kernel
theorem dX3_runScript_6 : decode cX3_runScript 6 = .ok (.iconst 3, 1) := by decide +kernel
theorem dX3_runScript_7 : decode cX3_runScript 7 = .ok (.if_icmp .le 13, 3) := by decide +kernel
theorem dX3_runScript_10 : decode cX3_runScript 10 = .ok (.new 47, 3) := by decide +kernel
theorem dX3_runScript_13 : decode cX3_runScript 13 = .ok (.dup, 1) := by decide +kernel
theorem dX3_runScript_14 : decode cX3_runScript 14 = .ok (.ldc 226, 2) := by decide +kernel
theorem dX3_runScript_16 : decode cX3_runScript 16 = .ok (.invokespecial 51, 3) := by decide +kernel
theorem dX3_runScript_19 : decode cX3_runScript 19 = .ok (.athrow, 1) := by decide +kernel
theorem dX3_runScript_20 : decode cX3_runScript 20 = .ok (.lload_n 2, 1) := by decide +kernel
theorem dX3_runScript_21 : decode cX3_runScript 21 = .ok (.lconst 0, 1) := by decide +kernel
theorem dX3_runScript_22 : decode cX3_runScript 22 = .ok (.lcmp, 1) := by decide +kernel
theorem dX3_runScript_23 : decode cX3_runScript 23 = .ok (.ifCond .lt 13, 3) := by decide +kernel
theorem dX3_runScript_26 : decode cX3_runScript 26 = .ok (.lload_n 2, 1) := by decide +kernel
theorem dX3_runScript_27 : decode cX3_runScript 27 = .ok (.iload_n 1, 1) := by decide +kernel
theorem dX3_runScript_28 : decode cX3_runScript 28 = .ok (.invokestatic 228, 3) := by decide +kernel
theorem dX3_runScript_31 : decode cX3_runScript 31 = .ok (.lconst 0, 1) := by decide +kernel
theorem dX3_runScript_32 : decode cX3_runScript 32 = .ok (.lcmp, 1) := by decide +kernel
theorem dX3_runScript_33 : decode cX3_runScript 33 = .ok (.ifCond .eq 13, 3) := by decide +kernel
theorem dX3_runScript_36 : decode cX3_runScript 36 = .ok (.new 47, 3) := by decide +kernel
theorem dX3_runScript_39 : decode cX3_runScript 39 = .ok (.dup, 1) := by decide +kernel
theorem dX3_runScript_40 : decode cX3_runScript 40 = .ok (.ldc 232, 2) := by decide +kernel
theorem dX3_runScript_42 : decode cX3_runScript 42 = .ok (.invokespecial 51, 3) := by decide +kernel
theorem dX3_runScript_45 : decode cX3_runScript 45 = .ok (.athrow, 1) := by decide +kernel
theorem dX3_runScript_46 : decode cX3_runScript 46 = .ok (.aload_n 0, 1) := by decide +kernel
theorem dX3_runScript_47 : decode cX3_runScript 47 = .ok (.getfield 41, 3) := by decide +kernel
theorem dX3_runScript_50 : decode cX3_runScript 50 = .ok (.aload_n 0, 1) := by decide +kernel
theorem dX3_runScript_51 : decode cX3_runScript 51 = .ok (.getfield 19, 3) := by decide +kernel
theorem dX3_runScript_54 : decode cX3_runScript 54 = .ok (.invokevirtual 76, 3) := by decide +kernel
theorem dX3_runScript_57 : decode cX3_runScript 57 = .ok (.iconst 0, 1) := by decide +kernel
theorem dX3_runScript_58 : decode cX3_runScript 58 = .ok (.istore 4, 2) := by decide +kernel
theorem dX3_runScript_60 : decode cX3_runScript 60 = .ok (.iload 4, 2) := by decide +kernel
theorem dX3_runScript_62 : decode cX3_runScript 62 = .ok (.iload_n 1, 1) := by decide +kernel
theorem dX3_runScript_63 : decode cX3_runScript 63 = .ok (.if_icmp .ge 38, 3) := by decide +kernel
theorem dX3_runScript_66 : decode cX3_runScript 66 = .ok (.lload_n 2, 1) := by decide +kernel
theorem dX3_runScript_67 : decode cX3_runScript 67 = .ok (.iload_n 1, 1) := by decide +kernel
theorem dX3_runScript_68 : decode cX3_runScript 68 = .ok (.iconst 1, 1) := by decide +kernel
theorem dX3_runScript_69 : decode cX3_runScript 69 = .ok (.isub, 1) := by decide +kernel
theorem dX3_runScript_70 : decode cX3_runScript 70 = .ok (.iload 4, 2) := by decide +kernel
theorem dX3_runScript_72 : decode cX3_runScript 72 = .ok (.isub, 1) := by decide +kernel
theorem dX3_runScript_73 : decode cX3_runScript 73 = .ok (.invokestatic 228, 3) := by decide +kernel
theorem dX3_runScript_76 : decode cX3_runScript 76 = .ok (.ldc2_w 234, 3) := by decide +kernel
theorem dX3_runScript_79 : decode cX3_runScript 79 = .ok (.lrem, 1) := by decide +kernel
theorem dX3_runScript_80 : decode cX3_runScript 80 = .ok (.l2i, 1) := by decide +kernel
theorem dX3_runScript_81 : decode cX3_runScript 81 = .ok (.istore 5, 2) := by decide +kernel
theorem dX3_runScript_83 : decode cX3_runScript 83 = .ok (.aload_n 0, 1) := by decide +kernel
theorem dX3_runScript_84 : decode cX3_runScript 84 = .ok (.iload 5, 2) := by decide +kernel
theorem dX3_runScript_86 : decode cX3_runScript 86 = .ok (.invokevirtual 236, 3) := by decide +kernel
theorem dX3_runScript_89 : decode cX3_runScript 89 = .ok (.ifCond .ne 6, 3) := by decide +kernel
theorem dX3_runScript_92 : decode cX3_runScript 92 = .ok (.iload 4, 2) := by decide +kernel
theorem dX3_runScript_94 : decode cX3_runScript 94 = .ok (.ireturn, 1) := by decide +kernel
theorem dX3_runScript_95 : decode cX3_runScript 95 = .ok (.iinc 4 1, 3) := by decide +kernel
theorem dX3_runScript_98 : decode cX3_runScript 98 = .ok (.goto (-38), 3) := by decide +kernel
theorem dX3_runScript_101 : decode cX3_runScript 101 = .ok (.iconst (-1), 1) := by decide +kernel
theorem dX3_runScript_102 : decode cX3_runScript 102 = .ok (.ireturn, 1) := by decide +kernel
theorem dX3_withoutGroups_0 : decode cX3_withoutGroups 0 = .ok (.lload_n 0, 1) := by decide +kernel
theorem dX3_withoutGroups_1 : decode cX3_withoutGroups 1 = .ok (.lstore_n 3, 1) := by decide +kernel
theorem dX3_withoutGroups_2 : decode cX3_withoutGroups 2 = .ok (.iconst 0, 1) := by decide +kernel
theorem dX3_withoutGroups_3 : decode cX3_withoutGroups 3 = .ok (.istore 5, 2) := by decide +kernel
theorem dX3_withoutGroups_5 : decode cX3_withoutGroups 5 = .ok (.iload 5, 2) := by decide +kernel
theorem dX3_withoutGroups_7 : decode cX3_withoutGroups 7 = .ok (.iload_n 2, 1) := by decide +kernel
theorem dX3_withoutGroups_8 : decode cX3_withoutGroups 8 = .ok (.if_icmp .ge 15, 3) := by decide +kernel
theorem dX3_withoutGroups_11 : decode cX3_withoutGroups 11 = .ok (.lload_n 3, 1) := by decide +kernel
theorem dX3_withoutGroups_12 : decode cX3_withoutGroups 12 = .ok (.ldc2_w 234, 3) := by decide +kernel
theorem dX3_withoutGroups_15 : decode cX3_withoutGroups 15 = .ok (.ldiv, 1) := by decide +kernel
theorem dX3_withoutGroups_16 : decode cX3_withoutGroups 16 = .ok (.lstore_n 3, 1) := by decide +kernel
theorem dX3_withoutGroups_17 : decode cX3_withoutGroups 17 = .ok (.iinc 5 1, 3) := by decide +kernel
theorem dX3_withoutGroups_20 : decode cX3_withoutGroups 20 = .ok (.goto (-15), 3) := by decide +kernel
theorem dX3_withoutGroups_23 : decode cX3_withoutGroups 23 = .ok (.lload_n 3, 1) := by decide +kernel
theorem dX3_withoutGroups_24 : decode cX3_withoutGroups 24 = .ok (.lreturn, 1) := by decide +kernel
theorem dX3_obeyGroup_0 : decode cX3_obeyGroup 0 = .ok (.iload_n 1, 1) := by decide +kernel
theorem dX3_obeyGroup_1 : decode cX3_obeyGroup 1 = .ok (.sipush 10000, 3) := by decide +kernel
theorem dX3_obeyGroup_4 : decode cX3_obeyGroup 4 = .ok (.idiv, 1) := by decide +kernel
theorem dX3_obeyGroup_5 : decode cX3_obeyGroup 5 = .ok (.istore_n 2, 1) := by decide +kernel
theorem dX3_obeyGroup_6 : decode cX3_obeyGroup 6 = .ok (.iload_n 1, 1) := by decide +kernel
theorem dX3_obeyGroup_7 : decode cX3_obeyGroup 7 = .ok (.sipush 1000, 3) := by decide +kernel
theorem dX3_obeyGroup_10 : decode cX3_obeyGroup 10 = .ok (.idiv, 1) := by decide +kernel
theorem dX3_obeyGroup_11 : decode cX3_obeyGroup 11 = .ok (.bipush 10, 2) := by decide +kernel
theorem dX3_obeyGroup_13 : decode cX3_obeyGroup 13 = .ok (.irem, 1) := by decide +kernel
theorem dX3_obeyGroup_14 : decode cX3_obeyGroup 14 = .ok (.istore_n 3, 1) := by decide +kernel
theorem dX3_obeyGroup_15 : decode cX3_obeyGroup 15 = .ok (.iload_n 1, 1) := by decide +kernel
theorem dX3_obeyGroup_16 : decode cX3_obeyGroup 16 = .ok (.bipush 100, 2) := by decide +kernel
theorem dX3_obeyGroup_18 : decode cX3_obeyGroup 18 = .ok (.idiv, 1) := by decide +kernel
theorem dX3_obeyGroup_19 : decode cX3_obeyGroup 19 = .ok (.bipush 10, 2) := by decide +kernel
theorem dX3_obeyGroup_21 : decode cX3_obeyGroup 21 = .ok (.irem, 1) := by decide +kernel
theorem dX3_obeyGroup_22 : decode cX3_obeyGroup 22 = .ok (.istore 4, 2) := by decide +kernel
theorem dX3_obeyGroup_24 : decode cX3_obeyGroup 24 = .ok (.iload_n 1, 1) := by decide +kernel
theorem dX3_obeyGroup_25 : decode cX3_obeyGroup 25 = .ok (.bipush 100, 2) := by decide +kernel
theorem dX3_obeyGroup_27 : decode cX3_obeyGroup 27 = .ok (.irem, 1) := by decide +kernel
theorem dX3_obeyGroup_28 : decode cX3_obeyGroup 28 = .ok (.istore 5, 2) := by decide +kernel
theorem dX3_obeyGroup_30 : decode cX3_obeyGroup 30 = .ok (.iload_n 2, 1) := by decide +kernel
theorem dX3_obeyGroup_31 : decode cX3_obeyGroup 31 = .ok (.iconst 5, 1) := by decide +kernel
theorem dX3_obeyGroup_32 : decode cX3_obeyGroup 32 = .ok (.if_icmp .ne 29, 3) := by decide +kernel
theorem dX3_obeyGroup_35 : decode cX3_obeyGroup 35 = .ok (.aload_n 0, 1) := by decide +kernel
theorem dX3_obeyGroup_36 : decode cX3_obeyGroup 36 = .ok (.getfield 41, 3) := by decide +kernel
theorem dX3_obeyGroup_39 : decode cX3_obeyGroup 39 = .ok (.iload_n 1, 1) := by decide +kernel
theorem dX3_obeyGroup_40 : decode cX3_obeyGroup 40 = .ok (.bipush 100, 2) := by decide +kernel
theorem dX3_obeyGroup_42 : decode cX3_obeyGroup 42 = .ok (.idiv, 1) := by decide +kernel
theorem dX3_obeyGroup_43 : decode cX3_obeyGroup 43 = .ok (.bipush 100, 2) := by decide +kernel
theorem dX3_obeyGroup_45 : decode cX3_obeyGroup 45 = .ok (.irem, 1) := by decide +kernel
theorem dX3_obeyGroup_46 : decode cX3_obeyGroup 46 = .ok (.iload 5, 2) := by decide +kernel
theorem dX3_obeyGroup_48 : decode cX3_obeyGroup 48 = .ok (.invokevirtual 102, 3) := by decide +kernel
theorem dX3_obeyGroup_51 : decode cX3_obeyGroup 51 = .ok (.iconst (-1), 1) := by decide +kernel
theorem dX3_obeyGroup_52 : decode cX3_obeyGroup 52 = .ok (.if_icmp .eq 7, 3) := by decide +kernel
theorem dX3_obeyGroup_55 : decode cX3_obeyGroup 55 = .ok (.iconst 1, 1) := by decide +kernel
theorem dX3_obeyGroup_56 : decode cX3_obeyGroup 56 = .ok (.goto 4, 3) := by decide +kernel
theorem dX3_obeyGroup_59 : decode cX3_obeyGroup 59 = .ok (.iconst 0, 1) := by decide +kernel
theorem dX3_obeyGroup_60 : decode cX3_obeyGroup 60 = .ok (.ireturn, 1) := by decide +kernel
theorem dX3_obeyGroup_61 : decode cX3_obeyGroup 61 = .ok (.iload_n 2, 1) := by decide +kernel
theorem dX3_obeyGroup_62 : decode cX3_obeyGroup 62 = .ok (.bipush 9, 2) := by decide +kernel
theorem dX3_obeyGroup_64 : decode cX3_obeyGroup 64 = .ok (.if_icmp .ne 49, 3) := by decide +kernel
theorem dX3_obeyGroup_67 : decode cX3_obeyGroup 67 = .ok (.aload_n 0, 1) := by decide +kernel
theorem dX3_obeyGroup_68 : decode cX3_obeyGroup 68 = .ok (.getfield 41, 3) := by decide +kernel
theorem dX3_obeyGroup_71 : decode cX3_obeyGroup 71 = .ok (.iload_n 3, 1) := by decide +kernel
theorem dX3_obeyGroup_72 : decode cX3_obeyGroup 72 = .ok (.invokevirtual 239, 3) := by decide +kernel
theorem dX3_obeyGroup_75 : decode cX3_obeyGroup 75 = .ok (.ifCond .eq 36, 3) := by decide +kernel
theorem dX3_obeyGroup_78 : decode cX3_obeyGroup 78 = .ok (.aload_n 0, 1) := by decide +kernel
theorem dX3_obeyGroup_79 : decode cX3_obeyGroup 79 = .ok (.getfield 41, 3) := by decide +kernel
theorem dX3_obeyGroup_82 : decode cX3_obeyGroup 82 = .ok (.iload 4, 2) := by decide +kernel
theorem dX3_obeyGroup_84 : decode cX3_obeyGroup 84 = .ok (.invokevirtual 239, 3) := by decide +kernel
theorem dX3_obeyGroup_87 : decode cX3_obeyGroup 87 = .ok (.ifCond .eq 24, 3) := by decide +kernel
theorem dX3_obeyGroup_90 : decode cX3_obeyGroup 90 = .ok (.aload_n 0, 1) := by decide +kernel
theorem dX3_obeyGroup_91 : decode cX3_obeyGroup 91 = .ok (.getfield 41, 3) := by decide +kernel
theorem dX3_obeyGroup_94 : decode cX3_obeyGroup 94 = .ok (.getfield 131, 3) := by decide +kernel
theorem dX3_obeyGroup_97 : decode cX3_obeyGroup 97 = .ok (.iload_n 3, 1) := by decide +kernel
theorem dX3_obeyGroup_98 : decode cX3_obeyGroup 98 = .ok (.aaload, 1) := by decide +kernel
theorem dX3_obeyGroup_99 : decode cX3_obeyGroup 99 = .ok (.iload 4, 2) := by decide +kernel
theorem dX3_obeyGroup_101 : decode cX3_obeyGroup 101 = .ok (.iaload, 1) := by decide +kernel
theorem dX3_obeyGroup_102 : decode cX3_obeyGroup 102 = .ok (.iload 5, 2) := by decide +kernel
theorem dX3_obeyGroup_104 : decode cX3_obeyGroup 104 = .ok (.if_icmp .lt 7, 3) := by decide +kernel
theorem dX3_obeyGroup_107 : decode cX3_obeyGroup 107 = .ok (.iconst 1, 1) := by decide +kernel
theorem dX3_obeyGroup_108 : decode cX3_obeyGroup 108 = .ok (.goto 4, 3) := by decide +kernel
theorem dX3_obeyGroup_111 : decode cX3_obeyGroup 111 = .ok (.iconst 0, 1) := by decide +kernel
theorem dX3_obeyGroup_112 : decode cX3_obeyGroup 112 = .ok (.ireturn, 1) := by decide +kernel
theorem dX3_obeyGroup_113 : decode cX3_obeyGroup 113 = .ok (.iload 4, 2) := by decide +kernel
theorem dX3_obeyGroup_115 : decode cX3_obeyGroup 115 = .ok (.ifCond .eq 5, 3) := by decide +kernel
theorem dX3_obeyGroup_118 : decode cX3_obeyGroup 118 = .ok (.iconst 0, 1) := by decide +kernel
theorem dX3_obeyGroup_119 : decode cX3_obeyGroup 119 = .ok (.ireturn, 1) := by decide +kernel
theorem dX3_obeyGroup_120 : decode cX3_obeyGroup 120 = .ok (.iload_n 2, 1) := by decide +kernel
theorem dX3_obeyGroup_121 : decode cX3_obeyGroup 121 = .ok (.bipush 8, 2) := by decide +kernel
theorem dX3_obeyGroup_123 : decode cX3_obeyGroup 123 = .ok (.if_icmp .ne 25, 3) := by decide +kernel
theorem dX3_obeyGroup_126 : decode cX3_obeyGroup 126 = .ok (.iload_n 3, 1) := by decide +kernel
theorem dX3_obeyGroup_127 : decode cX3_obeyGroup 127 = .ok (.ifCond .ne 19, 3) := by decide +kernel
theorem dX3_obeyGroup_130 : decode cX3_obeyGroup 130 = .ok (.aload_n 0, 1) := by decide +kernel
theorem dX3_obeyGroup_131 : decode cX3_obeyGroup 131 = .ok (.getfield 41, 3) := by decide +kernel
theorem dX3_obeyGroup_134 : decode cX3_obeyGroup 134 = .ok (.invokevirtual 205, 3) := by decide +kernel
theorem dX3_obeyGroup_137 : decode cX3_obeyGroup 137 = .ok (.iload 5, 2) := by decide +kernel
theorem dX3_obeyGroup_139 : decode cX3_obeyGroup 139 = .ok (.if_icmp .gt 7, 3) := by decide +kernel
theorem dX3_obeyGroup_142 : decode cX3_obeyGroup 142 = .ok (.iconst 1, 1) := by decide +kernel
theorem dX3_obeyGroup_143 : decode cX3_obeyGroup 143 = .ok (.goto 4, 3) := by decide +kernel
theorem dX3_obeyGroup_146 : decode cX3_obeyGroup 146 = .ok (.iconst 0, 1) := by decide +kernel
theorem dX3_obeyGroup_147 : decode cX3_obeyGroup 147 = .ok (.ireturn, 1) := by decide +kernel
theorem dX3_obeyGroup_148 : decode cX3_obeyGroup 148 = .ok (.aload_n 0, 1) := by decide +kernel
theorem dX3_obeyGroup_149 : decode cX3_obeyGroup 149 = .ok (.getfield 41, 3) := by decide +kernel
theorem dX3_obeyGroup_152 : decode cX3_obeyGroup 152 = .ok (.iload_n 3, 1) := by decide +kernel
theorem dX3_obeyGroup_153 : decode cX3_obeyGroup 153 = .ok (.invokevirtual 239, 3) := by decide +kernel
theorem dX3_obeyGroup_156 : decode cX3_obeyGroup 156 = .ok (.ifCond .eq 18, 3) := by decide +kernel
theorem dX3_obeyGroup_159 : decode cX3_obeyGroup 159 = .ok (.aload_n 0, 1) := by decide +kernel
theorem dX3_obeyGroup_160 : decode cX3_obeyGroup 160 = .ok (.iload_n 2, 1) := by decide +kernel
theorem dX3_obeyGroup_161 : decode cX3_obeyGroup 161 = .ok (.iload_n 3, 1) := by decide +kernel
theorem dX3_obeyGroup_162 : decode cX3_obeyGroup 162 = .ok (.iload 5, 2) := by decide +kernel
theorem dX3_obeyGroup_164 : decode cX3_obeyGroup 164 = .ok (.invokevirtual 242, 3) := by decide +kernel
theorem dX3_obeyGroup_167 : decode cX3_obeyGroup 167 = .ok (.ifCond .eq 7, 3) := by decide +kernel
theorem dX3_obeyGroup_170 : decode cX3_obeyGroup 170 = .ok (.iconst 1, 1) := by decide +kernel
theorem dX3_obeyGroup_171 : decode cX3_obeyGroup 171 = .ok (.goto 4, 3) := by decide +kernel
theorem dX3_obeyGroup_174 : decode cX3_obeyGroup 174 = .ok (.iconst 0, 1) := by decide +kernel
theorem dX3_obeyGroup_175 : decode cX3_obeyGroup 175 = .ok (.ireturn, 1) := by decide +kernel
theorem dX3_obeyForSpace_0 : decode cX3_obeyForSpace 0 = .ok (.iload_n 1, 1) := by decide +kernel
theorem dX3_obeyForSpace_1 : decode cX3_obeyForSpace 1 = .ok (.tableswitch 141 1 7 #[43, 72, 82, 92, 141, 102, 120], 43) := by decide +kernel
theorem dX3_obeyForSpace_44 : decode cX3_obeyForSpace 44 = .ok (.aload_n 0, 1) := by decide +kernel
theorem dX3_obeyForSpace_45 : decode cX3_obeyForSpace 45 = .ok (.getfield 41, 3) := by decide +kernel
theorem dX3_obeyForSpace_48 : decode cX3_obeyForSpace 48 = .ok (.iload_n 2, 1) := by decide +kernel
theorem dX3_obeyForSpace_49 : decode cX3_obeyForSpace 49 = .ok (.iload_n 3, 1) := by decide +kernel
theorem dX3_obeyForSpace_50 : decode cX3_obeyForSpace 50 = .ok (.invokevirtual 105, 3) := by decide +kernel
theorem dX3_obeyForSpace_53 : decode cX3_obeyForSpace 53 = .ok (.istore 4, 2) := by decide +kernel
theorem dX3_obeyForSpace_55 : decode cX3_obeyForSpace 55 = .ok (.iload 4, 2) := by decide +kernel
theorem dX3_obeyForSpace_57 : decode cX3_obeyForSpace 57 = .ok (.iconst (-1), 1) := by decide +kernel
theorem dX3_obeyForSpace_58 : decode cX3_obeyForSpace 58 = .ok (.if_icmp .eq 13, 3) := by decide +kernel
theorem dX3_obeyForSpace_61 : decode cX3_obeyForSpace 61 = .ok (.iload 4, 2) := by decide +kernel
theorem dX3_obeyForSpace_63 : decode cX3_obeyForSpace 63 = .ok (.iconst 5, 1) := by decide +kernel
theorem dX3_obeyForSpace_64 : decode cX3_obeyForSpace 64 = .ok (.if_icmp .eq 7, 3) := by decide +kernel
theorem dX3_obeyForSpace_67 : decode cX3_obeyForSpace 67 = .ok (.iconst 1, 1) := by decide +kernel
theorem dX3_obeyForSpace_68 : decode cX3_obeyForSpace 68 = .ok (.goto 4, 3) := by decide +kernel
theorem dX3_obeyForSpace_71 : decode cX3_obeyForSpace 71 = .ok (.iconst 0, 1) := by decide +kernel
theorem dX3_obeyForSpace_72 : decode cX3_obeyForSpace 72 = .ok (.ireturn, 1) := by decide +kernel
theorem dX3_obeyForSpace_73 : decode cX3_obeyForSpace 73 = .ok (.aload_n 0, 1) := by decide +kernel
theorem dX3_obeyForSpace_74 : decode cX3_obeyForSpace 74 = .ok (.getfield 41, 3) := by decide +kernel
theorem dX3_obeyForSpace_77 : decode cX3_obeyForSpace 77 = .ok (.iload_n 2, 1) := by decide +kernel
theorem dX3_obeyForSpace_78 : decode cX3_obeyForSpace 78 = .ok (.iload_n 3, 1) := by decide +kernel
theorem dX3_obeyForSpace_79 : decode cX3_obeyForSpace 79 = .ok (.invokevirtual 108, 3) := by decide +kernel
theorem dX3_obeyForSpace_82 : decode cX3_obeyForSpace 82 = .ok (.ireturn, 1) := by decide +kernel
theorem dX3_obeyForSpace_83 : decode cX3_obeyForSpace 83 = .ok (.aload_n 0, 1) := by decide +kernel
theorem dX3_obeyForSpace_84 : decode cX3_obeyForSpace 84 = .ok (.getfield 41, 3) := by decide +kernel
theorem dX3_obeyForSpace_87 : decode cX3_obeyForSpace 87 = .ok (.iload_n 2, 1) := by decide +kernel
theorem dX3_obeyForSpace_88 : decode cX3_obeyForSpace 88 = .ok (.iload_n 3, 1) := by decide +kernel
theorem dX3_obeyForSpace_89 : decode cX3_obeyForSpace 89 = .ok (.invokevirtual 112, 3) := by decide +kernel
theorem dX3_obeyForSpace_92 : decode cX3_obeyForSpace 92 = .ok (.ireturn, 1) := by decide +kernel
theorem dX3_obeyForSpace_93 : decode cX3_obeyForSpace 93 = .ok (.aload_n 0, 1) := by decide +kernel
theorem dX3_obeyForSpace_94 : decode cX3_obeyForSpace 94 = .ok (.getfield 41, 3) := by decide +kernel
theorem dX3_obeyForSpace_97 : decode cX3_obeyForSpace 97 = .ok (.iload_n 2, 1) := by decide +kernel
theorem dX3_obeyForSpace_98 : decode cX3_obeyForSpace 98 = .ok (.iload_n 3, 1) := by decide +kernel
theorem dX3_obeyForSpace_99 : decode cX3_obeyForSpace 99 = .ok (.invokevirtual 187, 3) := by decide +kernel
theorem dX3_obeyForSpace_102 : decode cX3_obeyForSpace 102 = .ok (.ireturn, 1) := by decide +kernel
theorem dX3_obeyForSpace_103 : decode cX3_obeyForSpace 103 = .ok (.aload_n 0, 1) := by decide +kernel
theorem dX3_obeyForSpace_104 : decode cX3_obeyForSpace 104 = .ok (.getfield 41, 3) := by decide +kernel
theorem dX3_obeyForSpace_107 : decode cX3_obeyForSpace 107 = .ok (.iload_n 2, 1) := by decide +kernel
theorem dX3_obeyForSpace_108 : decode cX3_obeyForSpace 108 = .ok (.invokevirtual 165, 3) := by decide +kernel
theorem dX3_obeyForSpace_111 : decode cX3_obeyForSpace 111 = .ok (.iload_n 3, 1) := by decide +kernel
theorem dX3_obeyForSpace_112 : decode cX3_obeyForSpace 112 = .ok (.if_icmp .lt 7, 3) := by decide +kernel
theorem dX3_obeyForSpace_115 : decode cX3_obeyForSpace 115 = .ok (.iconst 1, 1) := by decide +kernel
theorem dX3_obeyForSpace_116 : decode cX3_obeyForSpace 116 = .ok (.goto 4, 3) := by decide +kernel
theorem dX3_obeyForSpace_119 : decode cX3_obeyForSpace 119 = .ok (.iconst 0, 1) := by decide +kernel
theorem dX3_obeyForSpace_120 : decode cX3_obeyForSpace 120 = .ok (.ireturn, 1) := by decide +kernel
theorem dX3_obeyForSpace_121 : decode cX3_obeyForSpace 121 = .ok (.aload_n 0, 1) := by decide +kernel
theorem dX3_obeyForSpace_122 : decode cX3_obeyForSpace 122 = .ok (.aload_n 0, 1) := by decide +kernel
theorem dX3_obeyForSpace_123 : decode cX3_obeyForSpace 123 = .ok (.getfield 41, 3) := by decide +kernel
theorem dX3_obeyForSpace_126 : decode cX3_obeyForSpace 126 = .ok (.iload_n 2, 1) := by decide +kernel
theorem dX3_obeyForSpace_127 : decode cX3_obeyForSpace 127 = .ok (.bipush 60, 2) := by decide +kernel
theorem dX3_obeyForSpace_129 : decode cX3_obeyForSpace 129 = .ok (.invokevirtual 199, 3) := by decide +kernel
theorem dX3_obeyForSpace_132 : decode cX3_obeyForSpace 132 = .ok (.iload_n 3, 1) := by decide +kernel
theorem dX3_obeyForSpace_133 : decode cX3_obeyForSpace 133 = .ok (.if_icmp .lt 7, 3) := by decide +kernel
theorem dX3_obeyForSpace_136 : decode cX3_obeyForSpace 136 = .ok (.iconst 1, 1) := by decide +kernel
theorem dX3_obeyForSpace_137 : decode cX3_obeyForSpace 137 = .ok (.goto 4, 3) := by decide +kernel
theorem dX3_obeyForSpace_140 : decode cX3_obeyForSpace 140 = .ok (.iconst 0, 1) := by decide +kernel
theorem dX3_obeyForSpace_141 : decode cX3_obeyForSpace 141 = .ok (.ireturn, 1) := by decide +kernel
theorem dX3_obeyForSpace_142 : decode cX3_obeyForSpace 142 = .ok (.iconst 0, 1) := by decide +kernel
theorem dX3_obeyForSpace_143 : decode cX3_obeyForSpace 143 = .ok (.ireturn, 1) := by decide +kernel
theorem dX3_simulate_0 : decode cX3_simulate 0 = .ok (.iload_n 3, 1) := by decide +kernel
theorem dX3_simulate_1 : decode cX3_simulate 1 = .ok (.iconst 1, 1) := by decide +kernel
theorem dX3_simulate_2 : decode cX3_simulate 2 = .ok (.if_icmp .lt 9, 3) := by decide +kernel
theorem dX3_simulate_5 : decode cX3_simulate 5 = .ok (.iload_n 3, 1) := by decide +kernel
theorem dX3_simulate_6 : decode cX3_simulate 6 = .ok (.bipush 99, 2) := by decide +kernel
theorem dX3_simulate_8 : decode cX3_simulate 8 = .ok (.if_icmp .le 13, 3) := by decide +kernel
theorem dX3_simulate_11 : decode cX3_simulate 11 = .ok (.new 47, 3) := by decide +kernel
theorem dX3_simulate_14 : decode cX3_simulate 14 = .ok (.dup, 1) := by decide +kernel
theorem dX3_simulate_15 : decode cX3_simulate 15 = .ok (.ldc 246, 2) := by decide +kernel
theorem dX3_simulate_17 : decode cX3_simulate 17 = .ok (.invokespecial 51, 3) := by decide +kernel
theorem dX3_simulate_20 : decode cX3_simulate 20 = .ok (.athrow, 1) := by decide +kernel
theorem dX3_simulate_21 : decode cX3_simulate 21 = .ok (.aload_n 0, 1) := by decide +kernel
theorem dX3_simulate_22 : decode cX3_simulate 22 = .ok (.getfield 41, 3) := by decide +kernel
theorem dX3_simulate_25 : decode cX3_simulate 25 = .ok (.aload_n 0, 1) := by decide +kernel
theorem dX3_simulate_26 : decode cX3_simulate 26 = .ok (.getfield 19, 3) := by decide +kernel
theorem dX3_simulate_29 : decode cX3_simulate 29 = .ok (.invokevirtual 76, 3) := by decide +kernel
theorem dX3_simulate_32 : decode cX3_simulate 32 = .ok (.lload_n 1, 1) := by decide +kernel
theorem dX3_simulate_33 : decode cX3_simulate 33 = .ok (.lstore 4, 2) := by decide +kernel
theorem dX3_simulate_35 : decode cX3_simulate 35 = .ok (.iconst 0, 1) := by decide +kernel
theorem dX3_simulate_36 : decode cX3_simulate 36 = .ok (.istore 6, 2) := by decide +kernel
theorem dX3_simulate_38 : decode cX3_simulate 38 = .ok (.iload 6, 2) := by decide +kernel
theorem dX3_simulate_40 : decode cX3_simulate 40 = .ok (.iload_n 3, 1) := by decide +kernel
theorem dX3_simulate_41 : decode cX3_simulate 41 = .ok (.if_icmp .ge 31, 3) := by decide +kernel
theorem dX3_simulate_44 : decode cX3_simulate 44 = .ok (.lload 4, 2) := by decide +kernel
theorem dX3_simulate_46 : decode cX3_simulate 46 = .ok (.ldc2_w 248, 3) := by decide +kernel
theorem dX3_simulate_49 : decode cX3_simulate 49 = .ok (.lmul, 1) := by decide +kernel
theorem dX3_simulate_50 : decode cX3_simulate 50 = .ok (.ldc2_w 250, 3) := by decide +kernel
theorem dX3_simulate_53 : decode cX3_simulate 53 = .ok (.ladd, 1) := by decide +kernel
theorem dX3_simulate_54 : decode cX3_simulate 54 = .ok (.lstore 4, 2) := by decide +kernel
theorem dX3_simulate_56 : decode cX3_simulate 56 = .ok (.aload_n 0, 1) := by decide +kernel
theorem dX3_simulate_57 : decode cX3_simulate 57 = .ok (.lload 4, 2) := by decide +kernel
theorem dX3_simulate_59 : decode cX3_simulate 59 = .ok (.bipush 33, 2) := by decide +kernel
theorem dX3_simulate_61 : decode cX3_simulate 61 = .ok (.lushr, 1) := by decide +kernel
theorem dX3_simulate_62 : decode cX3_simulate 62 = .ok (.l2i, 1) := by decide +kernel
theorem dX3_simulate_63 : decode cX3_simulate 63 = .ok (.invokevirtual 252, 3) := by decide +kernel
theorem dX3_simulate_66 : decode cX3_simulate 66 = .ok (.iinc 6 1, 3) := by decide +kernel
theorem dX3_simulate_69 : decode cX3_simulate 69 = .ok (.goto (-31), 3) := by decide +kernel
theorem dX3_simulate_72 : decode cX3_simulate 72 = .ok (.sipush 1000, 3) := by decide +kernel
theorem dX3_simulate_75 : decode cX3_simulate 75 = .ok (.aload_n 0, 1) := by decide +kernel
theorem dX3_simulate_76 : decode cX3_simulate 76 = .ok (.getfield 41, 3) := by decide +kernel
theorem dX3_simulate_79 : decode cX3_simulate 79 = .ok (.invokevirtual 255, 3) := by decide +kernel
theorem dX3_simulate_82 : decode cX3_simulate 82 = .ok (.imul, 1) := by decide +kernel
theorem dX3_simulate_83 : decode cX3_simulate 83 = .ok (.aload_n 0, 1) := by decide +kernel
theorem dX3_simulate_84 : decode cX3_simulate 84 = .ok (.getfield 41, 3) := by decide +kernel
theorem dX3_simulate_87 : decode cX3_simulate 87 = .ok (.invokevirtual 205, 3) := by decide +kernel
theorem dX3_simulate_90 : decode cX3_simulate 90 = .ok (.iadd, 1) := by decide +kernel
theorem dX3_simulate_91 : decode cX3_simulate 91 = .ok (.aload_n 0, 1) := by decide +kernel
theorem dX3_simulate_92 : decode cX3_simulate 92 = .ok (.getfield 19, 3) := by decide +kernel
theorem dX3_simulate_95 : decode cX3_simulate 95 = .ok (.invokevirtual 205, 3) := by decide +kernel
theorem dX3_simulate_98 : decode cX3_simulate 98 = .ok (.isub, 1) := by decide +kernel
theorem dX3_simulate_99 : decode cX3_simulate 99 = .ok (.ireturn, 1) := by decide +kernel
theorem dX3_takeTurn_0 : decode cX3_takeTurn 0 = .ok (.iload_n 1, 1) := by decide +kernel
theorem dX3_takeTurn_1 : decode cX3_takeTurn 1 = .ok (.bipush 16, 2) := by decide +kernel
theorem dX3_takeTurn_3 : decode cX3_takeTurn 3 = .ok (.idiv, 1) := by decide +kernel
theorem dX3_takeTurn_4 : decode cX3_takeTurn 4 = .ok (.iconst 1, 1) := by decide +kernel
theorem dX3_takeTurn_5 : decode cX3_takeTurn 5 = .ok (.aload_n 0, 1) := by decide +kernel
theorem dX3_takeTurn_6 : decode cX3_takeTurn 6 = .ok (.getfield 41, 3) := by decide +kernel
theorem dX3_takeTurn_9 : decode cX3_takeTurn 9 = .ok (.getfield 214, 3) := by decide +kernel
theorem dX3_takeTurn_12 : decode cX3_takeTurn 12 = .ok (.invokestatic 258, 3) := by decide +kernel
theorem dX3_takeTurn_15 : decode cX3_takeTurn 15 = .ok (.irem, 1) := by decide +kernel
theorem dX3_takeTurn_16 : decode cX3_takeTurn 16 = .ok (.istore_n 2, 1) := by decide +kernel
theorem dX3_takeTurn_17 : decode cX3_takeTurn 17 = .ok (.iload_n 1, 1) := by decide +kernel
theorem dX3_takeTurn_18 : decode cX3_takeTurn 18 = .ok (.sipush 128, 3) := by decide +kernel
theorem dX3_takeTurn_21 : decode cX3_takeTurn 21 = .ok (.idiv, 1) := by decide +kernel
theorem dX3_takeTurn_22 : decode cX3_takeTurn 22 = .ok (.bipush 40, 2) := by decide +kernel
theorem dX3_takeTurn_24 : decode cX3_takeTurn 24 = .ok (.irem, 1) := by decide +kernel
theorem dX3_takeTurn_25 : decode cX3_takeTurn 25 = .ok (.istore_n 3, 1) := by decide +kernel
theorem dX3_takeTurn_26 : decode cX3_takeTurn 26 = .ok (.iload_n 1, 1) := by decide +kernel
theorem dX3_takeTurn_27 : decode cX3_takeTurn 27 = .ok (.bipush 16, 2) := by decide +kernel
theorem dX3_takeTurn_29 : decode cX3_takeTurn 29 = .ok (.irem, 1) := by decide +kernel
theorem dX3_takeTurn_30 : decode cX3_takeTurn 30 = .ok (.istore 4, 2) := by decide +kernel
theorem dX3_takeTurn_32 : decode cX3_takeTurn 32 = .ok (.iload 4, 2) := by decide +kernel
theorem dX3_takeTurn_34 : decode cX3_takeTurn 34 = .ok (.ifCond .ne 32, 3) := by decide +kernel
theorem dX3_takeTurn_37 : decode cX3_takeTurn 37 = .ok (.aload_n 0, 1) := by decide +kernel
theorem dX3_takeTurn_38 : decode cX3_takeTurn 38 = .ok (.getfield 41, 3) := by decide +kernel
theorem dX3_takeTurn_41 : decode cX3_takeTurn 41 = .ok (.iload_n 1, 1) := by decide +kernel
theorem dX3_takeTurn_42 : decode cX3_takeTurn 42 = .ok (.bipush 16, 2) := by decide +kernel
theorem dX3_takeTurn_44 : decode cX3_takeTurn 44 = .ok (.idiv, 1) := by decide +kernel
theorem dX3_takeTurn_45 : decode cX3_takeTurn 45 = .ok (.bipush 16, 2) := by decide +kernel
theorem dX3_takeTurn_47 : decode cX3_takeTurn 47 = .ok (.irem, 1) := by decide +kernel
theorem dX3_takeTurn_48 : decode cX3_takeTurn 48 = .ok (.bipush 16, 2) := by decide +kernel
theorem dX3_takeTurn_50 : decode cX3_takeTurn 50 = .ok (.iload_n 1, 1) := by decide +kernel
theorem dX3_takeTurn_51 : decode cX3_takeTurn 51 = .ok (.sipush 256, 3) := by decide +kernel
theorem dX3_takeTurn_54 : decode cX3_takeTurn 54 = .ok (.idiv, 1) := by decide +kernel
theorem dX3_takeTurn_55 : decode cX3_takeTurn 55 = .ok (.bipush 40, 2) := by decide +kernel
theorem dX3_takeTurn_57 : decode cX3_takeTurn 57 = .ok (.irem, 1) := by decide +kernel
theorem dX3_takeTurn_58 : decode cX3_takeTurn 58 = .ok (.iadd, 1) := by decide +kernel
theorem dX3_takeTurn_59 : decode cX3_takeTurn 59 = .ok (.invokevirtual 102, 3) := by decide +kernel
theorem dX3_takeTurn_62 : decode cX3_takeTurn 62 = .ok (.pop, 1) := by decide +kernel
theorem dX3_takeTurn_63 : decode cX3_takeTurn 63 = .ok (.goto 58, 3) := by decide +kernel
theorem dX3_takeTurn_66 : decode cX3_takeTurn 66 = .ok (.iload 4, 2) := by decide +kernel
theorem dX3_takeTurn_68 : decode cX3_takeTurn 68 = .ok (.iconst 1, 1) := by decide +kernel
theorem dX3_takeTurn_69 : decode cX3_takeTurn 69 = .ok (.if_icmp .ne 23, 3) := by decide +kernel
theorem dX3_takeTurn_72 : decode cX3_takeTurn 72 = .ok (.aload_n 0, 1) := by decide +kernel
theorem dX3_takeTurn_73 : decode cX3_takeTurn 73 = .ok (.getfield 41, 3) := by decide +kernel
theorem dX3_takeTurn_76 : decode cX3_takeTurn 76 = .ok (.iload_n 2, 1) := by decide +kernel
theorem dX3_takeTurn_77 : decode cX3_takeTurn 77 = .ok (.iload_n 1, 1) := by decide +kernel
theorem dX3_takeTurn_78 : decode cX3_takeTurn 78 = .ok (.sipush 128, 3) := by decide +kernel
theorem dX3_takeTurn_81 : decode cX3_takeTurn 81 = .ok (.idiv, 1) := by decide +kernel
theorem dX3_takeTurn_82 : decode cX3_takeTurn 82 = .ok (.bipush 20, 2) := by decide +kernel
theorem dX3_takeTurn_84 : decode cX3_takeTurn 84 = .ok (.irem, 1) := by decide +kernel
theorem dX3_takeTurn_85 : decode cX3_takeTurn 85 = .ok (.invokevirtual 112, 3) := by decide +kernel
theorem dX3_takeTurn_88 : decode cX3_takeTurn 88 = .ok (.pop, 1) := by decide +kernel
theorem dX3_takeTurn_89 : decode cX3_takeTurn 89 = .ok (.goto 32, 3) := by decide +kernel
theorem dX3_takeTurn_92 : decode cX3_takeTurn 92 = .ok (.iload 4, 2) := by decide +kernel
theorem dX3_takeTurn_94 : decode cX3_takeTurn 94 = .ok (.iconst 4, 1) := by decide +kernel
theorem dX3_takeTurn_95 : decode cX3_takeTurn 95 = .ok (.if_icmp .ge 16, 3) := by decide +kernel
theorem dX3_takeTurn_98 : decode cX3_takeTurn 98 = .ok (.aload_n 0, 1) := by decide +kernel
theorem dX3_takeTurn_99 : decode cX3_takeTurn 99 = .ok (.getfield 41, 3) := by decide +kernel
theorem dX3_takeTurn_102 : decode cX3_takeTurn 102 = .ok (.iload_n 2, 1) := by decide +kernel
theorem dX3_takeTurn_103 : decode cX3_takeTurn 103 = .ok (.iload_n 3, 1) := by decide +kernel
theorem dX3_takeTurn_104 : decode cX3_takeTurn 104 = .ok (.invokevirtual 108, 3) := by decide +kernel
theorem dX3_takeTurn_107 : decode cX3_takeTurn 107 = .ok (.pop, 1) := by decide +kernel
theorem dX3_takeTurn_108 : decode cX3_takeTurn 108 = .ok (.goto 13, 3) := by decide +kernel
theorem dX3_takeTurn_111 : decode cX3_takeTurn 111 = .ok (.aload_n 0, 1) := by decide +kernel
theorem dX3_takeTurn_112 : decode cX3_takeTurn 112 = .ok (.getfield 41, 3) := by decide +kernel
theorem dX3_takeTurn_115 : decode cX3_takeTurn 115 = .ok (.iload_n 2, 1) := by decide +kernel
theorem dX3_takeTurn_116 : decode cX3_takeTurn 116 = .ok (.iload_n 3, 1) := by decide +kernel
theorem dX3_takeTurn_117 : decode cX3_takeTurn 117 = .ok (.invokevirtual 105, 3) := by decide +kernel
theorem dX3_takeTurn_120 : decode cX3_takeTurn 120 = .ok (.pop, 1) := by decide +kernel
theorem dX3_takeTurn_121 : decode cX3_takeTurn 121 = .ok (.return_, 1) := by decide +kernel
theorem dX3_save_0 : decode cX3_save 0 = .ok (.iload_n 1, 1) := by decide +kernel
theorem dX3_save_1 : decode cX3_save 1 = .ok (.invokestatic 263, 3) := by decide +kernel
theorem dX3_save_4 : decode cX3_save 4 = .ok (.aload_n 0, 1) := by decide +kernel
theorem dX3_save_5 : decode cX3_save 5 = .ok (.getfield 30, 3) := by decide +kernel
theorem dX3_save_8 : decode cX3_save 8 = .ok (.iload_n 1, 1) := by decide +kernel
theorem dX3_save_9 : decode cX3_save 9 = .ok (.aaload, 1) := by decide +kernel
theorem dX3_save_10 : decode cX3_save 10 = .ok (.aload_n 0, 1) := by decide +kernel
theorem dX3_save_11 : decode cX3_save 11 = .ok (.getfield 19, 3) := by decide +kernel
theorem dX3_save_14 : decode cX3_save 14 = .ok (.invokevirtual 76, 3) := by decide +kernel
theorem dX3_save_17 : decode cX3_save 17 = .ok (.aload_n 0, 1) := by decide +kernel
theorem dX3_save_18 : decode cX3_save 18 = .ok (.getfield 34, 3) := by decide +kernel
theorem dX3_save_21 : decode cX3_save 21 = .ok (.iload_n 1, 1) := by decide +kernel
theorem dX3_save_22 : decode cX3_save 22 = .ok (.iconst 1, 1) := by decide +kernel
theorem dX3_save_23 : decode cX3_save 23 = .ok (.bastore, 1) := by decide +kernel
theorem dX3_save_24 : decode cX3_save 24 = .ok (.aload_n 0, 1) := by decide +kernel
theorem dX3_save_25 : decode cX3_save 25 = .ok (.getfield 19, 3) := by decide +kernel
theorem dX3_save_28 : decode cX3_save 28 = .ok (.invokevirtual 255, 3) := by decide +kernel
theorem dX3_save_31 : decode cX3_save 31 = .ok (.ireturn, 1) := by decide +kernel
theorem dX3_restore_0 : decode cX3_restore 0 = .ok (.iload_n 1, 1) := by decide +kernel
theorem dX3_restore_1 : decode cX3_restore 1 = .ok (.invokestatic 263, 3) := by decide +kernel
theorem dX3_restore_4 : decode cX3_restore 4 = .ok (.aload_n 0, 1) := by decide +kernel
theorem dX3_restore_5 : decode cX3_restore 5 = .ok (.getfield 34, 3) := by decide +kernel
theorem dX3_restore_8 : decode cX3_restore 8 = .ok (.iload_n 1, 1) := by decide +kernel
theorem dX3_restore_9 : decode cX3_restore 9 = .ok (.baload, 1) := by decide +kernel
theorem dX3_restore_10 : decode cX3_restore 10 = .ok (.ifCond .ne 14, 3) := by decide +kernel
theorem dX3_restore_13 : decode cX3_restore 13 = .ok (.new 58, 3) := by decide +kernel
theorem dX3_restore_16 : decode cX3_restore 16 = .ok (.dup, 1) := by decide +kernel
theorem dX3_restore_17 : decode cX3_restore 17 = .ok (.ldc_w 266, 3) := by decide +kernel
theorem dX3_restore_20 : decode cX3_restore 20 = .ok (.invokespecial 62, 3) := by decide +kernel
theorem dX3_restore_23 : decode cX3_restore 23 = .ok (.athrow, 1) := by decide +kernel
theorem dX3_restore_24 : decode cX3_restore 24 = .ok (.aload_n 0, 1) := by decide +kernel
theorem dX3_restore_25 : decode cX3_restore 25 = .ok (.getfield 19, 3) := by decide +kernel
theorem dX3_restore_28 : decode cX3_restore 28 = .ok (.aload_n 0, 1) := by decide +kernel
theorem dX3_restore_29 : decode cX3_restore 29 = .ok (.getfield 30, 3) := by decide +kernel
theorem dX3_restore_32 : decode cX3_restore 32 = .ok (.iload_n 1, 1) := by decide +kernel
theorem dX3_restore_33 : decode cX3_restore 33 = .ok (.aaload, 1) := by decide +kernel
theorem dX3_restore_34 : decode cX3_restore 34 = .ok (.invokevirtual 76, 3) := by decide +kernel
theorem dX3_restore_37 : decode cX3_restore 37 = .ok (.aload_n 0, 1) := by decide +kernel
theorem dX3_restore_38 : decode cX3_restore 38 = .ok (.getfield 26, 3) := by decide +kernel
theorem dX3_restore_41 : decode cX3_restore 41 = .ok (.invokevirtual 80, 3) := by decide +kernel
theorem dX3_restore_44 : decode cX3_restore 44 = .ok (.aload_n 0, 1) := by decide +kernel
theorem dX3_restore_45 : decode cX3_restore 45 = .ok (.getfield 19, 3) := by decide +kernel
theorem dX3_restore_48 : decode cX3_restore 48 = .ok (.invokevirtual 255, 3) := by decide +kernel
theorem dX3_restore_51 : decode cX3_restore 51 = .ok (.ireturn, 1) := by decide +kernel
theorem dX3_needSpace_0 : decode cX3_needSpace 0 = .ok (.aload_n 0, 1) := by decide +kernel
theorem dX3_needSpace_1 : decode cX3_needSpace 1 = .ok (.getfield 19, 3) := by decide +kernel
theorem dX3_needSpace_4 : decode cX3_needSpace 4 = .ok (.iload_n 1, 1) := by decide +kernel
theorem dX3_needSpace_5 : decode cX3_needSpace 5 = .ok (.invokevirtual 239, 3) := by decide +kernel
theorem dX3_needSpace_8 : decode cX3_needSpace 8 = .ok (.ifCond .ne 14, 3) := by decide +kernel
theorem dX3_needSpace_11 : decode cX3_needSpace 11 = .ok (.new 268, 3) := by decide +kernel
theorem dX3_needSpace_14 : decode cX3_needSpace 14 = .ok (.dup, 1) := by decide +kernel
theorem dX3_needSpace_15 : decode cX3_needSpace 15 = .ok (.ldc_w 270, 3) := by decide +kernel
theorem dX3_needSpace_18 : decode cX3_needSpace 18 = .ok (.invokespecial 272, 3) := by decide +kernel
theorem dX3_needSpace_21 : decode cX3_needSpace 21 = .ok (.athrow, 1) := by decide +kernel
theorem dX3_needSpace_22 : decode cX3_needSpace 22 = .ok (.return_, 1) := by decide +kernel
theorem dX3_needPage_0 : decode cX3_needPage 0 = .ok (.aload_n 0, 1) := by decide +kernel
theorem dX3_needPage_1 : decode cX3_needPage 1 = .ok (.getfield 19, 3) := by decide +kernel
theorem dX3_needPage_4 : decode cX3_needPage 4 = .ok (.iload_n 1, 1) := by decide +kernel
theorem dX3_needPage_5 : decode cX3_needPage 5 = .ok (.iload_n 2, 1) := by decide +kernel
theorem dX3_needPage_6 : decode cX3_needPage 6 = .ok (.invokevirtual 273, 3) := by decide +kernel
theorem dX3_needPage_9 : decode cX3_needPage 9 = .ok (.ifCond .ne 14, 3) := by decide +kernel
theorem dX3_needPage_12 : decode cX3_needPage 12 = .ok (.new 268, 3) := by decide +kernel
theorem dX3_needPage_15 : decode cX3_needPage 15 = .ok (.dup, 1) := by decide +kernel
theorem dX3_needPage_16 : decode cX3_needPage 16 = .ok (.ldc_w 276, 3) := by decide +kernel
theorem dX3_needPage_19 : decode cX3_needPage 19 = .ok (.invokespecial 272, 3) := by decide +kernel
theorem dX3_needPage_22 : decode cX3_needPage 22 = .ok (.athrow, 1) := by decide +kernel
theorem dX3_needPage_23 : decode cX3_needPage 23 = .ok (.return_, 1) := by decide +kernel
theorem dX3_needSlot_0 : decode cX3_needSlot 0 = .ok (.iload_n 0, 1) := by decide +kernel
theorem dX3_needSlot_1 : decode cX3_needSlot 1 = .ok (.ifCond .lt 8, 3) := by decide +kernel
theorem dX3_needSlot_4 : decode cX3_needSlot 4 = .ok (.iload_n 0, 1) := by decide +kernel
theorem dX3_needSlot_5 : decode cX3_needSlot 5 = .ok (.iconst 2, 1) := by decide +kernel
theorem dX3_needSlot_6 : decode cX3_needSlot 6 = .ok (.if_icmp .lt 14, 3) := by decide +kernel
theorem dX3_needSlot_9 : decode cX3_needSlot 9 = .ok (.new 268, 3) := by decide +kernel
theorem dX3_needSlot_12 : decode cX3_needSlot 12 = .ok (.dup, 1) := by decide +kernel
theorem dX3_needSlot_13 : decode cX3_needSlot 13 = .ok (.ldc_w 278, 3) := by decide +kernel
theorem dX3_needSlot_16 : decode cX3_needSlot 16 = .ok (.invokespecial 272, 3) := by decide +kernel
theorem dX3_needSlot_19 : decode cX3_needSlot 19 = .ok (.athrow, 1) := by decide +kernel
theorem dX3_needSlot_20 : decode cX3_needSlot 20 = .ok (.return_, 1) := by decide +kernel
theorem dX4_init_0 : decode cX4_init 0 = .ok (.aload_n 0, 1) := by decide +kernel
theorem dX4_init_1 : decode cX4_init 1 = .ok (.invokespecial 1, 3) := by decide +kernel
theorem dX4_init_4 : decode cX4_init 4 = .ok (.aload_n 0, 1) := by decide +kernel
theorem dX4_init_5 : decode cX4_init 5 = .ok (.bipush 120, 2) := by decide +kernel
theorem dX4_init_7 : decode cX4_init 7 = .ok (.newarray .int, 2) := by decide +kernel
theorem dX4_init_9 : decode cX4_init 9 = .ok (.putfield 7, 3) := by decide +kernel
theorem dX4_init_12 : decode cX4_init 12 = .ok (.aload_n 0, 1) := by decide +kernel
theorem dX4_init_13 : decode cX4_init 13 = .ok (.sipush 262, 3) := by decide +kernel
theorem dX4_init_16 : decode cX4_init 16 = .ok (.newarray .int, 2) := by decide +kernel
theorem dX4_init_18 : decode cX4_init 18 = .ok (.putfield 13, 3) := by decide +kernel
theorem dX4_init_21 : decode cX4_init 21 = .ok (.aload_n 0, 1) := by decide +kernel
theorem dX4_init_22 : decode cX4_init 22 = .ok (.sipush 262, 3) := by decide +kernel
theorem dX4_init_25 : decode cX4_init 25 = .ok (.newarray .int, 2) := by decide +kernel
theorem dX4_init_27 : decode cX4_init 27 = .ok (.putfield 16, 3) := by decide +kernel
theorem dX4_init_30 : decode cX4_init 30 = .ok (.aload_n 0, 1) := by decide +kernel
theorem dX4_init_31 : decode cX4_init 31 = .ok (.sipush 3668, 3) := by decide +kernel
theorem dX4_init_34 : decode cX4_init 34 = .ok (.newarray .int, 2) := by decide +kernel
theorem dX4_init_36 : decode cX4_init 36 = .ok (.putfield 19, 3) := by decide +kernel
theorem dX4_init_39 : decode cX4_init 39 = .ok (.aload_n 0, 1) := by decide +kernel
theorem dX4_init_40 : decode cX4_init 40 = .ok (.sipush 524, 3) := by decide +kernel
theorem dX4_init_43 : decode cX4_init 43 = .ok (.newarray .int, 2) := by decide +kernel
theorem dX4_init_45 : decode cX4_init 45 = .ok (.putfield 22, 3) := by decide +kernel
theorem dX4_init_48 : decode cX4_init 48 = .ok (.aload_n 0, 1) := by decide +kernel
theorem dX4_init_49 : decode cX4_init 49 = .ok (.iconst 2, 1) := by decide +kernel
theorem dX4_init_50 : decode cX4_init 50 = .ok (.newarray .boolean, 2) := by decide +kernel
theorem dX4_init_52 : decode cX4_init 52 = .ok (.putfield 25, 3) := by decide +kernel
theorem dX4_init_55 : decode cX4_init 55 = .ok (.aload_n 0, 1) := by decide +kernel
theorem dX4_init_56 : decode cX4_init 56 = .ok (.iconst (-1), 1) := by decide +kernel
theorem dX4_init_57 : decode cX4_init 57 = .ok (.putfield 29, 3) := by decide +kernel
theorem dX4_init_60 : decode cX4_init 60 = .ok (.aload_n 0, 1) := by decide +kernel
theorem dX4_init_61 : decode cX4_init 61 = .ok (.sipush 262, 3) := by decide +kernel
theorem dX4_init_64 : decode cX4_init 64 = .ok (.newarray .int, 2) := by decide +kernel
theorem dX4_init_66 : decode cX4_init 66 = .ok (.putfield 33, 3) := by decide +kernel
theorem dX4_init_69 : decode cX4_init 69 = .ok (.return_, 1) := by decide +kernel
theorem dX4_thrown_0 : decode cX4_thrown 0 = .ok (.aload_n 0, 1) := by decide +kernel
theorem dX4_thrown_1 : decode cX4_thrown 1 = .ok (.getfield 36, 3) := by decide +kernel
theorem dX4_thrown_4 : decode cX4_thrown 4 = .ok (.ireturn, 1) := by decide +kernel
theorem dX4_refused_0 : decode cX4_refused 0 = .ok (.aload_n 0, 1) := by decide +kernel
theorem dX4_refused_1 : decode cX4_refused 1 = .ok (.iload_n 1, 1) := by decide +kernel
theorem dX4_refused_2 : decode cX4_refused 2 = .ok (.putfield 36, 3) := by decide +kernel
theorem dX4_refused_5 : decode cX4_refused 5 = .ok (.iload_n 1, 1) := by decide +kernel
theorem dX4_refused_6 : decode cX4_refused 6 = .ok (.ifCond .le 7, 3) := by decide +kernel
theorem dX4_refused_9 : decode cX4_refused 9 = .ok (.iconst 1, 1) := by decide +kernel
theorem dX4_refused_10 : decode cX4_refused 10 = .ok (.goto 4, 3) := by decide +kernel
theorem dX4_refused_13 : decode cX4_refused 13 = .ok (.iconst 0, 1) := by decide +kernel
theorem dX4_refused_14 : decode cX4_refused 14 = .ok (.ireturn, 1) := by decide +kernel
theorem dX4_in_0 : decode cX4_in 0 = .ok (.lload_n 0, 1) := by decide +kernel
theorem dX4_in_1 : decode cX4_in 1 = .ok (.lload_n 2, 1) := by decide +kernel
theorem dX4_in_2 : decode cX4_in 2 = .ok (.lcmp, 1) := by decide +kernel
theorem dX4_in_3 : decode cX4_in 3 = .ok (.ifCond .lt 14, 3) := by decide +kernel
theorem dX4_in_6 : decode cX4_in 6 = .ok (.lload_n 0, 1) := by decide +kernel
theorem dX4_in_7 : decode cX4_in 7 = .ok (.lload 4, 2) := by decide +kernel
theorem dX4_in_9 : decode cX4_in 9 = .ok (.lcmp, 1) := by decide +kernel
theorem dX4_in_10 : decode cX4_in 10 = .ok (.ifCond .gt 7, 3) := by decide +kernel
theorem dX4_in_13 : decode cX4_in 13 = .ok (.iconst 1, 1) := by decide +kernel
theorem dX4_in_14 : decode cX4_in 14 = .ok (.goto 4, 3) := by decide +kernel
theorem dX4_in_17 : decode cX4_in 17 = .ok (.iconst 0, 1) := by decide +kernel
theorem dX4_in_18 : decode cX4_in 18 = .ok (.ireturn, 1) := by decide +kernel
theorem dX4_copyState_0 : decode cX4_copyState 0 = .ok (.iconst 0, 1) := by decide +kernel
theorem dX4_copyState_1 : decode cX4_copyState 1 = .ok (.istore 4, 2) := by decide +kernel
theorem dX4_copyState_3 : decode cX4_copyState 3 = .ok (.iload 4, 2) := by decide +kernel
theorem dX4_copyState_5 : decode cX4_copyState 5 = .ok (.sipush 262, 3) := by decide +kernel
theorem dX4_copyState_8 : decode cX4_copyState 8 = .ok (.if_icmp .ge 21, 3) := by decide +kernel
theorem dX4_copyState_11 : decode cX4_copyState 11 = .ok (.aload_n 2, 1) := by decide +kernel
theorem dX4_copyState_12 : decode cX4_copyState 12 = .ok (.iload_n 3, 1) := by decide +kernel
theorem dX4_copyState_13 : decode cX4_copyState 13 = .ok (.iload 4, 2) := by decide +kernel
theorem dX4_copyState_15 : decode cX4_copyState 15 = .ok (.iadd, 1) := by decide +kernel
theorem dX4_copyState_16 : decode cX4_copyState 16 = .ok (.aload_n 0, 1) := by decide +kernel
theorem dX4_copyState_17 : decode cX4_copyState 17 = .ok (.iload_n 1, 1) := by decide +kernel
theorem dX4_copyState_18 : decode cX4_copyState 18 = .ok (.iload 4, 2) := by decide +kernel
theorem dX4_copyState_20 : decode cX4_copyState 20 = .ok (.iadd, 1) := by decide +kernel
theorem dX4_copyState_21 : decode cX4_copyState 21 = .ok (.iaload, 1) := by decide +kernel
theorem dX4_copyState_22 : decode cX4_copyState 22 = .ok (.iastore, 1) := by decide +kernel
theorem dX4_copyState_23 : decode cX4_copyState 23 = .ok (.iinc 4 1, 3) := by decide +kernel
theorem dX4_copyState_26 : decode cX4_copyState 26 = .ok (.goto (-23), 3) := by decide +kernel
theorem dX4_copyState_29 : decode cX4_copyState 29 = .ok (.return_, 1) := by decide +kernel
theorem dX4_isSpace_0 : decode cX4_isSpace 0 = .ok (.iload_n 1, 1) := by decide +kernel
theorem dX4_isSpace_1 : decode cX4_isSpace 1 = .ok (.i2l, 1) := by decide +kernel
theorem dX4_isSpace_2 : decode cX4_isSpace 2 = .ok (.lconst 0, 1) := by decide +kernel
theorem dX4_isSpace_3 : decode cX4_isSpace 3 = .ok (.aload_n 0, 1) := by decide +kernel
theorem dX4_isSpace_4 : decode cX4_isSpace 4 = .ok (.iconst 0, 1) := by decide +kernel
theorem dX4_isSpace_5 : decode cX4_isSpace 5 = .ok (.iaload, 1) := by decide +kernel
theorem dX4_isSpace_6 : decode cX4_isSpace 6 = .ok (.iconst 1, 1) := by decide +kernel
theorem dX4_isSpace_7 : decode cX4_isSpace 7 = .ok (.isub, 1) := by decide +kernel
theorem dX4_isSpace_8 : decode cX4_isSpace 8 = .ok (.i2l, 1) := by decide +kernel
theorem dX4_isSpace_9 : decode cX4_isSpace 9 = .ok (.invokestatic 39, 3) := by decide +kernel
theorem dX4_isSpace_12 : decode cX4_isSpace 12 = .ok (.ireturn, 1) := by decide +kernel
theorem dX4_isPage_0 : decode cX4_isPage 0 = .ok (.iload_n 0, 1) := by decide +kernel
theorem dX4_isPage_1 : decode cX4_isPage 1 = .ok (.i2l, 1) := by decide +kernel
theorem dX4_isPage_2 : decode cX4_isPage 2 = .ok (.lconst 0, 1) := by decide +kernel
theorem dX4_isPage_3 : decode cX4_isPage 3 = .ok (.ldc2_w 43, 3) := by decide +kernel
theorem dX4_isPage_6 : decode cX4_isPage 6 = .ok (.invokestatic 39, 3) := by decide +kernel
theorem dX4_isPage_9 : decode cX4_isPage 9 = .ok (.ireturn, 1) := by decide +kernel
theorem dX4_at_0 : decode cX4_at 0 = .ok (.iconst 2, 1) := by decide +kernel
theorem dX4_at_1 : decode cX4_at 1 = .ok (.bipush 52, 2) := by decide +kernel
theorem dX4_at_3 : decode cX4_at 3 = .ok (.iload_n 0, 1) := by decide +kernel
theorem dX4_at_4 : decode cX4_at 4 = .ok (.imul, 1) := by decide +kernel
theorem dX4_at_5 : decode cX4_at 5 = .ok (.iadd, 1) := by decide +kernel
theorem dX4_at_6 : decode cX4_at 6 = .ok (.ireturn, 1) := by decide +kernel
theorem dX4_of_0 : decode cX4_of 0 = .ok (.aload_n 0, 1) := by decide +kernel
theorem dX4_of_1 : decode cX4_of 1 = .ok (.iload_n 1, 1) := by decide +kernel
theorem dX4_of_2 : decode cX4_of 2 = .ok (.invokestatic 45, 3) := by decide +kernel
theorem dX4_of_5 : decode cX4_of 5 = .ok (.iload_n 2, 1) := by decide +kernel
theorem dX4_of_6 : decode cX4_of 6 = .ok (.iadd, 1) := by decide +kernel
theorem dX4_of_7 : decode cX4_of 7 = .ok (.iaload, 1) := by decide +kernel
theorem dX4_of_8 : decode cX4_of 8 = .ok (.ireturn, 1) := by decide +kernel
theorem dX4_sum_0 : decode cX4_sum 0 = .ok (.iconst 0, 1) := by decide +kernel
theorem dX4_sum_1 : decode cX4_sum 1 = .ok (.istore_n 2, 1) := by decide +kernel
theorem dX4_sum_2 : decode cX4_sum 2 = .ok (.iconst 0, 1) := by decide +kernel
theorem dX4_sum_3 : decode cX4_sum 3 = .ok (.istore_n 3, 1) := by decide +kernel
theorem dX4_sum_4 : decode cX4_sum 4 = .ok (.iload_n 3, 1) := by decide +kernel
theorem dX4_sum_5 : decode cX4_sum 5 = .ok (.aload_n 0, 1) := by decide +kernel
theorem dX4_sum_6 : decode cX4_sum 6 = .ok (.iconst 0, 1) := by decide +kernel
theorem dX4_sum_7 : decode cX4_sum 7 = .ok (.iaload, 1) := by decide +kernel
theorem dX4_sum_8 : decode cX4_sum 8 = .ok (.if_icmp .ge 18, 3) := by decide +kernel
theorem dX4_sum_11 : decode cX4_sum 11 = .ok (.iload_n 2, 1) := by decide +kernel
theorem dX4_sum_12 : decode cX4_sum 12 = .ok (.aload_n 0, 1) := by decide +kernel
theorem dX4_sum_13 : decode cX4_sum 13 = .ok (.iload_n 3, 1) := by decide +kernel
theorem dX4_sum_14 : decode cX4_sum 14 = .ok (.iload_n 1, 1) := by decide +kernel
theorem dX4_sum_15 : decode cX4_sum 15 = .ok (.invokestatic 49, 3) := by decide +kernel
theorem dX4_sum_18 : decode cX4_sum 18 = .ok (.iadd, 1) := by decide +kernel
theorem dX4_sum_19 : decode cX4_sum 19 = .ok (.istore_n 2, 1) := by decide +kernel
theorem dX4_sum_20 : decode cX4_sum 20 = .ok (.iinc 3 1, 3) := by decide +kernel
theorem dX4_sum_23 : decode cX4_sum 23 = .ok (.goto (-19), 3) := by decide +kernel
theorem dX4_sum_26 : decode cX4_sum 26 = .ok (.iload_n 2, 1) := by decide +kernel
theorem dX4_sum_27 : decode cX4_sum 27 = .ok (.ireturn, 1) := by decide +kernel
theorem dX4_lends_0 : decode cX4_lends 0 = .ok (.aload_n 0, 1) := by decide +kernel
theorem dX4_lends_1 : decode cX4_lends 1 = .ok (.bipush 7, 2) := by decide +kernel
theorem dX4_lends_3 : decode cX4_lends 3 = .ok (.iload_n 1, 1) := by decide +kernel
theorem dX4_lends_4 : decode cX4_lends 4 = .ok (.iadd, 1) := by decide +kernel
theorem dX4_lends_5 : decode cX4_lends 5 = .ok (.invokestatic 53, 3) := by decide +kernel
theorem dX4_lends_8 : decode cX4_lends 8 = .ok (.ireturn, 1) := by decide +kernel
theorem dX4_borrowed_0 : decode cX4_borrowed 0 = .ok (.iconst 0, 1) := by decide +kernel
theorem dX4_borrowed_1 : decode cX4_borrowed 1 = .ok (.istore_n 2, 1) := by decide +kernel
theorem dX4_borrowed_2 : decode cX4_borrowed 2 = .ok (.iconst 0, 1) := by decide +kernel
theorem dX4_borrowed_3 : decode cX4_borrowed 3 = .ok (.istore_n 3, 1) := by decide +kernel
theorem dX4_borrowed_4 : decode cX4_borrowed 4 = .ok (.iload_n 3, 1) := by decide +kernel
theorem dX4_borrowed_5 : decode cX4_borrowed 5 = .ok (.iconst 5, 1) := by decide +kernel
theorem dX4_borrowed_6 : decode cX4_borrowed 6 = .ok (.if_icmp .ge 21, 3) := by decide +kernel
theorem dX4_borrowed_9 : decode cX4_borrowed 9 = .ok (.iload_n 2, 1) := by decide +kernel
theorem dX4_borrowed_10 : decode cX4_borrowed 10 = .ok (.aload_n 0, 1) := by decide +kernel
theorem dX4_borrowed_11 : decode cX4_borrowed 11 = .ok (.iload_n 1, 1) := by decide +kernel
theorem dX4_borrowed_12 : decode cX4_borrowed 12 = .ok (.bipush 7, 2) := by decide +kernel
theorem dX4_borrowed_14 : decode cX4_borrowed 14 = .ok (.iload_n 3, 1) := by decide +kernel
theorem dX4_borrowed_15 : decode cX4_borrowed 15 = .ok (.iadd, 1) := by decide +kernel
theorem dX4_borrowed_16 : decode cX4_borrowed 16 = .ok (.invokestatic 49, 3) := by decide +kernel
theorem dX4_borrowed_19 : decode cX4_borrowed 19 = .ok (.iadd, 1) := by decide +kernel
theorem dX4_borrowed_20 : decode cX4_borrowed 20 = .ok (.istore_n 2, 1) := by decide +kernel
theorem dX4_borrowed_21 : decode cX4_borrowed 21 = .ok (.iinc 3 1, 3) := by decide +kernel
theorem dX4_borrowed_24 : decode cX4_borrowed 24 = .ok (.goto (-20), 3) := by decide +kernel
theorem dX4_borrowed_27 : decode cX4_borrowed 27 = .ok (.iload_n 2, 1) := by decide +kernel
theorem dX4_borrowed_28 : decode cX4_borrowed 28 = .ok (.ireturn, 1) := by decide +kernel
theorem dX4_taken_0 : decode cX4_taken 0 = .ok (.aload_n 0, 1) := by decide +kernel
theorem dX4_taken_1 : decode cX4_taken 1 = .ok (.iload_n 1, 1) := by decide +kernel
theorem dX4_taken_2 : decode cX4_taken 2 = .ok (.iconst 2, 1) := by decide +kernel
theorem dX4_taken_3 : decode cX4_taken 3 = .ok (.invokestatic 49, 3) := by decide +kernel
theorem dX4_taken_6 : decode cX4_taken 6 = .ok (.aload_n 0, 1) := by decide +kernel
theorem dX4_taken_7 : decode cX4_taken 7 = .ok (.iload_n 1, 1) := by decide +kernel
theorem dX4_taken_8 : decode cX4_taken 8 = .ok (.iconst 3, 1) := by decide +kernel
theorem dX4_taken_9 : decode cX4_taken 9 = .ok (.invokestatic 49, 3) := by decide +kernel
theorem dX4_taken_12 : decode cX4_taken 12 = .ok (.iadd, 1) := by decide +kernel
theorem dX4_taken_13 : decode cX4_taken 13 = .ok (.aload_n 0, 1) := by decide +kernel
theorem dX4_taken_14 : decode cX4_taken 14 = .ok (.iload_n 1, 1) := by decide +kernel
theorem dX4_taken_15 : decode cX4_taken 15 = .ok (.invokestatic 57, 3) := by decide +kernel
theorem dX4_taken_18 : decode cX4_taken 18 = .ok (.iadd, 1) := by decide +kernel
theorem dX4_taken_19 : decode cX4_taken 19 = .ok (.ireturn, 1) := by decide +kernel
theorem dX4_idle_0 : decode cX4_idle 0 = .ok (.aload_n 0, 1) := by decide +kernel
theorem dX4_idle_1 : decode cX4_idle 1 = .ok (.iload_n 1, 1) := by decide +kernel
theorem dX4_idle_2 : decode cX4_idle 2 = .ok (.iconst 0, 1) := by decide +kernel
theorem dX4_idle_3 : decode cX4_idle 3 = .ok (.invokestatic 49, 3) := by decide +kernel
theorem dX4_idle_6 : decode cX4_idle 6 = .ok (.aload_n 0, 1) := by decide +kernel
theorem dX4_idle_7 : decode cX4_idle 7 = .ok (.iload_n 1, 1) := by decide +kernel
theorem dX4_idle_8 : decode cX4_idle 8 = .ok (.iconst 2, 1) := by decide +kernel
theorem dX4_idle_9 : decode cX4_idle 9 = .ok (.invokestatic 49, 3) := by decide +kernel
theorem dX4_idle_12 : decode cX4_idle 12 = .ok (.isub, 1) := by decide +kernel
theorem dX4_idle_13 : decode cX4_idle 13 = .ok (.aload_n 0, 1) := by decide +kernel
theorem dX4_idle_14 : decode cX4_idle 14 = .ok (.iload_n 1, 1) := by decide +kernel
theorem dX4_idle_15 : decode cX4_idle 15 = .ok (.invokestatic 60, 3) := by decide +kernel
theorem dX4_idle_18 : decode cX4_idle 18 = .ok (.isub, 1) := by decide +kernel
theorem dX4_idle_19 : decode cX4_idle 19 = .ok (.ireturn, 1) := by decide +kernel
theorem dX4_free_0 : decode cX4_free 0 = .ok (.bipush 60, 2) := by decide +kernel
theorem dX4_free_2 : decode cX4_free 2 = .ok (.aload_n 0, 1) := by decide +kernel
theorem dX4_free_3 : decode cX4_free 3 = .ok (.iconst 0, 1) := by decide +kernel
theorem dX4_free_4 : decode cX4_free 4 = .ok (.invokestatic 53, 3) := by decide +kernel
theorem dX4_free_7 : decode cX4_free 7 = .ok (.isub, 1) := by decide +kernel
theorem dX4_free_8 : decode cX4_free 8 = .ok (.aload_n 0, 1) := by decide +kernel
theorem dX4_free_9 : decode cX4_free 9 = .ok (.iconst 3, 1) := by decide +kernel
theorem dX4_free_10 : decode cX4_free 10 = .ok (.invokestatic 53, 3) := by decide +kernel
theorem dX4_free_13 : decode cX4_free 13 = .ok (.isub, 1) := by decide +kernel
theorem dX4_free_14 : decode cX4_free 14 = .ok (.ireturn, 1) := by decide +kernel
theorem dX4_lender_0 : decode cX4_lender 0 = .ok (.iconst (-1), 1) := by decide +kernel
theorem dX4_lender_1 : decode cX4_lender 1 = .ok (.istore_n 3, 1) := by decide +kernel
theorem dX4_lender_2 : decode cX4_lender 2 = .ok (.iconst 0, 1) := by decide +kernel
theorem dX4_lender_3 : decode cX4_lender 3 = .ok (.istore 4, 2) := by decide +kernel
theorem dX4_lender_5 : decode cX4_lender 5 = .ok (.iload 4, 2) := by decide +kernel
theorem dX4_lender_7 : decode cX4_lender 7 = .ok (.aload_n 0, 1) := by decide +kernel
theorem dX4_lender_8 : decode cX4_lender 8 = .ok (.iconst 0, 1) := by decide +kernel
theorem dX4_lender_9 : decode cX4_lender 9 = .ok (.iaload, 1) := by decide +kernel
theorem dX4_lender_10 : decode cX4_lender 10 = .ok (.if_icmp .ge 68, 3) := by decide +kernel
theorem dX4_lender_13 : decode cX4_lender 13 = .ok (.iload 4, 2) := by decide +kernel
theorem dX4_lender_15 : decode cX4_lender 15 = .ok (.iload_n 1, 1) := by decide +kernel
theorem dX4_lender_16 : decode cX4_lender 16 = .ok (.if_icmp .eq 22, 3) := by decide +kernel
theorem dX4_lender_19 : decode cX4_lender 19 = .ok (.iload 4, 2) := by decide +kernel
theorem dX4_lender_21 : decode cX4_lender 21 = .ok (.iload_n 2, 1) := by decide +kernel
theorem dX4_lender_22 : decode cX4_lender 22 = .ok (.if_icmp .eq 16, 3) := by decide +kernel
theorem dX4_lender_25 : decode cX4_lender 25 = .ok (.aload_n 0, 1) := by decide +kernel
theorem dX4_lender_26 : decode cX4_lender 26 = .ok (.iload 4, 2) := by decide +kernel
theorem dX4_lender_28 : decode cX4_lender 28 = .ok (.invokestatic 63, 3) := by decide +kernel
theorem dX4_lender_31 : decode cX4_lender 31 = .ok (.ifCond .le 7, 3) := by decide +kernel
theorem dX4_lender_34 : decode cX4_lender 34 = .ok (.iconst 1, 1) := by decide +kernel
theorem dX4_lender_35 : decode cX4_lender 35 = .ok (.goto 4, 3) := by decide +kernel
theorem dX4_lender_38 : decode cX4_lender 38 = .ok (.iconst 0, 1) := by decide +kernel
theorem dX4_lender_39 : decode cX4_lender 39 = .ok (.istore 5, 2) := by decide +kernel
theorem dX4_lender_41 : decode cX4_lender 41 = .ok (.iload 5, 2) := by decide +kernel
theorem dX4_lender_43 : decode cX4_lender 43 = .ok (.ifCond .eq 27, 3) := by decide +kernel
theorem dX4_lender_46 : decode cX4_lender 46 = .ok (.iload_n 3, 1) := by decide +kernel
theorem dX4_lender_47 : decode cX4_lender 47 = .ok (.iconst (-1), 1) := by decide +kernel
theorem dX4_lender_48 : decode cX4_lender 48 = .ok (.if_icmp .eq 17, 3) := by decide +kernel
theorem dX4_lender_51 : decode cX4_lender 51 = .ok (.aload_n 0, 1) := by decide +kernel
theorem dX4_lender_52 : decode cX4_lender 52 = .ok (.iload 4, 2) := by decide +kernel
theorem dX4_lender_54 : decode cX4_lender 54 = .ok (.invokestatic 63, 3) := by decide +kernel
theorem dX4_lender_57 : decode cX4_lender 57 = .ok (.aload_n 0, 1) := by decide +kernel
theorem dX4_lender_58 : decode cX4_lender 58 = .ok (.iload_n 3, 1) := by decide +kernel
theorem dX4_lender_59 : decode cX4_lender 59 = .ok (.invokestatic 63, 3) := by decide +kernel
theorem dX4_lender_62 : decode cX4_lender 62 = .ok (.if_icmp .le 8, 3) := by decide +kernel
theorem dX4_lender_65 : decode cX4_lender 65 = .ok (.iload 4, 2) := by decide +kernel
theorem dX4_lender_67 : decode cX4_lender 67 = .ok (.goto 4, 3) := by decide +kernel
theorem dX4_lender_70 : decode cX4_lender 70 = .ok (.iload_n 3, 1) := by decide +kernel
theorem dX4_lender_71 : decode cX4_lender 71 = .ok (.istore_n 3, 1) := by decide +kernel
theorem dX4_lender_72 : decode cX4_lender 72 = .ok (.iinc 4 1, 3) := by decide +kernel
theorem dX4_lender_75 : decode cX4_lender 75 = .ok (.goto (-70), 3) := by decide +kernel
theorem dX4_lender_78 : decode cX4_lender 78 = .ok (.iload_n 3, 1) := by decide +kernel
theorem dX4_lender_79 : decode cX4_lender 79 = .ok (.ireturn, 1) := by decide +kernel
theorem dX4_mostFrom_0 : decode cX4_mostFrom 0 = .ok (.iconst 0, 1) := by decide +kernel
theorem dX4_mostFrom_1 : decode cX4_mostFrom 1 = .ok (.istore_n 2, 1) := by decide +kernel
theorem dX4_mostFrom_2 : decode cX4_mostFrom 2 = .ok (.iconst 1, 1) := by decide +kernel
theorem dX4_mostFrom_3 : decode cX4_mostFrom 3 = .ok (.istore_n 3, 1) := by decide +kernel
theorem dX4_mostFrom_4 : decode cX4_mostFrom 4 = .ok (.iload_n 3, 1) := by decide +kernel
theorem dX4_mostFrom_5 : decode cX4_mostFrom 5 = .ok (.iconst 5, 1) := by decide +kernel
theorem dX4_mostFrom_6 : decode cX4_mostFrom 6 = .ok (.if_icmp .ge 36, 3) := by decide +kernel
theorem dX4_mostFrom_9 : decode cX4_mostFrom 9 = .ok (.aload_n 0, 1) := by decide +kernel
theorem dX4_mostFrom_10 : decode cX4_mostFrom 10 = .ok (.iload_n 1, 1) := by decide +kernel
theorem dX4_mostFrom_11 : decode cX4_mostFrom 11 = .ok (.bipush 7, 2) := by decide +kernel
theorem dX4_mostFrom_13 : decode cX4_mostFrom 13 = .ok (.iload_n 3, 1) := by decide +kernel
theorem dX4_mostFrom_14 : decode cX4_mostFrom 14 = .ok (.iadd, 1) := by decide +kernel
theorem dX4_mostFrom_15 : decode cX4_mostFrom 15 = .ok (.invokestatic 49, 3) := by decide +kernel
theorem dX4_mostFrom_18 : decode cX4_mostFrom 18 = .ok (.aload_n 0, 1) := by decide +kernel
theorem dX4_mostFrom_19 : decode cX4_mostFrom 19 = .ok (.iload_n 1, 1) := by decide +kernel
theorem dX4_mostFrom_20 : decode cX4_mostFrom 20 = .ok (.bipush 7, 2) := by decide +kernel
theorem dX4_mostFrom_22 : decode cX4_mostFrom 22 = .ok (.iload_n 2, 1) := by decide +kernel
theorem dX4_mostFrom_23 : decode cX4_mostFrom 23 = .ok (.iadd, 1) := by decide +kernel
theorem dX4_mostFrom_24 : decode cX4_mostFrom 24 = .ok (.invokestatic 49, 3) := by decide +kernel
theorem dX4_mostFrom_27 : decode cX4_mostFrom 27 = .ok (.if_icmp .le 7, 3) := by decide +kernel
theorem dX4_mostFrom_30 : decode cX4_mostFrom 30 = .ok (.iload_n 3, 1) := by decide +kernel
theorem dX4_mostFrom_31 : decode cX4_mostFrom 31 = .ok (.goto 4, 3) := by decide +kernel
theorem dX4_mostFrom_34 : decode cX4_mostFrom 34 = .ok (.iload_n 2, 1) := by decide +kernel
theorem dX4_mostFrom_35 : decode cX4_mostFrom 35 = .ok (.istore_n 2, 1) := by decide +kernel
theorem dX4_mostFrom_36 : decode cX4_mostFrom 36 = .ok (.iinc 3 1, 3) := by decide +kernel
theorem dX4_mostFrom_39 : decode cX4_mostFrom 39 = .ok (.goto (-35), 3) := by decide +kernel
theorem dX4_mostFrom_42 : decode cX4_mostFrom 42 = .ok (.iload_n 2, 1) := by decide +kernel
theorem dX4_mostFrom_43 : decode cX4_mostFrom 43 = .ok (.ireturn, 1) := by decide +kernel
theorem dX4_mostOf_0 : decode cX4_mostOf 0 = .ok (.iconst 0, 1) := by decide +kernel
theorem dX4_mostOf_1 : decode cX4_mostOf 1 = .ok (.istore_n 2, 1) := by decide +kernel
theorem dX4_mostOf_2 : decode cX4_mostOf 2 = .ok (.iconst 1, 1) := by decide +kernel
theorem dX4_mostOf_3 : decode cX4_mostOf 3 = .ok (.istore_n 3, 1) := by decide +kernel
theorem dX4_mostOf_4 : decode cX4_mostOf 4 = .ok (.iload_n 3, 1) := by decide +kernel
theorem dX4_mostOf_5 : decode cX4_mostOf 5 = .ok (.aload_n 0, 1) := by decide +kernel
theorem dX4_mostOf_6 : decode cX4_mostOf 6 = .ok (.iconst 0, 1) := by decide +kernel
theorem dX4_mostOf_7 : decode cX4_mostOf 7 = .ok (.iaload, 1) := by decide +kernel
theorem dX4_mostOf_8 : decode cX4_mostOf 8 = .ok (.if_icmp .ge 36, 3) := by decide +kernel
theorem dX4_mostOf_11 : decode cX4_mostOf 11 = .ok (.aload_n 0, 1) := by decide +kernel
theorem dX4_mostOf_12 : decode cX4_mostOf 12 = .ok (.iload_n 3, 1) := by decide +kernel
theorem dX4_mostOf_13 : decode cX4_mostOf 13 = .ok (.bipush 7, 2) := by decide +kernel
theorem dX4_mostOf_15 : decode cX4_mostOf 15 = .ok (.iload_n 1, 1) := by decide +kernel
theorem dX4_mostOf_16 : decode cX4_mostOf 16 = .ok (.iadd, 1) := by decide +kernel
theorem dX4_mostOf_17 : decode cX4_mostOf 17 = .ok (.invokestatic 49, 3) := by decide +kernel
theorem dX4_mostOf_20 : decode cX4_mostOf 20 = .ok (.aload_n 0, 1) := by decide +kernel
theorem dX4_mostOf_21 : decode cX4_mostOf 21 = .ok (.iload_n 2, 1) := by decide +kernel
theorem dX4_mostOf_22 : decode cX4_mostOf 22 = .ok (.bipush 7, 2) := by decide +kernel
theorem dX4_mostOf_24 : decode cX4_mostOf 24 = .ok (.iload_n 1, 1) := by decide +kernel
theorem dX4_mostOf_25 : decode cX4_mostOf 25 = .ok (.iadd, 1) := by decide +kernel
theorem dX4_mostOf_26 : decode cX4_mostOf 26 = .ok (.invokestatic 49, 3) := by decide +kernel
theorem dX4_mostOf_29 : decode cX4_mostOf 29 = .ok (.if_icmp .le 7, 3) := by decide +kernel
theorem dX4_mostOf_32 : decode cX4_mostOf 32 = .ok (.iload_n 3, 1) := by decide +kernel
theorem dX4_mostOf_33 : decode cX4_mostOf 33 = .ok (.goto 4, 3) := by decide +kernel
theorem dX4_mostOf_36 : decode cX4_mostOf 36 = .ok (.iload_n 2, 1) := by decide +kernel
theorem dX4_mostOf_37 : decode cX4_mostOf 37 = .ok (.istore_n 2, 1) := by decide +kernel
theorem dX4_mostOf_38 : decode cX4_mostOf 38 = .ok (.iinc 3 1, 3) := by decide +kernel
theorem dX4_mostOf_41 : decode cX4_mostOf 41 = .ok (.goto (-37), 3) := by decide +kernel
theorem dX4_mostOf_44 : decode cX4_mostOf 44 = .ok (.iload_n 2, 1) := by decide +kernel
theorem dX4_mostOf_45 : decode cX4_mostOf 45 = .ok (.ireturn, 1) := by decide +kernel
theorem dX4_leastPage_0 : decode cX4_leastPage 0 = .ok (.iconst (-1), 1) := by decide +kernel
theorem dX4_leastPage_1 : decode cX4_leastPage 1 = .ok (.istore_n 2, 1) := by decide +kernel
theorem dX4_leastPage_2 : decode cX4_leastPage 2 = .ok (.iconst 0, 1) := by decide +kernel
theorem dX4_leastPage_3 : decode cX4_leastPage 3 = .ok (.istore_n 3, 1) := by decide +kernel
theorem dX4_leastPage_4 : decode cX4_leastPage 4 = .ok (.iload_n 3, 1) := by decide +kernel
theorem dX4_leastPage_5 : decode cX4_leastPage 5 = .ok (.bipush 40, 2) := by decide +kernel
theorem dX4_leastPage_7 : decode cX4_leastPage 7 = .ok (.if_icmp .ge 50, 3) := by decide +kernel
theorem dX4_leastPage_10 : decode cX4_leastPage 10 = .ok (.aload_n 0, 1) := by decide +kernel
theorem dX4_leastPage_11 : decode cX4_leastPage 11 = .ok (.iload_n 1, 1) := by decide +kernel
theorem dX4_leastPage_12 : decode cX4_leastPage 12 = .ok (.bipush 12, 2) := by decide +kernel
theorem dX4_leastPage_14 : decode cX4_leastPage 14 = .ok (.iload_n 3, 1) := by decide +kernel
theorem dX4_leastPage_15 : decode cX4_leastPage 15 = .ok (.iadd, 1) := by decide +kernel
theorem dX4_leastPage_16 : decode cX4_leastPage 16 = .ok (.invokestatic 49, 3) := by decide +kernel
theorem dX4_leastPage_19 : decode cX4_leastPage 19 = .ok (.istore 4, 2) := by decide +kernel
theorem dX4_leastPage_21 : decode cX4_leastPage 21 = .ok (.iload 4, 2) := by decide +kernel
theorem dX4_leastPage_23 : decode cX4_leastPage 23 = .ok (.ifCond .le 26, 3) := by decide +kernel
theorem dX4_leastPage_26 : decode cX4_leastPage 26 = .ok (.iload_n 2, 1) := by decide +kernel
theorem dX4_leastPage_27 : decode cX4_leastPage 27 = .ok (.iconst (-1), 1) := by decide +kernel
theorem dX4_leastPage_28 : decode cX4_leastPage 28 = .ok (.if_icmp .eq 17, 3) := by decide +kernel
theorem dX4_leastPage_31 : decode cX4_leastPage 31 = .ok (.iload 4, 2) := by decide +kernel
theorem dX4_leastPage_33 : decode cX4_leastPage 33 = .ok (.aload_n 0, 1) := by decide +kernel
theorem dX4_leastPage_34 : decode cX4_leastPage 34 = .ok (.iload_n 1, 1) := by decide +kernel
theorem dX4_leastPage_35 : decode cX4_leastPage 35 = .ok (.bipush 12, 2) := by decide +kernel
theorem dX4_leastPage_37 : decode cX4_leastPage 37 = .ok (.iload_n 2, 1) := by decide +kernel
theorem dX4_leastPage_38 : decode cX4_leastPage 38 = .ok (.iadd, 1) := by decide +kernel
theorem dX4_leastPage_39 : decode cX4_leastPage 39 = .ok (.invokestatic 49, 3) := by decide +kernel
theorem dX4_leastPage_42 : decode cX4_leastPage 42 = .ok (.if_icmp .ge 7, 3) := by decide +kernel
theorem dX4_leastPage_45 : decode cX4_leastPage 45 = .ok (.iload_n 3, 1) := by decide +kernel
theorem dX4_leastPage_46 : decode cX4_leastPage 46 = .ok (.goto 4, 3) := by decide +kernel
theorem dX4_leastPage_49 : decode cX4_leastPage 49 = .ok (.iload_n 2, 1) := by decide +kernel
theorem dX4_leastPage_50 : decode cX4_leastPage 50 = .ok (.istore_n 2, 1) := by decide +kernel
theorem dX4_leastPage_51 : decode cX4_leastPage 51 = .ok (.iinc 3 1, 3) := by decide +kernel
theorem dX4_leastPage_54 : decode cX4_leastPage 54 = .ok (.goto (-50), 3) := by decide +kernel
theorem dX4_leastPage_57 : decode cX4_leastPage 57 = .ok (.iload_n 2, 1) := by decide +kernel
theorem dX4_leastPage_58 : decode cX4_leastPage 58 = .ok (.ireturn, 1) := by decide +kernel
theorem dX4_recall_0 : decode cX4_recall 0 = .ok (.aload_n 1, 1) := by decide +kernel
theorem dX4_recall_1 : decode cX4_recall 1 = .ok (.iload_n 2, 1) := by decide +kernel
theorem dX4_recall_2 : decode cX4_recall 2 = .ok (.invokestatic 66, 3) := by decide +kernel
theorem dX4_recall_5 : decode cX4_recall 5 = .ok (.istore_n 3, 1) := by decide +kernel
theorem dX4_recall_6 : decode cX4_recall 6 = .ok (.iload_n 3, 1) := by decide +kernel
theorem dX4_recall_7 : decode cX4_recall 7 = .ok (.invokestatic 45, 3) := by decide +kernel
theorem dX4_recall_10 : decode cX4_recall 10 = .ok (.istore 4, 2) := by decide +kernel
theorem dX4_recall_12 : decode cX4_recall 12 = .ok (.aload_n 1, 1) := by decide +kernel
theorem dX4_recall_13 : decode cX4_recall 13 = .ok (.iload 4, 2) := by decide +kernel
theorem dX4_recall_15 : decode cX4_recall 15 = .ok (.bipush 7, 2) := by decide +kernel
theorem dX4_recall_17 : decode cX4_recall 17 = .ok (.iadd, 1) := by decide +kernel
theorem dX4_recall_18 : decode cX4_recall 18 = .ok (.iload_n 2, 1) := by decide +kernel
theorem dX4_recall_19 : decode cX4_recall 19 = .ok (.iadd, 1) := by decide +kernel
theorem dX4_recall_20 : decode cX4_recall 20 = .ok (.dup2, 1) := by decide +kernel
theorem dX4_recall_21 : decode cX4_recall 21 = .ok (.iaload, 1) := by decide +kernel
theorem dX4_recall_22 : decode cX4_recall 22 = .ok (.iconst 1, 1) := by decide +kernel
theorem dX4_recall_23 : decode cX4_recall 23 = .ok (.isub, 1) := by decide +kernel
theorem dX4_recall_24 : decode cX4_recall 24 = .ok (.iastore, 1) := by decide +kernel
theorem dX4_recall_25 : decode cX4_recall 25 = .ok (.aload_n 1, 1) := by decide +kernel
theorem dX4_recall_26 : decode cX4_recall 26 = .ok (.iload_n 2, 1) := by decide +kernel
theorem dX4_recall_27 : decode cX4_recall 27 = .ok (.invokestatic 45, 3) := by decide +kernel
theorem dX4_recall_30 : decode cX4_recall 30 = .ok (.iconst 4, 1) := by decide +kernel
theorem dX4_recall_31 : decode cX4_recall 31 = .ok (.iadd, 1) := by decide +kernel
theorem dX4_recall_32 : decode cX4_recall 32 = .ok (.dup2, 1) := by decide +kernel
theorem dX4_recall_33 : decode cX4_recall 33 = .ok (.iaload, 1) := by decide +kernel
theorem dX4_recall_34 : decode cX4_recall 34 = .ok (.iconst 1, 1) := by decide +kernel
theorem dX4_recall_35 : decode cX4_recall 35 = .ok (.iadd, 1) := by decide +kernel
theorem dX4_recall_36 : decode cX4_recall 36 = .ok (.iastore, 1) := by decide +kernel
theorem dX4_recall_37 : decode cX4_recall 37 = .ok (.aload_n 1, 1) := by decide +kernel
theorem dX4_recall_38 : decode cX4_recall 38 = .ok (.iload_n 3, 1) := by decide +kernel
theorem dX4_recall_39 : decode cX4_recall 39 = .ok (.iload_n 2, 1) := by decide +kernel
theorem dX4_recall_40 : decode cX4_recall 40 = .ok (.invokestatic 69, 3) := by decide +kernel
theorem dX4_recall_43 : decode cX4_recall 43 = .ok (.istore 5, 2) := by decide +kernel
theorem dX4_recall_45 : decode cX4_recall 45 = .ok (.aload_n 1, 1) := by decide +kernel
theorem dX4_recall_46 : decode cX4_recall 46 = .ok (.iload_n 3, 1) := by decide +kernel
theorem dX4_recall_47 : decode cX4_recall 47 = .ok (.invokestatic 63, 3) := by decide +kernel
theorem dX4_recall_50 : decode cX4_recall 50 = .ok (.ifCond .le 16, 3) := by decide +kernel
theorem dX4_recall_53 : decode cX4_recall 53 = .ok (.aload_n 1, 1) := by decide +kernel
theorem dX4_recall_54 : decode cX4_recall 54 = .ok (.iload 4, 2) := by decide +kernel
theorem dX4_recall_56 : decode cX4_recall 56 = .ok (.iconst 2, 1) := by decide +kernel
theorem dX4_recall_57 : decode cX4_recall 57 = .ok (.iadd, 1) := by decide +kernel
theorem dX4_recall_58 : decode cX4_recall 58 = .ok (.dup2, 1) := by decide +kernel
theorem dX4_recall_59 : decode cX4_recall 59 = .ok (.iaload, 1) := by decide +kernel
theorem dX4_recall_60 : decode cX4_recall 60 = .ok (.iconst 1, 1) := by decide +kernel
theorem dX4_recall_61 : decode cX4_recall 61 = .ok (.iadd, 1) := by decide +kernel
theorem dX4_recall_62 : decode cX4_recall 62 = .ok (.iastore, 1) := by decide +kernel
theorem dX4_recall_63 : decode cX4_recall 63 = .ok (.goto 100, 3) := by decide +kernel
theorem dX4_recall_66 : decode cX4_recall 66 = .ok (.aload_n 1, 1) := by decide +kernel
theorem dX4_recall_67 : decode cX4_recall 67 = .ok (.invokestatic 72, 3) := by decide +kernel
theorem dX4_recall_70 : decode cX4_recall 70 = .ok (.ifCond .le 16, 3) := by decide +kernel
theorem dX4_recall_73 : decode cX4_recall 73 = .ok (.aload_n 1, 1) := by decide +kernel
theorem dX4_recall_74 : decode cX4_recall 74 = .ok (.iload 4, 2) := by decide +kernel
theorem dX4_recall_76 : decode cX4_recall 76 = .ok (.iconst 3, 1) := by decide +kernel
theorem dX4_recall_77 : decode cX4_recall 77 = .ok (.iadd, 1) := by decide +kernel
theorem dX4_recall_78 : decode cX4_recall 78 = .ok (.dup2, 1) := by decide +kernel
theorem dX4_recall_79 : decode cX4_recall 79 = .ok (.iaload, 1) := by decide +kernel
theorem dX4_recall_80 : decode cX4_recall 80 = .ok (.iconst 1, 1) := by decide +kernel
theorem dX4_recall_81 : decode cX4_recall 81 = .ok (.iadd, 1) := by decide +kernel
theorem dX4_recall_82 : decode cX4_recall 82 = .ok (.iastore, 1) := by decide +kernel
theorem dX4_recall_83 : decode cX4_recall 83 = .ok (.goto 80, 3) := by decide +kernel
theorem dX4_recall_86 : decode cX4_recall 86 = .ok (.iload 5, 2) := by decide +kernel
theorem dX4_recall_88 : decode cX4_recall 88 = .ok (.iconst (-1), 1) := by decide +kernel
theorem dX4_recall_89 : decode cX4_recall 89 = .ok (.if_icmp .eq 20, 3) := by decide +kernel
theorem dX4_recall_92 : decode cX4_recall 92 = .ok (.aload_n 1, 1) := by decide +kernel
theorem dX4_recall_93 : decode cX4_recall 93 = .ok (.iload 4, 2) := by decide +kernel
theorem dX4_recall_95 : decode cX4_recall 95 = .ok (.bipush 7, 2) := by decide +kernel
theorem dX4_recall_97 : decode cX4_recall 97 = .ok (.iadd, 1) := by decide +kernel
theorem dX4_recall_98 : decode cX4_recall 98 = .ok (.iload 5, 2) := by decide +kernel
theorem dX4_recall_100 : decode cX4_recall 100 = .ok (.iadd, 1) := by decide +kernel
theorem dX4_recall_101 : decode cX4_recall 101 = .ok (.dup2, 1) := by decide +kernel
theorem dX4_recall_102 : decode cX4_recall 102 = .ok (.iaload, 1) := by decide +kernel
theorem dX4_recall_103 : decode cX4_recall 103 = .ok (.iconst 1, 1) := by decide +kernel
theorem dX4_recall_104 : decode cX4_recall 104 = .ok (.iadd, 1) := by decide +kernel
theorem dX4_recall_105 : decode cX4_recall 105 = .ok (.iastore, 1) := by decide +kernel
theorem dX4_recall_106 : decode cX4_recall 106 = .ok (.goto 57, 3) := by decide +kernel
theorem dX4_recall_109 : decode cX4_recall 109 = .ok (.aload_n 1, 1) := by decide +kernel
theorem dX4_recall_110 : decode cX4_recall 110 = .ok (.iload_n 3, 1) := by decide +kernel
theorem dX4_recall_111 : decode cX4_recall 111 = .ok (.invokestatic 76, 3) := by decide +kernel
theorem dX4_recall_114 : decode cX4_recall 114 = .ok (.istore 6, 2) := by decide +kernel
theorem dX4_recall_116 : decode cX4_recall 116 = .ok (.iload 6, 2) := by decide +kernel
theorem dX4_recall_118 : decode cX4_recall 118 = .ok (.iconst (-1), 1) := by decide +kernel
theorem dX4_recall_119 : decode cX4_recall 119 = .ok (.if_icmp .eq 14, 3) := by decide +kernel
theorem dX4_recall_122 : decode cX4_recall 122 = .ok (.aload_n 1, 1) := by decide +kernel
theorem dX4_recall_123 : decode cX4_recall 123 = .ok (.iload 4, 2) := by decide +kernel
theorem dX4_recall_125 : decode cX4_recall 125 = .ok (.bipush 12, 2) := by decide +kernel
theorem dX4_recall_127 : decode cX4_recall 127 = .ok (.iadd, 1) := by decide +kernel
theorem dX4_recall_128 : decode cX4_recall 128 = .ok (.iload 6, 2) := by decide +kernel
theorem dX4_recall_130 : decode cX4_recall 130 = .ok (.iadd, 1) := by decide +kernel
theorem dX4_recall_131 : decode cX4_recall 131 = .ok (.iconst 0, 1) := by decide +kernel
theorem dX4_recall_132 : decode cX4_recall 132 = .ok (.iastore, 1) := by decide +kernel
theorem dX4_recall_133 : decode cX4_recall 133 = .ok (.aload_n 1, 1) := by decide +kernel
theorem dX4_recall_134 : decode cX4_recall 134 = .ok (.iload 4, 2) := by decide +kernel
theorem dX4_recall_136 : decode cX4_recall 136 = .ok (.iconst 5, 1) := by decide +kernel
theorem dX4_recall_137 : decode cX4_recall 137 = .ok (.iadd, 1) := by decide +kernel
theorem dX4_recall_138 : decode cX4_recall 138 = .ok (.dup2, 1) := by decide +kernel
theorem dX4_recall_139 : decode cX4_recall 139 = .ok (.iaload, 1) := by decide +kernel
theorem dX4_recall_140 : decode cX4_recall 140 = .ok (.iconst 1, 1) := by decide +kernel
theorem dX4_recall_141 : decode cX4_recall 141 = .ok (.iadd, 1) := by decide +kernel
theorem dX4_recall_142 : decode cX4_recall 142 = .ok (.iastore, 1) := by decide +kernel
theorem dX4_recall_143 : decode cX4_recall 143 = .ok (.aload_n 0, 1) := by decide +kernel
theorem dX4_recall_144 : decode cX4_recall 144 = .ok (.aload_n 0, 1) := by decide +kernel
theorem dX4_recall_145 : decode cX4_recall 145 = .ok (.getfield 29, 3) := by decide +kernel
theorem dX4_recall_148 : decode cX4_recall 148 = .ok (.iconst (-1), 1) := by decide +kernel
theorem dX4_recall_149 : decode cX4_recall 149 = .ok (.if_icmp .ne 7, 3) := by decide +kernel
theorem dX4_recall_152 : decode cX4_recall 152 = .ok (.iload_n 3, 1) := by decide +kernel
theorem dX4_recall_153 : decode cX4_recall 153 = .ok (.goto 7, 3) := by decide +kernel
theorem dX4_recall_156 : decode cX4_recall 156 = .ok (.aload_n 0, 1) := by decide +kernel
theorem dX4_recall_157 : decode cX4_recall 157 = .ok (.getfield 29, 3) := by decide +kernel
theorem dX4_recall_160 : decode cX4_recall 160 = .ok (.putfield 29, 3) := by decide +kernel
theorem dX4_recall_163 : decode cX4_recall 163 = .ok (.return_, 1) := by decide +kernel
theorem dX4_need_0 : decode cX4_need 0 = .ok (.aload_n 1, 1) := by decide +kernel
theorem dX4_need_1 : decode cX4_need 1 = .ok (.iload_n 2, 1) := by decide +kernel
theorem dX4_need_2 : decode cX4_need 2 = .ok (.invokestatic 79, 3) := by decide +kernel
theorem dX4_need_5 : decode cX4_need 5 = .ok (.aload_n 1, 1) := by decide +kernel
theorem dX4_need_6 : decode cX4_need 6 = .ok (.iload_n 2, 1) := by decide +kernel
theorem dX4_need_7 : decode cX4_need 7 = .ok (.iconst 1, 1) := by decide +kernel
theorem dX4_need_8 : decode cX4_need 8 = .ok (.invokestatic 49, 3) := by decide +kernel
theorem dX4_need_11 : decode cX4_need 11 = .ok (.if_icmp .lt 5, 3) := by decide +kernel
theorem dX4_need_14 : decode cX4_need 14 = .ok (.iconst 5, 1) := by decide +kernel
theorem dX4_need_15 : decode cX4_need 15 = .ok (.ireturn, 1) := by decide +kernel
theorem dX4_need_16 : decode cX4_need 16 = .ok (.iload_n 2, 1) := by decide +kernel
theorem dX4_need_17 : decode cX4_need 17 = .ok (.invokestatic 45, 3) := by decide +kernel
theorem dX4_need_20 : decode cX4_need 20 = .ok (.istore_n 3, 1) := by decide +kernel
theorem dX4_need_21 : decode cX4_need 21 = .ok (.aload_n 1, 1) := by decide +kernel
theorem dX4_need_22 : decode cX4_need 22 = .ok (.iload_n 2, 1) := by decide +kernel
theorem dX4_need_23 : decode cX4_need 23 = .ok (.iconst 2, 1) := by decide +kernel
theorem dX4_need_24 : decode cX4_need 24 = .ok (.invokestatic 49, 3) := by decide +kernel
theorem dX4_need_27 : decode cX4_need 27 = .ok (.aload_n 1, 1) := by decide +kernel
theorem dX4_need_28 : decode cX4_need 28 = .ok (.iload_n 2, 1) := by decide +kernel
theorem dX4_need_29 : decode cX4_need 29 = .ok (.iconst 0, 1) := by decide +kernel
theorem dX4_need_30 : decode cX4_need 30 = .ok (.invokestatic 49, 3) := by decide +kernel
theorem dX4_need_33 : decode cX4_need 33 = .ok (.if_icmp .ge 49, 3) := by decide +kernel
theorem dX4_need_36 : decode cX4_need 36 = .ok (.aload_n 1, 1) := by decide +kernel
theorem dX4_need_37 : decode cX4_need 37 = .ok (.iload_n 2, 1) := by decide +kernel
theorem dX4_need_38 : decode cX4_need 38 = .ok (.invokestatic 63, 3) := by decide +kernel
theorem dX4_need_41 : decode cX4_need 41 = .ok (.ifCond .le 7, 3) := by decide +kernel
theorem dX4_need_44 : decode cX4_need 44 = .ok (.iconst 1, 1) := by decide +kernel
theorem dX4_need_45 : decode cX4_need 45 = .ok (.goto 4, 3) := by decide +kernel
theorem dX4_need_48 : decode cX4_need 48 = .ok (.iconst 0, 1) := by decide +kernel
theorem dX4_need_49 : decode cX4_need 49 = .ok (.istore 4, 2) := by decide +kernel
theorem dX4_need_51 : decode cX4_need 51 = .ok (.iload 4, 2) := by decide +kernel
theorem dX4_need_53 : decode cX4_need 53 = .ok (.ifCond .ne 9, 3) := by decide +kernel
theorem dX4_need_56 : decode cX4_need 56 = .ok (.aload_n 0, 1) := by decide +kernel
theorem dX4_need_57 : decode cX4_need 57 = .ok (.aload_n 1, 1) := by decide +kernel
theorem dX4_need_58 : decode cX4_need 58 = .ok (.iload_n 2, 1) := by decide +kernel
theorem dX4_need_59 : decode cX4_need 59 = .ok (.invokevirtual 82, 3) := by decide +kernel
theorem dX4_need_62 : decode cX4_need 62 = .ok (.aload_n 1, 1) := by decide +kernel
theorem dX4_need_63 : decode cX4_need 63 = .ok (.iload_n 3, 1) := by decide +kernel
theorem dX4_need_64 : decode cX4_need 64 = .ok (.iconst 2, 1) := by decide +kernel
theorem dX4_need_65 : decode cX4_need 65 = .ok (.iadd, 1) := by decide +kernel
theorem dX4_need_66 : decode cX4_need 66 = .ok (.dup2, 1) := by decide +kernel
theorem dX4_need_67 : decode cX4_need 67 = .ok (.iaload, 1) := by decide +kernel
theorem dX4_need_68 : decode cX4_need 68 = .ok (.iconst 1, 1) := by decide +kernel
theorem dX4_need_69 : decode cX4_need 69 = .ok (.iadd, 1) := by decide +kernel
theorem dX4_need_70 : decode cX4_need 70 = .ok (.iastore, 1) := by decide +kernel
theorem dX4_need_71 : decode cX4_need 71 = .ok (.iload 4, 2) := by decide +kernel
theorem dX4_need_73 : decode cX4_need 73 = .ok (.ifCond .eq 7, 3) := by decide +kernel
theorem dX4_need_76 : decode cX4_need 76 = .ok (.iconst 1, 1) := by decide +kernel
theorem dX4_need_77 : decode cX4_need 77 = .ok (.goto 4, 3) := by decide +kernel
theorem dX4_need_80 : decode cX4_need 80 = .ok (.iconst 2, 1) := by decide +kernel
theorem dX4_need_81 : decode cX4_need 81 = .ok (.ireturn, 1) := by decide +kernel
theorem dX4_need_82 : decode cX4_need 82 = .ok (.aload_n 1, 1) := by decide +kernel
theorem dX4_need_83 : decode cX4_need 83 = .ok (.invokestatic 72, 3) := by decide +kernel
theorem dX4_need_86 : decode cX4_need 86 = .ok (.ifCond .le 14, 3) := by decide +kernel
theorem dX4_need_89 : decode cX4_need 89 = .ok (.aload_n 1, 1) := by decide +kernel
theorem dX4_need_90 : decode cX4_need 90 = .ok (.iload_n 3, 1) := by decide +kernel
theorem dX4_need_91 : decode cX4_need 91 = .ok (.iconst 3, 1) := by decide +kernel
theorem dX4_need_92 : decode cX4_need 92 = .ok (.iadd, 1) := by decide +kernel
theorem dX4_need_93 : decode cX4_need 93 = .ok (.dup2, 1) := by decide +kernel
theorem dX4_need_94 : decode cX4_need 94 = .ok (.iaload, 1) := by decide +kernel
theorem dX4_need_95 : decode cX4_need 95 = .ok (.iconst 1, 1) := by decide +kernel
theorem dX4_need_96 : decode cX4_need 96 = .ok (.iadd, 1) := by decide +kernel
theorem dX4_need_97 : decode cX4_need 97 = .ok (.iastore, 1) := by decide +kernel
theorem dX4_need_98 : decode cX4_need 98 = .ok (.iconst 3, 1) := by decide +kernel
theorem dX4_need_99 : decode cX4_need 99 = .ok (.ireturn, 1) := by decide +kernel
theorem dX4_need_100 : decode cX4_need 100 = .ok (.aload_n 1, 1) := by decide +kernel
theorem dX4_need_101 : decode cX4_need 101 = .ok (.iload_n 2, 1) := by decide +kernel
theorem dX4_need_102 : decode cX4_need 102 = .ok (.iload_n 2, 1) := by decide +kernel
theorem dX4_need_103 : decode cX4_need 103 = .ok (.invokestatic 69, 3) := by decide +kernel
theorem dX4_need_106 : decode cX4_need 106 = .ok (.istore 4, 2) := by decide +kernel
theorem dX4_need_108 : decode cX4_need 108 = .ok (.iload 4, 2) := by decide +kernel
theorem dX4_need_110 : decode cX4_need 110 = .ok (.iconst (-1), 1) := by decide +kernel
theorem dX4_need_111 : decode cX4_need 111 = .ok (.if_icmp .ne 5, 3) := by decide +kernel
theorem dX4_need_114 : decode cX4_need 114 = .ok (.iconst 5, 1) := by decide +kernel
theorem dX4_need_115 : decode cX4_need 115 = .ok (.ireturn, 1) := by decide +kernel
theorem dX4_need_116 : decode cX4_need 116 = .ok (.aload_n 1, 1) := by decide +kernel
theorem dX4_need_117 : decode cX4_need 117 = .ok (.iload_n 3, 1) := by decide +kernel
theorem dX4_need_118 : decode cX4_need 118 = .ok (.bipush 7, 2) := by decide +kernel
theorem dX4_need_120 : decode cX4_need 120 = .ok (.iadd, 1) := by decide +kernel
theorem dX4_need_121 : decode cX4_need 121 = .ok (.iload 4, 2) := by decide +kernel
theorem dX4_need_123 : decode cX4_need 123 = .ok (.iadd, 1) := by decide +kernel
theorem dX4_need_124 : decode cX4_need 124 = .ok (.dup2, 1) := by decide +kernel
theorem dX4_need_125 : decode cX4_need 125 = .ok (.iaload, 1) := by decide +kernel
theorem dX4_need_126 : decode cX4_need 126 = .ok (.iconst 1, 1) := by decide +kernel
theorem dX4_need_127 : decode cX4_need 127 = .ok (.iadd, 1) := by decide +kernel
theorem dX4_need_128 : decode cX4_need 128 = .ok (.iastore, 1) := by decide +kernel
theorem dX4_need_129 : decode cX4_need 129 = .ok (.iconst 4, 1) := by decide +kernel
theorem dX4_need_130 : decode cX4_need 130 = .ok (.ireturn, 1) := by decide +kernel
theorem dX4_writeOn_0 : decode cX4_writeOn 0 = .ok (.iload_n 2, 1) := by decide +kernel
theorem dX4_writeOn_1 : decode cX4_writeOn 1 = .ok (.invokestatic 45, 3) := by decide +kernel
theorem dX4_writeOn_4 : decode cX4_writeOn 4 = .ok (.bipush 12, 2) := by decide +kernel
theorem dX4_writeOn_6 : decode cX4_writeOn 6 = .ok (.iadd, 1) := by decide +kernel
theorem dX4_writeOn_7 : decode cX4_writeOn 7 = .ok (.iload_n 3, 1) := by decide +kernel
theorem dX4_writeOn_8 : decode cX4_writeOn 8 = .ok (.iadd, 1) := by decide +kernel
theorem dX4_writeOn_9 : decode cX4_writeOn 9 = .ok (.istore 4, 2) := by decide +kernel
theorem dX4_writeOn_11 : decode cX4_writeOn 11 = .ok (.aload_n 1, 1) := by decide +kernel
theorem dX4_writeOn_12 : decode cX4_writeOn 12 = .ok (.iload 4, 2) := by decide +kernel
theorem dX4_writeOn_14 : decode cX4_writeOn 14 = .ok (.iaload, 1) := by decide +kernel
theorem dX4_writeOn_15 : decode cX4_writeOn 15 = .ok (.ifCond .le 7, 3) := by decide +kernel
theorem dX4_writeOn_18 : decode cX4_writeOn 18 = .ok (.iconst 0, 1) := by decide +kernel
theorem dX4_writeOn_19 : decode cX4_writeOn 19 = .ok (.goto 9, 3) := by decide +kernel
theorem dX4_writeOn_22 : decode cX4_writeOn 22 = .ok (.aload_n 0, 1) := by decide +kernel
theorem dX4_writeOn_23 : decode cX4_writeOn 23 = .ok (.aload_n 1, 1) := by decide +kernel
theorem dX4_writeOn_24 : decode cX4_writeOn 24 = .ok (.iload_n 2, 1) := by decide +kernel
theorem dX4_writeOn_25 : decode cX4_writeOn 25 = .ok (.invokevirtual 86, 3) := by decide +kernel
theorem dX4_writeOn_28 : decode cX4_writeOn 28 = .ok (.istore 5, 2) := by decide +kernel
theorem dX4_writeOn_30 : decode cX4_writeOn 30 = .ok (.iload 5, 2) := by decide +kernel
theorem dX4_writeOn_32 : decode cX4_writeOn 32 = .ok (.iconst 5, 1) := by decide +kernel
theorem dX4_writeOn_33 : decode cX4_writeOn 33 = .ok (.if_icmp .ne 19, 3) := by decide +kernel
theorem dX4_writeOn_36 : decode cX4_writeOn 36 = .ok (.aload_n 1, 1) := by decide +kernel
theorem dX4_writeOn_37 : decode cX4_writeOn 37 = .ok (.iload_n 2, 1) := by decide +kernel
theorem dX4_writeOn_38 : decode cX4_writeOn 38 = .ok (.invokestatic 45, 3) := by decide +kernel
theorem dX4_writeOn_41 : decode cX4_writeOn 41 = .ok (.bipush 6, 2) := by decide +kernel
theorem dX4_writeOn_43 : decode cX4_writeOn 43 = .ok (.iadd, 1) := by decide +kernel
theorem dX4_writeOn_44 : decode cX4_writeOn 44 = .ok (.dup2, 1) := by decide +kernel
theorem dX4_writeOn_45 : decode cX4_writeOn 45 = .ok (.iaload, 1) := by decide +kernel
theorem dX4_writeOn_46 : decode cX4_writeOn 46 = .ok (.iconst 1, 1) := by decide +kernel
theorem dX4_writeOn_47 : decode cX4_writeOn 47 = .ok (.iadd, 1) := by decide +kernel
theorem dX4_writeOn_48 : decode cX4_writeOn 48 = .ok (.iastore, 1) := by decide +kernel
theorem dX4_writeOn_49 : decode cX4_writeOn 49 = .ok (.goto 17, 3) := by decide +kernel
theorem dX4_writeOn_52 : decode cX4_writeOn 52 = .ok (.aload_n 1, 1) := by decide +kernel
theorem dX4_writeOn_53 : decode cX4_writeOn 53 = .ok (.iconst 1, 1) := by decide +kernel
theorem dX4_writeOn_54 : decode cX4_writeOn 54 = .ok (.dup2, 1) := by decide +kernel
theorem dX4_writeOn_55 : decode cX4_writeOn 55 = .ok (.iaload, 1) := by decide +kernel
theorem dX4_writeOn_56 : decode cX4_writeOn 56 = .ok (.iconst 1, 1) := by decide +kernel
theorem dX4_writeOn_57 : decode cX4_writeOn 57 = .ok (.iadd, 1) := by decide +kernel
theorem dX4_writeOn_58 : decode cX4_writeOn 58 = .ok (.iastore, 1) := by decide +kernel
theorem dX4_writeOn_59 : decode cX4_writeOn 59 = .ok (.aload_n 1, 1) := by decide +kernel
theorem dX4_writeOn_60 : decode cX4_writeOn 60 = .ok (.iload 4, 2) := by decide +kernel
theorem dX4_writeOn_62 : decode cX4_writeOn 62 = .ok (.aload_n 1, 1) := by decide +kernel
theorem dX4_writeOn_63 : decode cX4_writeOn 63 = .ok (.iconst 1, 1) := by decide +kernel
theorem dX4_writeOn_64 : decode cX4_writeOn 64 = .ok (.iaload, 1) := by decide +kernel
theorem dX4_writeOn_65 : decode cX4_writeOn 65 = .ok (.iastore, 1) := by decide +kernel
theorem dX4_writeOn_66 : decode cX4_writeOn 66 = .ok (.iload 5, 2) := by decide +kernel
theorem dX4_writeOn_68 : decode cX4_writeOn 68 = .ok (.ireturn, 1) := by decide +kernel
theorem dX4_canTrim_0 : decode cX4_canTrim 0 = .ok (.aload_n 0, 1) := by decide +kernel
theorem dX4_canTrim_1 : decode cX4_canTrim 1 = .ok (.iload_n 1, 1) := by decide +kernel
theorem dX4_canTrim_2 : decode cX4_canTrim 2 = .ok (.bipush 12, 2) := by decide +kernel
theorem dX4_canTrim_4 : decode cX4_canTrim 4 = .ok (.iload_n 2, 1) := by decide +kernel
theorem dX4_canTrim_5 : decode cX4_canTrim 5 = .ok (.iadd, 1) := by decide +kernel
theorem dX4_canTrim_6 : decode cX4_canTrim 6 = .ok (.invokestatic 49, 3) := by decide +kernel
theorem dX4_canTrim_9 : decode cX4_canTrim 9 = .ok (.ifCond .le 7, 3) := by decide +kernel
theorem dX4_canTrim_12 : decode cX4_canTrim 12 = .ok (.iconst 1, 1) := by decide +kernel
theorem dX4_canTrim_13 : decode cX4_canTrim 13 = .ok (.goto 4, 3) := by decide +kernel
theorem dX4_canTrim_16 : decode cX4_canTrim 16 = .ok (.iconst 0, 1) := by decide +kernel
theorem dX4_canTrim_17 : decode cX4_canTrim 17 = .ok (.ireturn, 1) := by decide +kernel
theorem dX4_trimOn_0 : decode cX4_trimOn 0 = .ok (.iload_n 1, 1) := by decide +kernel
theorem dX4_trimOn_1 : decode cX4_trimOn 1 = .ok (.invokestatic 45, 3) := by decide +kernel
theorem dX4_trimOn_4 : decode cX4_trimOn 4 = .ok (.istore_n 3, 1) := by decide +kernel
theorem dX4_trimOn_5 : decode cX4_trimOn 5 = .ok (.aload_n 0, 1) := by decide +kernel
theorem dX4_trimOn_6 : decode cX4_trimOn 6 = .ok (.iload_n 3, 1) := by decide +kernel
theorem dX4_trimOn_7 : decode cX4_trimOn 7 = .ok (.bipush 12, 2) := by decide +kernel
theorem dX4_trimOn_9 : decode cX4_trimOn 9 = .ok (.iadd, 1) := by decide +kernel
theorem dX4_trimOn_10 : decode cX4_trimOn 10 = .ok (.iload_n 2, 1) := by decide +kernel
theorem dX4_trimOn_11 : decode cX4_trimOn 11 = .ok (.iadd, 1) := by decide +kernel
theorem dX4_trimOn_12 : decode cX4_trimOn 12 = .ok (.iconst 0, 1) := by decide +kernel
theorem dX4_trimOn_13 : decode cX4_trimOn 13 = .ok (.iastore, 1) := by decide +kernel
theorem dX4_trimOn_14 : decode cX4_trimOn 14 = .ok (.aload_n 0, 1) := by decide +kernel
theorem dX4_trimOn_15 : decode cX4_trimOn 15 = .ok (.iload_n 1, 1) := by decide +kernel
theorem dX4_trimOn_16 : decode cX4_trimOn 16 = .ok (.invokestatic 57, 3) := by decide +kernel
theorem dX4_trimOn_19 : decode cX4_trimOn 19 = .ok (.ifCond .le 22, 3) := by decide +kernel
theorem dX4_trimOn_22 : decode cX4_trimOn 22 = .ok (.aload_n 0, 1) := by decide +kernel
theorem dX4_trimOn_23 : decode cX4_trimOn 23 = .ok (.iload_n 3, 1) := by decide +kernel
theorem dX4_trimOn_24 : decode cX4_trimOn 24 = .ok (.bipush 7, 2) := by decide +kernel
theorem dX4_trimOn_26 : decode cX4_trimOn 26 = .ok (.iadd, 1) := by decide +kernel
theorem dX4_trimOn_27 : decode cX4_trimOn 27 = .ok (.aload_n 0, 1) := by decide +kernel
theorem dX4_trimOn_28 : decode cX4_trimOn 28 = .ok (.iload_n 1, 1) := by decide +kernel
theorem dX4_trimOn_29 : decode cX4_trimOn 29 = .ok (.invokestatic 89, 3) := by decide +kernel
theorem dX4_trimOn_32 : decode cX4_trimOn 32 = .ok (.iadd, 1) := by decide +kernel
theorem dX4_trimOn_33 : decode cX4_trimOn 33 = .ok (.dup2, 1) := by decide +kernel
theorem dX4_trimOn_34 : decode cX4_trimOn 34 = .ok (.iaload, 1) := by decide +kernel
theorem dX4_trimOn_35 : decode cX4_trimOn 35 = .ok (.iconst 1, 1) := by decide +kernel
theorem dX4_trimOn_36 : decode cX4_trimOn 36 = .ok (.isub, 1) := by decide +kernel
theorem dX4_trimOn_37 : decode cX4_trimOn 37 = .ok (.iastore, 1) := by decide +kernel
theorem dX4_trimOn_38 : decode cX4_trimOn 38 = .ok (.goto 32, 3) := by decide +kernel
theorem dX4_trimOn_41 : decode cX4_trimOn 41 = .ok (.aload_n 0, 1) := by decide +kernel
theorem dX4_trimOn_42 : decode cX4_trimOn 42 = .ok (.iload_n 3, 1) := by decide +kernel
theorem dX4_trimOn_43 : decode cX4_trimOn 43 = .ok (.iconst 3, 1) := by decide +kernel
theorem dX4_trimOn_44 : decode cX4_trimOn 44 = .ok (.iadd, 1) := by decide +kernel
theorem dX4_trimOn_45 : decode cX4_trimOn 45 = .ok (.iaload, 1) := by decide +kernel
theorem dX4_trimOn_46 : decode cX4_trimOn 46 = .ok (.ifCond .le 15, 3) := by decide +kernel
theorem dX4_trimOn_49 : decode cX4_trimOn 49 = .ok (.aload_n 0, 1) := by decide +kernel
theorem dX4_trimOn_50 : decode cX4_trimOn 50 = .ok (.iload_n 3, 1) := by decide +kernel
theorem dX4_trimOn_51 : decode cX4_trimOn 51 = .ok (.iconst 3, 1) := by decide +kernel
theorem dX4_trimOn_52 : decode cX4_trimOn 52 = .ok (.iadd, 1) := by decide +kernel
theorem dX4_trimOn_53 : decode cX4_trimOn 53 = .ok (.dup2, 1) := by decide +kernel
theorem dX4_trimOn_54 : decode cX4_trimOn 54 = .ok (.iaload, 1) := by decide +kernel
theorem dX4_trimOn_55 : decode cX4_trimOn 55 = .ok (.iconst 1, 1) := by decide +kernel
theorem dX4_trimOn_56 : decode cX4_trimOn 56 = .ok (.isub, 1) := by decide +kernel
theorem dX4_trimOn_57 : decode cX4_trimOn 57 = .ok (.iastore, 1) := by decide +kernel
theorem dX4_trimOn_58 : decode cX4_trimOn 58 = .ok (.goto 12, 3) := by decide +kernel
theorem dX4_trimOn_61 : decode cX4_trimOn 61 = .ok (.aload_n 0, 1) := by decide +kernel
theorem dX4_trimOn_62 : decode cX4_trimOn 62 = .ok (.iload_n 3, 1) := by decide +kernel
theorem dX4_trimOn_63 : decode cX4_trimOn 63 = .ok (.iconst 2, 1) := by decide +kernel
theorem dX4_trimOn_64 : decode cX4_trimOn 64 = .ok (.iadd, 1) := by decide +kernel
theorem dX4_trimOn_65 : decode cX4_trimOn 65 = .ok (.dup2, 1) := by decide +kernel
theorem dX4_trimOn_66 : decode cX4_trimOn 66 = .ok (.iaload, 1) := by decide +kernel
theorem dX4_trimOn_67 : decode cX4_trimOn 67 = .ok (.iconst 1, 1) := by decide +kernel
theorem dX4_trimOn_68 : decode cX4_trimOn 68 = .ok (.isub, 1) := by decide +kernel
theorem dX4_trimOn_69 : decode cX4_trimOn 69 = .ok (.iastore, 1) := by decide +kernel
theorem dX4_trimOn_70 : decode cX4_trimOn 70 = .ok (.aload_n 0, 1) := by decide +kernel
theorem dX4_trimOn_71 : decode cX4_trimOn 71 = .ok (.iload_n 1, 1) := by decide +kernel
theorem dX4_trimOn_72 : decode cX4_trimOn 72 = .ok (.invokestatic 79, 3) := by decide +kernel
theorem dX4_trimOn_75 : decode cX4_trimOn 75 = .ok (.ireturn, 1) := by decide +kernel
theorem dX4_whyNotMake_0 : decode cX4_whyNotMake 0 = .ok (.iload_n 1, 1) := by decide +kernel
theorem dX4_whyNotMake_1 : decode cX4_whyNotMake 1 = .ok (.i2l, 1) := by decide +kernel
theorem dX4_whyNotMake_2 : decode cX4_whyNotMake 2 = .ok (.lconst 0, 1) := by decide +kernel
theorem dX4_whyNotMake_3 : decode cX4_whyNotMake 3 = .ok (.ldc2_w 92, 3) := by decide +kernel
theorem dX4_whyNotMake_6 : decode cX4_whyNotMake 6 = .ok (.invokestatic 39, 3) := by decide +kernel
theorem dX4_whyNotMake_9 : decode cX4_whyNotMake 9 = .ok (.ifCond .eq 21, 3) := by decide +kernel
theorem dX4_whyNotMake_12 : decode cX4_whyNotMake 12 = .ok (.iload_n 2, 1) := by decide +kernel
theorem dX4_whyNotMake_13 : decode cX4_whyNotMake 13 = .ok (.i2l, 1) := by decide +kernel
theorem dX4_whyNotMake_14 : decode cX4_whyNotMake 14 = .ok (.iload_n 1, 1) := by decide +kernel
theorem dX4_whyNotMake_15 : decode cX4_whyNotMake 15 = .ok (.i2l, 1) := by decide +kernel
theorem dX4_whyNotMake_16 : decode cX4_whyNotMake 16 = .ok (.ldc2_w 92, 3) := by decide +kernel
theorem dX4_whyNotMake_19 : decode cX4_whyNotMake 19 = .ok (.invokestatic 39, 3) := by decide +kernel
theorem dX4_whyNotMake_22 : decode cX4_whyNotMake 22 = .ok (.ifCond .eq 8, 3) := by decide +kernel
theorem dX4_whyNotMake_25 : decode cX4_whyNotMake 25 = .ok (.iload_n 2, 1) := by decide +kernel
theorem dX4_whyNotMake_26 : decode cX4_whyNotMake 26 = .ok (.iconst 1, 1) := by decide +kernel
theorem dX4_whyNotMake_27 : decode cX4_whyNotMake 27 = .ok (.if_icmp .ge 7, 3) := by decide +kernel
theorem dX4_whyNotMake_30 : decode cX4_whyNotMake 30 = .ok (.iconst 1, 1) := by decide +kernel
theorem dX4_whyNotMake_31 : decode cX4_whyNotMake 31 = .ok (.goto 23, 3) := by decide +kernel
theorem dX4_whyNotMake_34 : decode cX4_whyNotMake 34 = .ok (.aload_n 0, 1) := by decide +kernel
theorem dX4_whyNotMake_35 : decode cX4_whyNotMake 35 = .ok (.iconst 0, 1) := by decide +kernel
theorem dX4_whyNotMake_36 : decode cX4_whyNotMake 36 = .ok (.iaload, 1) := by decide +kernel
theorem dX4_whyNotMake_37 : decode cX4_whyNotMake 37 = .ok (.iconst 5, 1) := by decide +kernel
theorem dX4_whyNotMake_38 : decode cX4_whyNotMake 38 = .ok (.if_icmp .eq 11, 3) := by decide +kernel
theorem dX4_whyNotMake_41 : decode cX4_whyNotMake 41 = .ok (.iload_n 1, 1) := by decide +kernel
theorem dX4_whyNotMake_42 : decode cX4_whyNotMake 42 = .ok (.aload_n 0, 1) := by decide +kernel
theorem dX4_whyNotMake_43 : decode cX4_whyNotMake 43 = .ok (.invokestatic 72, 3) := by decide +kernel
theorem dX4_whyNotMake_46 : decode cX4_whyNotMake 46 = .ok (.if_icmp .le 7, 3) := by decide +kernel
theorem dX4_whyNotMake_49 : decode cX4_whyNotMake 49 = .ok (.iconst 2, 1) := by decide +kernel
theorem dX4_whyNotMake_50 : decode cX4_whyNotMake 50 = .ok (.goto 4, 3) := by decide +kernel
theorem dX4_whyNotMake_53 : decode cX4_whyNotMake 53 = .ok (.iconst 0, 1) := by decide +kernel
theorem dX4_whyNotMake_54 : decode cX4_whyNotMake 54 = .ok (.ireturn, 1) := by decide +kernel
theorem dX4_makeOn_0 : decode cX4_makeOn 0 = .ok (.aload_n 0, 1) := by decide +kernel
theorem dX4_makeOn_1 : decode cX4_makeOn 1 = .ok (.iconst 0, 1) := by decide +kernel
theorem dX4_makeOn_2 : decode cX4_makeOn 2 = .ok (.iaload, 1) := by decide +kernel
theorem dX4_makeOn_3 : decode cX4_makeOn 3 = .ok (.istore_n 3, 1) := by decide +kernel
theorem dX4_makeOn_4 : decode cX4_makeOn 4 = .ok (.aload_n 0, 1) := by decide +kernel
theorem dX4_makeOn_5 : decode cX4_makeOn 5 = .ok (.iload_n 3, 1) := by decide +kernel
theorem dX4_makeOn_6 : decode cX4_makeOn 6 = .ok (.invokestatic 45, 3) := by decide +kernel
theorem dX4_makeOn_9 : decode cX4_makeOn 9 = .ok (.iconst 0, 1) := by decide +kernel
theorem dX4_makeOn_10 : decode cX4_makeOn 10 = .ok (.iadd, 1) := by decide +kernel
theorem dX4_makeOn_11 : decode cX4_makeOn 11 = .ok (.iload_n 1, 1) := by decide +kernel
theorem dX4_makeOn_12 : decode cX4_makeOn 12 = .ok (.iastore, 1) := by decide +kernel
theorem dX4_makeOn_13 : decode cX4_makeOn 13 = .ok (.aload_n 0, 1) := by decide +kernel
theorem dX4_makeOn_14 : decode cX4_makeOn 14 = .ok (.iload_n 3, 1) := by decide +kernel
theorem dX4_makeOn_15 : decode cX4_makeOn 15 = .ok (.invokestatic 45, 3) := by decide +kernel
theorem dX4_makeOn_18 : decode cX4_makeOn 18 = .ok (.iconst 1, 1) := by decide +kernel
theorem dX4_makeOn_19 : decode cX4_makeOn 19 = .ok (.iadd, 1) := by decide +kernel
theorem dX4_makeOn_20 : decode cX4_makeOn 20 = .ok (.iload_n 2, 1) := by decide +kernel
theorem dX4_makeOn_21 : decode cX4_makeOn 21 = .ok (.iastore, 1) := by decide +kernel
theorem dX4_makeOn_22 : decode cX4_makeOn 22 = .ok (.aload_n 0, 1) := by decide +kernel
theorem dX4_makeOn_23 : decode cX4_makeOn 23 = .ok (.iconst 0, 1) := by decide +kernel
theorem dX4_makeOn_24 : decode cX4_makeOn 24 = .ok (.dup2, 1) := by decide +kernel
theorem dX4_makeOn_25 : decode cX4_makeOn 25 = .ok (.iaload, 1) := by decide +kernel
theorem dX4_makeOn_26 : decode cX4_makeOn 26 = .ok (.iconst 1, 1) := by decide +kernel
theorem dX4_makeOn_27 : decode cX4_makeOn 27 = .ok (.iadd, 1) := by decide +kernel
theorem dX4_makeOn_28 : decode cX4_makeOn 28 = .ok (.iastore, 1) := by decide +kernel
theorem dX4_makeOn_29 : decode cX4_makeOn 29 = .ok (.iload_n 3, 1) := by decide +kernel
theorem dX4_makeOn_30 : decode cX4_makeOn 30 = .ok (.ireturn, 1) := by decide +kernel
theorem dX4_most_0 : decode cX4_most 0 = .ok (.aload_n 0, 1) := by decide +kernel
theorem dX4_most_1 : decode cX4_most 1 = .ok (.iload_n 1, 1) := by decide +kernel
theorem dX4_most_2 : decode cX4_most 2 = .ok (.iconst 0, 1) := by decide +kernel
theorem dX4_most_3 : decode cX4_most 3 = .ok (.invokestatic 49, 3) := by decide +kernel
theorem dX4_most_6 : decode cX4_most 6 = .ok (.aload_n 0, 1) := by decide +kernel
theorem dX4_most_7 : decode cX4_most 7 = .ok (.invokestatic 72, 3) := by decide +kernel
theorem dX4_most_10 : decode cX4_most 10 = .ok (.iadd, 1) := by decide +kernel
theorem dX4_most_11 : decode cX4_most 11 = .ok (.istore_n 2, 1) := by decide +kernel
theorem dX4_most_12 : decode cX4_most 12 = .ok (.iload_n 2, 1) := by decide +kernel
theorem dX4_most_13 : decode cX4_most 13 = .ok (.aload_n 0, 1) := by decide +kernel
theorem dX4_most_14 : decode cX4_most 14 = .ok (.iload_n 1, 1) := by decide +kernel
theorem dX4_most_15 : decode cX4_most 15 = .ok (.iconst 1, 1) := by decide +kernel
theorem dX4_most_16 : decode cX4_most 16 = .ok (.invokestatic 49, 3) := by decide +kernel
theorem dX4_most_19 : decode cX4_most 19 = .ok (.if_icmp .ge 7, 3) := by decide +kernel
theorem dX4_most_22 : decode cX4_most 22 = .ok (.iload_n 2, 1) := by decide +kernel
theorem dX4_most_23 : decode cX4_most 23 = .ok (.goto 9, 3) := by decide +kernel
theorem dX4_most_26 : decode cX4_most 26 = .ok (.aload_n 0, 1) := by decide +kernel
theorem dX4_most_27 : decode cX4_most 27 = .ok (.iload_n 1, 1) := by decide +kernel
theorem dX4_most_28 : decode cX4_most 28 = .ok (.iconst 1, 1) := by decide +kernel
theorem dX4_most_29 : decode cX4_most 29 = .ok (.invokestatic 49, 3) := by decide +kernel
theorem dX4_most_32 : decode cX4_most 32 = .ok (.ireturn, 1) := by decide +kernel
theorem dX4_least_0 : decode cX4_least 0 = .ok (.aload_n 0, 1) := by decide +kernel
theorem dX4_least_1 : decode cX4_least 1 = .ok (.iload_n 1, 1) := by decide +kernel
theorem dX4_least_2 : decode cX4_least 2 = .ok (.iconst 2, 1) := by decide +kernel
theorem dX4_least_3 : decode cX4_least 3 = .ok (.invokestatic 49, 3) := by decide +kernel
theorem dX4_least_6 : decode cX4_least 6 = .ok (.aload_n 0, 1) := by decide +kernel
theorem dX4_least_7 : decode cX4_least 7 = .ok (.iload_n 1, 1) := by decide +kernel
theorem dX4_least_8 : decode cX4_least 8 = .ok (.invokestatic 60, 3) := by decide +kernel
theorem dX4_least_11 : decode cX4_least 11 = .ok (.iadd, 1) := by decide +kernel
theorem dX4_least_12 : decode cX4_least 12 = .ok (.ireturn, 1) := by decide +kernel
theorem dX4_whyNotFloor_0 : decode cX4_whyNotFloor 0 = .ok (.aload_n 0, 1) := by decide +kernel
theorem dX4_whyNotFloor_1 : decode cX4_whyNotFloor 1 = .ok (.iload_n 1, 1) := by decide +kernel
theorem dX4_whyNotFloor_2 : decode cX4_whyNotFloor 2 = .ok (.invokestatic 94, 3) := by decide +kernel
theorem dX4_whyNotFloor_5 : decode cX4_whyNotFloor 5 = .ok (.ifCond .ne 7, 3) := by decide +kernel
theorem dX4_whyNotFloor_8 : decode cX4_whyNotFloor 8 = .ok (.iconst 1, 1) := by decide +kernel
theorem dX4_whyNotFloor_9 : decode cX4_whyNotFloor 9 = .ok (.goto 44, 3) := by decide +kernel
theorem dX4_whyNotFloor_12 : decode cX4_whyNotFloor 12 = .ok (.iload_n 2, 1) := by decide +kernel
theorem dX4_whyNotFloor_13 : decode cX4_whyNotFloor 13 = .ok (.i2l, 1) := by decide +kernel
theorem dX4_whyNotFloor_14 : decode cX4_whyNotFloor 14 = .ok (.lconst 0, 1) := by decide +kernel
theorem dX4_whyNotFloor_15 : decode cX4_whyNotFloor 15 = .ok (.ldc2_w 92, 3) := by decide +kernel
theorem dX4_whyNotFloor_18 : decode cX4_whyNotFloor 18 = .ok (.invokestatic 39, 3) := by decide +kernel
theorem dX4_whyNotFloor_21 : decode cX4_whyNotFloor 21 = .ok (.ifCond .ne 7, 3) := by decide +kernel
theorem dX4_whyNotFloor_24 : decode cX4_whyNotFloor 24 = .ok (.iconst 2, 1) := by decide +kernel
theorem dX4_whyNotFloor_25 : decode cX4_whyNotFloor 25 = .ok (.goto 28, 3) := by decide +kernel
theorem dX4_whyNotFloor_28 : decode cX4_whyNotFloor 28 = .ok (.iload_n 2, 1) := by decide +kernel
theorem dX4_whyNotFloor_29 : decode cX4_whyNotFloor 29 = .ok (.i2l, 1) := by decide +kernel
theorem dX4_whyNotFloor_30 : decode cX4_whyNotFloor 30 = .ok (.aload_n 0, 1) := by decide +kernel
theorem dX4_whyNotFloor_31 : decode cX4_whyNotFloor 31 = .ok (.iload_n 1, 1) := by decide +kernel
theorem dX4_whyNotFloor_32 : decode cX4_whyNotFloor 32 = .ok (.invokestatic 98, 3) := by decide +kernel
theorem dX4_whyNotFloor_35 : decode cX4_whyNotFloor 35 = .ok (.i2l, 1) := by decide +kernel
theorem dX4_whyNotFloor_36 : decode cX4_whyNotFloor 36 = .ok (.aload_n 0, 1) := by decide +kernel
theorem dX4_whyNotFloor_37 : decode cX4_whyNotFloor 37 = .ok (.iload_n 1, 1) := by decide +kernel
theorem dX4_whyNotFloor_38 : decode cX4_whyNotFloor 38 = .ok (.invokestatic 101, 3) := by decide +kernel
theorem dX4_whyNotFloor_41 : decode cX4_whyNotFloor 41 = .ok (.i2l, 1) := by decide +kernel
theorem dX4_whyNotFloor_42 : decode cX4_whyNotFloor 42 = .ok (.invokestatic 39, 3) := by decide +kernel
theorem dX4_whyNotFloor_45 : decode cX4_whyNotFloor 45 = .ok (.ifCond .eq 7, 3) := by decide +kernel
theorem dX4_whyNotFloor_48 : decode cX4_whyNotFloor 48 = .ok (.iconst 0, 1) := by decide +kernel
theorem dX4_whyNotFloor_49 : decode cX4_whyNotFloor 49 = .ok (.goto 4, 3) := by decide +kernel
theorem dX4_whyNotFloor_52 : decode cX4_whyNotFloor 52 = .ok (.iconst 3, 1) := by decide +kernel
theorem dX4_whyNotFloor_53 : decode cX4_whyNotFloor 53 = .ok (.ireturn, 1) := by decide +kernel
theorem dX4_lay_0 : decode cX4_lay 0 = .ok (.aload_n 0, 1) := by decide +kernel
theorem dX4_lay_1 : decode cX4_lay 1 = .ok (.iload_n 1, 1) := by decide +kernel
theorem dX4_lay_2 : decode cX4_lay 2 = .ok (.iload_n 2, 1) := by decide +kernel
theorem dX4_lay_3 : decode cX4_lay 3 = .ok (.invokestatic 49, 3) := by decide +kernel
theorem dX4_lay_6 : decode cX4_lay 6 = .ok (.istore 4, 2) := by decide +kernel
theorem dX4_lay_8 : decode cX4_lay 8 = .ok (.aload_n 0, 1) := by decide +kernel
theorem dX4_lay_9 : decode cX4_lay 9 = .ok (.iload_n 1, 1) := by decide +kernel
theorem dX4_lay_10 : decode cX4_lay 10 = .ok (.invokestatic 45, 3) := by decide +kernel
theorem dX4_lay_13 : decode cX4_lay 13 = .ok (.iload_n 2, 1) := by decide +kernel
theorem dX4_lay_14 : decode cX4_lay 14 = .ok (.iadd, 1) := by decide +kernel
theorem dX4_lay_15 : decode cX4_lay 15 = .ok (.iload_n 3, 1) := by decide +kernel
theorem dX4_lay_16 : decode cX4_lay 16 = .ok (.iastore, 1) := by decide +kernel
theorem dX4_lay_17 : decode cX4_lay 17 = .ok (.iload 4, 2) := by decide +kernel
theorem dX4_lay_19 : decode cX4_lay 19 = .ok (.ireturn, 1) := by decide +kernel
theorem dX4_whyNotCeiling_0 : decode cX4_whyNotCeiling 0 = .ok (.aload_n 0, 1) := by decide +kernel
theorem dX4_whyNotCeiling_1 : decode cX4_whyNotCeiling 1 = .ok (.iload_n 1, 1) := by decide +kernel
theorem dX4_whyNotCeiling_2 : decode cX4_whyNotCeiling 2 = .ok (.invokestatic 94, 3) := by decide +kernel
theorem dX4_whyNotCeiling_5 : decode cX4_whyNotCeiling 5 = .ok (.ifCond .ne 7, 3) := by decide +kernel
theorem dX4_whyNotCeiling_8 : decode cX4_whyNotCeiling 8 = .ok (.iconst 1, 1) := by decide +kernel
theorem dX4_whyNotCeiling_9 : decode cX4_whyNotCeiling 9 = .ok (.goto 30, 3) := by decide +kernel
theorem dX4_whyNotCeiling_12 : decode cX4_whyNotCeiling 12 = .ok (.iload_n 2, 1) := by decide +kernel
theorem dX4_whyNotCeiling_13 : decode cX4_whyNotCeiling 13 = .ok (.i2l, 1) := by decide +kernel
theorem dX4_whyNotCeiling_14 : decode cX4_whyNotCeiling 14 = .ok (.lconst 1, 1) := by decide +kernel
theorem dX4_whyNotCeiling_15 : decode cX4_whyNotCeiling 15 = .ok (.ldc2_w 92, 3) := by decide +kernel
theorem dX4_whyNotCeiling_18 : decode cX4_whyNotCeiling 18 = .ok (.invokestatic 39, 3) := by decide +kernel
theorem dX4_whyNotCeiling_21 : decode cX4_whyNotCeiling 21 = .ok (.ifCond .eq 17, 3) := by decide +kernel
theorem dX4_whyNotCeiling_24 : decode cX4_whyNotCeiling 24 = .ok (.iload_n 2, 1) := by decide +kernel
theorem dX4_whyNotCeiling_25 : decode cX4_whyNotCeiling 25 = .ok (.aload_n 0, 1) := by decide +kernel
theorem dX4_whyNotCeiling_26 : decode cX4_whyNotCeiling 26 = .ok (.iload_n 1, 1) := by decide +kernel
theorem dX4_whyNotCeiling_27 : decode cX4_whyNotCeiling 27 = .ok (.iconst 0, 1) := by decide +kernel
theorem dX4_whyNotCeiling_28 : decode cX4_whyNotCeiling 28 = .ok (.invokestatic 49, 3) := by decide +kernel
theorem dX4_whyNotCeiling_31 : decode cX4_whyNotCeiling 31 = .ok (.if_icmp .lt 7, 3) := by decide +kernel
theorem dX4_whyNotCeiling_34 : decode cX4_whyNotCeiling 34 = .ok (.iconst 0, 1) := by decide +kernel
theorem dX4_whyNotCeiling_35 : decode cX4_whyNotCeiling 35 = .ok (.goto 4, 3) := by decide +kernel
theorem dX4_whyNotCeiling_38 : decode cX4_whyNotCeiling 38 = .ok (.iconst 2, 1) := by decide +kernel
theorem dX4_whyNotCeiling_39 : decode cX4_whyNotCeiling 39 = .ok (.ireturn, 1) := by decide +kernel
theorem dX4_append_0 : decode cX4_append 0 = .ok (.aload_n 0, 1) := by decide +kernel
theorem dX4_append_1 : decode cX4_append 1 = .ok (.iload_n 1, 1) := by decide +kernel
theorem dX4_append_2 : decode cX4_append 2 = .ok (.i2l, 1) := by decide +kernel
theorem dX4_append_3 : decode cX4_append 3 = .ok (.lconst 0, 1) := by decide +kernel
theorem dX4_append_4 : decode cX4_append 4 = .ok (.ldc2_w 104, 3) := by decide +kernel
theorem dX4_append_7 : decode cX4_append 7 = .ok (.invokestatic 39, 3) := by decide +kernel
theorem dX4_append_10 : decode cX4_append 10 = .ok (.ifCond .ne 7, 3) := by decide +kernel
theorem dX4_append_13 : decode cX4_append 13 = .ok (.iconst 1, 1) := by decide +kernel
theorem dX4_append_14 : decode cX4_append 14 = .ok (.goto 17, 3) := by decide +kernel
theorem dX4_append_17 : decode cX4_append 17 = .ok (.aload_n 0, 1) := by decide +kernel
theorem dX4_append_18 : decode cX4_append 18 = .ok (.getfield 106, 3) := by decide +kernel
theorem dX4_append_21 : decode cX4_append 21 = .ok (.bipush 120, 2) := by decide +kernel
theorem dX4_append_23 : decode cX4_append 23 = .ok (.if_icmp .ne 7, 3) := by decide +kernel
theorem dX4_append_26 : decode cX4_append 26 = .ok (.iconst 2, 1) := by decide +kernel
theorem dX4_append_27 : decode cX4_append 27 = .ok (.goto 4, 3) := by decide +kernel
theorem dX4_append_30 : decode cX4_append 30 = .ok (.iconst 0, 1) := by decide +kernel
theorem dX4_append_31 : decode cX4_append 31 = .ok (.invokevirtual 109, 3) := by decide +kernel
theorem dX4_append_34 : decode cX4_append 34 = .ok (.ifCond .eq 5, 3) := by decide +kernel
theorem dX4_append_37 : decode cX4_append 37 = .ok (.iconst 0, 1) := by decide +kernel
theorem dX4_append_38 : decode cX4_append 38 = .ok (.ireturn, 1) := by decide +kernel
theorem dX4_append_39 : decode cX4_append 39 = .ok (.aload_n 0, 1) := by decide +kernel
theorem dX4_append_40 : decode cX4_append 40 = .ok (.getfield 7, 3) := by decide +kernel
theorem dX4_append_43 : decode cX4_append 43 = .ok (.aload_n 0, 1) := by decide +kernel
theorem dX4_append_44 : decode cX4_append 44 = .ok (.getfield 106, 3) := by decide +kernel
theorem dX4_append_47 : decode cX4_append 47 = .ok (.iload_n 1, 1) := by decide +kernel
theorem dX4_append_48 : decode cX4_append 48 = .ok (.iastore, 1) := by decide +kernel
theorem dX4_append_49 : decode cX4_append 49 = .ok (.aload_n 0, 1) := by decide +kernel
theorem dX4_append_50 : decode cX4_append 50 = .ok (.dup, 1) := by decide +kernel
theorem dX4_append_51 : decode cX4_append 51 = .ok (.getfield 106, 3) := by decide +kernel
theorem dX4_append_54 : decode cX4_append 54 = .ok (.iconst 1, 1) := by decide +kernel
theorem dX4_append_55 : decode cX4_append 55 = .ok (.iadd, 1) := by decide +kernel
theorem dX4_append_56 : decode cX4_append 56 = .ok (.putfield 106, 3) := by decide +kernel
theorem dX4_append_59 : decode cX4_append 59 = .ok (.aload_n 0, 1) := by decide +kernel
theorem dX4_append_60 : decode cX4_append 60 = .ok (.getfield 106, 3) := by decide +kernel
theorem dX4_append_63 : decode cX4_append 63 = .ok (.ireturn, 1) := by decide +kernel
theorem dX4_clearText_0 : decode cX4_clearText 0 = .ok (.aload_n 0, 1) := by decide +kernel
theorem dX4_clearText_1 : decode cX4_clearText 1 = .ok (.iconst 0, 1) := by decide +kernel
theorem dX4_clearText_2 : decode cX4_clearText 2 = .ok (.putfield 36, 3) := by decide +kernel
theorem dX4_clearText_5 : decode cX4_clearText 5 = .ok (.aload_n 0, 1) := by decide +kernel
theorem dX4_clearText_6 : decode cX4_clearText 6 = .ok (.getfield 106, 3) := by decide +kernel
theorem dX4_clearText_9 : decode cX4_clearText 9 = .ok (.istore_n 1, 1) := by decide +kernel
theorem dX4_clearText_10 : decode cX4_clearText 10 = .ok (.aload_n 0, 1) := by decide +kernel
theorem dX4_clearText_11 : decode cX4_clearText 11 = .ok (.iconst 0, 1) := by decide +kernel
theorem dX4_clearText_12 : decode cX4_clearText 12 = .ok (.putfield 106, 3) := by decide +kernel
theorem dX4_clearText_15 : decode cX4_clearText 15 = .ok (.iload_n 1, 1) := by decide +kernel
theorem dX4_clearText_16 : decode cX4_clearText 16 = .ok (.ireturn, 1) := by decide +kernel
theorem dX4_figures_0 : decode cX4_figures 0 = .ok (.iconst 0, 1) := by decide +kernel
theorem dX4_figures_1 : decode cX4_figures 1 = .ok (.istore 5, 2) := by decide +kernel
theorem dX4_figures_3 : decode cX4_figures 3 = .ok (.iload_n 2, 1) := by decide +kernel
theorem dX4_figures_4 : decode cX4_figures 4 = .ok (.iconst 2, 1) := by decide +kernel
theorem dX4_figures_5 : decode cX4_figures 5 = .ok (.if_icmp .ne 8, 3) := by decide +kernel
theorem dX4_figures_8 : decode cX4_figures 8 = .ok (.bipush 10, 2) := by decide +kernel
theorem dX4_figures_10 : decode cX4_figures 10 = .ok (.goto 4, 3) := by decide +kernel
theorem dX4_figures_13 : decode cX4_figures 13 = .ok (.iconst 1, 1) := by decide +kernel
theorem dX4_figures_14 : decode cX4_figures 14 = .ok (.istore 6, 2) := by decide +kernel
theorem dX4_figures_16 : decode cX4_figures 16 = .ok (.iload 6, 2) := by decide +kernel
theorem dX4_figures_18 : decode cX4_figures 18 = .ok (.ifCond .le 104, 3) := by decide +kernel
theorem dX4_figures_21 : decode cX4_figures 21 = .ok (.iload_n 1, 1) := by decide +kernel
theorem dX4_figures_22 : decode cX4_figures 22 = .ok (.iconst (-1), 1) := by decide +kernel
theorem dX4_figures_23 : decode cX4_figures 23 = .ok (.if_icmp .eq 99, 3) := by decide +kernel
theorem dX4_figures_26 : decode cX4_figures 26 = .ok (.aload_n 0, 1) := by decide +kernel
theorem dX4_figures_27 : decode cX4_figures 27 = .ok (.getfield 113, 3) := by decide +kernel
theorem dX4_figures_30 : decode cX4_figures 30 = .ok (.aload_n 0, 1) := by decide +kernel
theorem dX4_figures_31 : decode cX4_figures 31 = .ok (.getfield 106, 3) := by decide +kernel
theorem dX4_figures_34 : decode cX4_figures 34 = .ok (.if_icmp .ge 18, 3) := by decide +kernel
theorem dX4_figures_37 : decode cX4_figures 37 = .ok (.aload_n 0, 1) := by decide +kernel
theorem dX4_figures_38 : decode cX4_figures 38 = .ok (.getfield 7, 3) := by decide +kernel
theorem dX4_figures_41 : decode cX4_figures 41 = .ok (.aload_n 0, 1) := by decide +kernel
theorem dX4_figures_42 : decode cX4_figures 42 = .ok (.getfield 113, 3) := by decide +kernel
theorem dX4_figures_45 : decode cX4_figures 45 = .ok (.iaload, 1) := by decide +kernel
theorem dX4_figures_46 : decode cX4_figures 46 = .ok (.bipush 48, 2) := by decide +kernel
theorem dX4_figures_48 : decode cX4_figures 48 = .ok (.isub, 1) := by decide +kernel
theorem dX4_figures_49 : decode cX4_figures 49 = .ok (.goto 4, 3) := by decide +kernel
theorem dX4_figures_52 : decode cX4_figures 52 = .ok (.iconst (-1), 1) := by decide +kernel
theorem dX4_figures_53 : decode cX4_figures 53 = .ok (.istore 7, 2) := by decide +kernel
theorem dX4_figures_55 : decode cX4_figures 55 = .ok (.iload 5, 2) := by decide +kernel
theorem dX4_figures_57 : decode cX4_figures 57 = .ok (.iload 7, 2) := by decide +kernel
theorem dX4_figures_59 : decode cX4_figures 59 = .ok (.iload 6, 2) := by decide +kernel
theorem dX4_figures_61 : decode cX4_figures 61 = .ok (.imul, 1) := by decide +kernel
theorem dX4_figures_62 : decode cX4_figures 62 = .ok (.iadd, 1) := by decide +kernel
theorem dX4_figures_63 : decode cX4_figures 63 = .ok (.istore 8, 2) := by decide +kernel
theorem dX4_figures_65 : decode cX4_figures 65 = .ok (.iload 7, 2) := by decide +kernel
theorem dX4_figures_67 : decode cX4_figures 67 = .ok (.i2l, 1) := by decide +kernel
theorem dX4_figures_68 : decode cX4_figures 68 = .ok (.lconst 0, 1) := by decide +kernel
theorem dX4_figures_69 : decode cX4_figures 69 = .ok (.ldc2_w 116, 3) := by decide +kernel
theorem dX4_figures_72 : decode cX4_figures 72 = .ok (.invokestatic 39, 3) := by decide +kernel
theorem dX4_figures_75 : decode cX4_figures 75 = .ok (.ifCond .eq 21, 3) := by decide +kernel
theorem dX4_figures_78 : decode cX4_figures 78 = .ok (.iload 8, 2) := by decide +kernel
theorem dX4_figures_80 : decode cX4_figures 80 = .ok (.iload 4, 2) := by decide +kernel
theorem dX4_figures_82 : decode cX4_figures 82 = .ok (.if_icmp .gt 14, 3) := by decide +kernel
theorem dX4_figures_85 : decode cX4_figures 85 = .ok (.iload 8, 2) := by decide +kernel
theorem dX4_figures_87 : decode cX4_figures 87 = .ok (.iload 6, 2) := by decide +kernel
theorem dX4_figures_89 : decode cX4_figures 89 = .ok (.iadd, 1) := by decide +kernel
theorem dX4_figures_90 : decode cX4_figures 90 = .ok (.iconst 1, 1) := by decide +kernel
theorem dX4_figures_91 : decode cX4_figures 91 = .ok (.isub, 1) := by decide +kernel
theorem dX4_figures_92 : decode cX4_figures 92 = .ok (.iload_n 3, 1) := by decide +kernel
theorem dX4_figures_93 : decode cX4_figures 93 = .ok (.if_icmp .ge 5, 3) := by decide +kernel
theorem dX4_figures_96 : decode cX4_figures 96 = .ok (.iconst (-1), 1) := by decide +kernel
theorem dX4_figures_97 : decode cX4_figures 97 = .ok (.ireturn, 1) := by decide +kernel
theorem dX4_figures_98 : decode cX4_figures 98 = .ok (.iload 8, 2) := by decide +kernel
theorem dX4_figures_100 : decode cX4_figures 100 = .ok (.istore 5, 2) := by decide +kernel
theorem dX4_figures_102 : decode cX4_figures 102 = .ok (.aload_n 0, 1) := by decide +kernel
theorem dX4_figures_103 : decode cX4_figures 103 = .ok (.dup, 1) := by decide +kernel
theorem dX4_figures_104 : decode cX4_figures 104 = .ok (.getfield 113, 3) := by decide +kernel
theorem dX4_figures_107 : decode cX4_figures 107 = .ok (.iconst 1, 1) := by decide +kernel
theorem dX4_figures_108 : decode cX4_figures 108 = .ok (.iadd, 1) := by decide +kernel
theorem dX4_figures_109 : decode cX4_figures 109 = .ok (.putfield 113, 3) := by decide +kernel
theorem dX4_figures_112 : decode cX4_figures 112 = .ok (.iload 6, 2) := by decide +kernel
theorem dX4_figures_114 : decode cX4_figures 114 = .ok (.bipush 10, 2) := by decide +kernel
theorem dX4_figures_116 : decode cX4_figures 116 = .ok (.idiv, 1) := by decide +kernel
theorem dX4_figures_117 : decode cX4_figures 117 = .ok (.istore 6, 2) := by decide +kernel
theorem dX4_figures_119 : decode cX4_figures 119 = .ok (.goto (-103), 3) := by decide +kernel
theorem dX4_figures_122 : decode cX4_figures 122 = .ok (.iload_n 1, 1) := by decide +kernel
theorem dX4_figures_123 : decode cX4_figures 123 = .ok (.iconst (-1), 1) := by decide +kernel
theorem dX4_figures_124 : decode cX4_figures 124 = .ok (.if_icmp .ne 7, 3) := by decide +kernel
theorem dX4_figures_127 : decode cX4_figures 127 = .ok (.iconst (-1), 1) := by decide +kernel
theorem dX4_figures_128 : decode cX4_figures 128 = .ok (.goto 5, 3) := by decide +kernel
theorem dX4_figures_131 : decode cX4_figures 131 = .ok (.iload 5, 2) := by decide +kernel
theorem dX4_figures_133 : decode cX4_figures 133 = .ok (.ireturn, 1) := by decide +kernel
theorem dX4_leftOut_0 : decode cX4_leftOut 0 = .ok (.aload_n 0, 1) := by decide +kernel
theorem dX4_leftOut_1 : decode cX4_leftOut 1 = .ok (.dup, 1) := by decide +kernel
theorem dX4_leftOut_2 : decode cX4_leftOut 2 = .ok (.getfield 118, 3) := by decide +kernel
theorem dX4_leftOut_5 : decode cX4_leftOut 5 = .ok (.iload_n 1, 1) := by decide +kernel
theorem dX4_leftOut_6 : decode cX4_leftOut 6 = .ok (.ifCond .eq 7, 3) := by decide +kernel
theorem dX4_leftOut_9 : decode cX4_leftOut 9 = .ok (.iconst 0, 1) := by decide +kernel
theorem dX4_leftOut_10 : decode cX4_leftOut 10 = .ok (.goto 4, 3) := by decide +kernel
theorem dX4_leftOut_13 : decode cX4_leftOut 13 = .ok (.iconst 1, 1) := by decide +kernel
theorem dX4_leftOut_14 : decode cX4_leftOut 14 = .ok (.iadd, 1) := by decide +kernel
theorem dX4_leftOut_15 : decode cX4_leftOut 15 = .ok (.putfield 118, 3) := by decide +kernel
theorem dX4_leftOut_18 : decode cX4_leftOut 18 = .ok (.return_, 1) := by decide +kernel
theorem dX4_doesFloor_0 : decode cX4_doesFloor 0 = .ok (.aload_n 1, 1) := by decide +kernel
theorem dX4_doesFloor_1 : decode cX4_doesFloor 1 = .ok (.iload_n 2, 1) := by decide +kernel
theorem dX4_doesFloor_2 : decode cX4_doesFloor 2 = .ok (.iload_n 3, 1) := by decide +kernel
theorem dX4_doesFloor_3 : decode cX4_doesFloor 3 = .ok (.invokestatic 121, 3) := by decide +kernel
theorem dX4_doesFloor_6 : decode cX4_doesFloor 6 = .ok (.ifCond .ne 17, 3) := by decide +kernel
theorem dX4_doesFloor_9 : decode cX4_doesFloor 9 = .ok (.aload_n 1, 1) := by decide +kernel
theorem dX4_doesFloor_10 : decode cX4_doesFloor 10 = .ok (.iload_n 2, 1) := by decide +kernel
theorem dX4_doesFloor_11 : decode cX4_doesFloor 11 = .ok (.iconst 0, 1) := by decide +kernel
theorem dX4_doesFloor_12 : decode cX4_doesFloor 12 = .ok (.iload_n 3, 1) := by decide +kernel
theorem dX4_doesFloor_13 : decode cX4_doesFloor 13 = .ok (.invokestatic 124, 3) := by decide +kernel
theorem dX4_doesFloor_16 : decode cX4_doesFloor 16 = .ok (.ifCond .lt 7, 3) := by decide +kernel
theorem dX4_doesFloor_19 : decode cX4_doesFloor 19 = .ok (.iconst 1, 1) := by decide +kernel
theorem dX4_doesFloor_20 : decode cX4_doesFloor 20 = .ok (.goto 4, 3) := by decide +kernel
theorem dX4_doesFloor_23 : decode cX4_doesFloor 23 = .ok (.iconst 0, 1) := by decide +kernel
theorem dX4_doesFloor_24 : decode cX4_doesFloor 24 = .ok (.ireturn, 1) := by decide +kernel
theorem dX4_doesWrites_0 : decode cX4_doesWrites 0 = .ok (.iload_n 3, 1) := by decide +kernel
theorem dX4_doesWrites_1 : decode cX4_doesWrites 1 = .ok (.istore 5, 2) := by decide +kernel
theorem dX4_doesWrites_3 : decode cX4_doesWrites 3 = .ok (.iload 5, 2) := by decide +kernel
theorem dX4_doesWrites_5 : decode cX4_doesWrites 5 = .ok (.iload 4, 2) := by decide +kernel
theorem dX4_doesWrites_7 : decode cX4_doesWrites 7 = .ok (.if_icmp .gt 28, 3) := by decide +kernel
theorem dX4_doesWrites_10 : decode cX4_doesWrites 10 = .ok (.aload_n 1, 1) := by decide +kernel
theorem dX4_doesWrites_11 : decode cX4_doesWrites 11 = .ok (.iload_n 2, 1) := by decide +kernel
theorem dX4_doesWrites_12 : decode cX4_doesWrites 12 = .ok (.invokestatic 94, 3) := by decide +kernel
theorem dX4_doesWrites_15 : decode cX4_doesWrites 15 = .ok (.ifCond .ne 5, 3) := by decide +kernel
theorem dX4_doesWrites_18 : decode cX4_doesWrites 18 = .ok (.iconst 0, 1) := by decide +kernel
theorem dX4_doesWrites_19 : decode cX4_doesWrites 19 = .ok (.ireturn, 1) := by decide +kernel
theorem dX4_doesWrites_20 : decode cX4_doesWrites 20 = .ok (.aload_n 0, 1) := by decide +kernel
theorem dX4_doesWrites_21 : decode cX4_doesWrites 21 = .ok (.aload_n 1, 1) := by decide +kernel
theorem dX4_doesWrites_22 : decode cX4_doesWrites 22 = .ok (.iload_n 2, 1) := by decide +kernel
theorem dX4_doesWrites_23 : decode cX4_doesWrites 23 = .ok (.iload 5, 2) := by decide +kernel
theorem dX4_doesWrites_25 : decode cX4_doesWrites 25 = .ok (.invokevirtual 128, 3) := by decide +kernel
theorem dX4_doesWrites_28 : decode cX4_doesWrites 28 = .ok (.pop, 1) := by decide +kernel
theorem dX4_doesWrites_29 : decode cX4_doesWrites 29 = .ok (.iinc 5 1, 3) := by decide +kernel
theorem dX4_doesWrites_32 : decode cX4_doesWrites 32 = .ok (.goto (-29), 3) := by decide +kernel
theorem dX4_doesWrites_35 : decode cX4_doesWrites 35 = .ok (.iconst 1, 1) := by decide +kernel
theorem dX4_doesWrites_36 : decode cX4_doesWrites 36 = .ok (.ireturn, 1) := by decide +kernel
theorem dX4_readCommand_0 : decode cX4_readCommand 0 = .ok (.aload_n 0, 1) := by decide +kernel
theorem dX4_readCommand_1 : decode cX4_readCommand 1 = .ok (.getfield 7, 3) := by decide +kernel
theorem dX4_readCommand_4 : decode cX4_readCommand 4 = .ok (.aload_n 0, 1) := by decide +kernel
theorem dX4_readCommand_5 : decode cX4_readCommand 5 = .ok (.getfield 113, 3) := by decide +kernel
theorem dX4_readCommand_8 : decode cX4_readCommand 8 = .ok (.iaload, 1) := by decide +kernel
theorem dX4_readCommand_9 : decode cX4_readCommand 9 = .ok (.istore_n 2, 1) := by decide +kernel
theorem dX4_readCommand_10 : decode cX4_readCommand 10 = .ok (.aload_n 0, 1) := by decide +kernel
theorem dX4_readCommand_11 : decode cX4_readCommand 11 = .ok (.dup, 1) := by decide +kernel
theorem dX4_readCommand_12 : decode cX4_readCommand 12 = .ok (.getfield 113, 3) := by decide +kernel
theorem dX4_readCommand_15 : decode cX4_readCommand 15 = .ok (.iconst 1, 1) := by decide +kernel
theorem dX4_readCommand_16 : decode cX4_readCommand 16 = .ok (.iadd, 1) := by decide +kernel
theorem dX4_readCommand_17 : decode cX4_readCommand 17 = .ok (.putfield 113, 3) := by decide +kernel
theorem dX4_readCommand_20 : decode cX4_readCommand 20 = .ok (.iload_n 2, 1) := by decide +kernel
theorem dX4_readCommand_21 : decode cX4_readCommand 21 = .ok (.lookupswitch 328 #[(102, 214), (114, 264), (115, 51), (116, 119), (119, 119)], 51) := by decide +kernel
theorem dX4_readCommand_72 : decode cX4_readCommand 72 = .ok (.aload_n 0, 1) := by decide +kernel
theorem dX4_readCommand_73 : decode cX4_readCommand 73 = .ok (.iconst 0, 1) := by decide +kernel
theorem dX4_readCommand_74 : decode cX4_readCommand 74 = .ok (.iconst 2, 1) := by decide +kernel
theorem dX4_readCommand_75 : decode cX4_readCommand 75 = .ok (.iconst 0, 1) := by decide +kernel
theorem dX4_readCommand_76 : decode cX4_readCommand 76 = .ok (.bipush 60, 2) := by decide +kernel
theorem dX4_readCommand_78 : decode cX4_readCommand 78 = .ok (.invokevirtual 131, 3) := by decide +kernel
theorem dX4_readCommand_81 : decode cX4_readCommand 81 = .ok (.istore_n 3, 1) := by decide +kernel
theorem dX4_readCommand_82 : decode cX4_readCommand 82 = .ok (.aload_n 0, 1) := by decide +kernel
theorem dX4_readCommand_83 : decode cX4_readCommand 83 = .ok (.iload_n 3, 1) := by decide +kernel
theorem dX4_readCommand_84 : decode cX4_readCommand 84 = .ok (.iconst 2, 1) := by decide +kernel
theorem dX4_readCommand_85 : decode cX4_readCommand 85 = .ok (.iconst 1, 1) := by decide +kernel
theorem dX4_readCommand_86 : decode cX4_readCommand 86 = .ok (.bipush 60, 2) := by decide +kernel
theorem dX4_readCommand_88 : decode cX4_readCommand 88 = .ok (.invokevirtual 131, 3) := by decide +kernel
theorem dX4_readCommand_91 : decode cX4_readCommand 91 = .ok (.istore 4, 2) := by decide +kernel
theorem dX4_readCommand_93 : decode cX4_readCommand 93 = .ok (.iload 4, 2) := by decide +kernel
theorem dX4_readCommand_95 : decode cX4_readCommand 95 = .ok (.iconst (-1), 1) := by decide +kernel
theorem dX4_readCommand_96 : decode cX4_readCommand 96 = .ok (.if_icmp .eq 32, 3) := by decide +kernel
theorem dX4_readCommand_99 : decode cX4_readCommand 99 = .ok (.aload_n 0, 1) := by decide +kernel
theorem dX4_readCommand_100 : decode cX4_readCommand 100 = .ok (.aload_n 1, 1) := by decide +kernel
theorem dX4_readCommand_101 : decode cX4_readCommand 101 = .ok (.iload_n 3, 1) := by decide +kernel
theorem dX4_readCommand_102 : decode cX4_readCommand 102 = .ok (.iload 4, 2) := by decide +kernel
theorem dX4_readCommand_104 : decode cX4_readCommand 104 = .ok (.invokestatic 135, 3) := by decide +kernel
theorem dX4_readCommand_107 : decode cX4_readCommand 107 = .ok (.ifCond .ne 17, 3) := by decide +kernel
theorem dX4_readCommand_110 : decode cX4_readCommand 110 = .ok (.aload_n 1, 1) := by decide +kernel
theorem dX4_readCommand_111 : decode cX4_readCommand 111 = .ok (.iload_n 3, 1) := by decide +kernel
theorem dX4_readCommand_112 : decode cX4_readCommand 112 = .ok (.iload 4, 2) := by decide +kernel
theorem dX4_readCommand_114 : decode cX4_readCommand 114 = .ok (.invokestatic 138, 3) := by decide +kernel
theorem dX4_readCommand_117 : decode cX4_readCommand 117 = .ok (.ifCond .lt 7, 3) := by decide +kernel
theorem dX4_readCommand_120 : decode cX4_readCommand 120 = .ok (.iconst 1, 1) := by decide +kernel
theorem dX4_readCommand_121 : decode cX4_readCommand 121 = .ok (.goto 4, 3) := by decide +kernel
theorem dX4_readCommand_124 : decode cX4_readCommand 124 = .ok (.iconst 0, 1) := by decide +kernel
theorem dX4_readCommand_125 : decode cX4_readCommand 125 = .ok (.invokevirtual 141, 3) := by decide +kernel
theorem dX4_readCommand_128 : decode cX4_readCommand 128 = .ok (.iload 4, 2) := by decide +kernel
theorem dX4_readCommand_130 : decode cX4_readCommand 130 = .ok (.iconst (-1), 1) := by decide +kernel
theorem dX4_readCommand_131 : decode cX4_readCommand 131 = .ok (.if_icmp .eq 7, 3) := by decide +kernel
theorem dX4_readCommand_134 : decode cX4_readCommand 134 = .ok (.iconst 1, 1) := by decide +kernel
theorem dX4_readCommand_135 : decode cX4_readCommand 135 = .ok (.goto 4, 3) := by decide +kernel
theorem dX4_readCommand_138 : decode cX4_readCommand 138 = .ok (.iconst 0, 1) := by decide +kernel
theorem dX4_readCommand_139 : decode cX4_readCommand 139 = .ok (.ireturn, 1) := by decide +kernel
theorem dX4_readCommand_140 : decode cX4_readCommand 140 = .ok (.aload_n 0, 1) := by decide +kernel
theorem dX4_readCommand_141 : decode cX4_readCommand 141 = .ok (.iconst 0, 1) := by decide +kernel
theorem dX4_readCommand_142 : decode cX4_readCommand 142 = .ok (.iconst 1, 1) := by decide +kernel
theorem dX4_readCommand_143 : decode cX4_readCommand 143 = .ok (.iconst 0, 1) := by decide +kernel
theorem dX4_readCommand_144 : decode cX4_readCommand 144 = .ok (.iconst 4, 1) := by decide +kernel
theorem dX4_readCommand_145 : decode cX4_readCommand 145 = .ok (.invokevirtual 131, 3) := by decide +kernel
theorem dX4_readCommand_148 : decode cX4_readCommand 148 = .ok (.istore_n 3, 1) := by decide +kernel
theorem dX4_readCommand_149 : decode cX4_readCommand 149 = .ok (.aload_n 0, 1) := by decide +kernel
theorem dX4_readCommand_150 : decode cX4_readCommand 150 = .ok (.iload_n 3, 1) := by decide +kernel
theorem dX4_readCommand_151 : decode cX4_readCommand 151 = .ok (.iconst 2, 1) := by decide +kernel
theorem dX4_readCommand_152 : decode cX4_readCommand 152 = .ok (.iconst 0, 1) := by decide +kernel
theorem dX4_readCommand_153 : decode cX4_readCommand 153 = .ok (.bipush 39, 2) := by decide +kernel
theorem dX4_readCommand_155 : decode cX4_readCommand 155 = .ok (.invokevirtual 131, 3) := by decide +kernel
theorem dX4_readCommand_158 : decode cX4_readCommand 158 = .ok (.istore 4, 2) := by decide +kernel
theorem dX4_readCommand_160 : decode cX4_readCommand 160 = .ok (.iload 4, 2) := by decide +kernel
theorem dX4_readCommand_162 : decode cX4_readCommand 162 = .ok (.iconst (-1), 1) := by decide +kernel
theorem dX4_readCommand_163 : decode cX4_readCommand 163 = .ok (.if_icmp .eq 60, 3) := by decide +kernel
theorem dX4_readCommand_166 : decode cX4_readCommand 166 = .ok (.aload_n 0, 1) := by decide +kernel
theorem dX4_readCommand_167 : decode cX4_readCommand 167 = .ok (.aload_n 1, 1) := by decide +kernel
theorem dX4_readCommand_168 : decode cX4_readCommand 168 = .ok (.iload_n 3, 1) := by decide +kernel
theorem dX4_readCommand_169 : decode cX4_readCommand 169 = .ok (.invokestatic 94, 3) := by decide +kernel
theorem dX4_readCommand_172 : decode cX4_readCommand 172 = .ok (.ifCond .eq 47, 3) := by decide +kernel
theorem dX4_readCommand_175 : decode cX4_readCommand 175 = .ok (.iload_n 2, 1) := by decide +kernel
theorem dX4_readCommand_176 : decode cX4_readCommand 176 = .ok (.bipush 119, 2) := by decide +kernel
theorem dX4_readCommand_178 : decode cX4_readCommand 178 = .ok (.if_icmp .ne 17, 3) := by decide +kernel
theorem dX4_readCommand_181 : decode cX4_readCommand 181 = .ok (.aload_n 0, 1) := by decide +kernel
theorem dX4_readCommand_182 : decode cX4_readCommand 182 = .ok (.aload_n 1, 1) := by decide +kernel
theorem dX4_readCommand_183 : decode cX4_readCommand 183 = .ok (.iload_n 3, 1) := by decide +kernel
theorem dX4_readCommand_184 : decode cX4_readCommand 184 = .ok (.iload 4, 2) := by decide +kernel
theorem dX4_readCommand_186 : decode cX4_readCommand 186 = .ok (.invokevirtual 128, 3) := by decide +kernel
theorem dX4_readCommand_189 : decode cX4_readCommand 189 = .ok (.ifCond .lt 30, 3) := by decide +kernel
theorem dX4_readCommand_192 : decode cX4_readCommand 192 = .ok (.goto 23, 3) := by decide +kernel
theorem dX4_readCommand_195 : decode cX4_readCommand 195 = .ok (.aload_n 1, 1) := by decide +kernel
theorem dX4_readCommand_196 : decode cX4_readCommand 196 = .ok (.iload_n 3, 1) := by decide +kernel
theorem dX4_readCommand_197 : decode cX4_readCommand 197 = .ok (.iload 4, 2) := by decide +kernel
theorem dX4_readCommand_199 : decode cX4_readCommand 199 = .ok (.invokestatic 145, 3) := by decide +kernel
theorem dX4_readCommand_202 : decode cX4_readCommand 202 = .ok (.ifCond .eq 17, 3) := by decide +kernel
theorem dX4_readCommand_205 : decode cX4_readCommand 205 = .ok (.aload_n 1, 1) := by decide +kernel
theorem dX4_readCommand_206 : decode cX4_readCommand 206 = .ok (.iload_n 3, 1) := by decide +kernel
theorem dX4_readCommand_207 : decode cX4_readCommand 207 = .ok (.iload 4, 2) := by decide +kernel
theorem dX4_readCommand_209 : decode cX4_readCommand 209 = .ok (.invokestatic 149, 3) := by decide +kernel
theorem dX4_readCommand_212 : decode cX4_readCommand 212 = .ok (.ifCond .lt 7, 3) := by decide +kernel
theorem dX4_readCommand_215 : decode cX4_readCommand 215 = .ok (.iconst 1, 1) := by decide +kernel
theorem dX4_readCommand_216 : decode cX4_readCommand 216 = .ok (.goto 4, 3) := by decide +kernel
theorem dX4_readCommand_219 : decode cX4_readCommand 219 = .ok (.iconst 0, 1) := by decide +kernel
theorem dX4_readCommand_220 : decode cX4_readCommand 220 = .ok (.invokevirtual 141, 3) := by decide +kernel
theorem dX4_readCommand_223 : decode cX4_readCommand 223 = .ok (.iload 4, 2) := by decide +kernel
theorem dX4_readCommand_225 : decode cX4_readCommand 225 = .ok (.iconst (-1), 1) := by decide +kernel
theorem dX4_readCommand_226 : decode cX4_readCommand 226 = .ok (.if_icmp .eq 7, 3) := by decide +kernel
theorem dX4_readCommand_229 : decode cX4_readCommand 229 = .ok (.iconst 1, 1) := by decide +kernel
theorem dX4_readCommand_230 : decode cX4_readCommand 230 = .ok (.goto 4, 3) := by decide +kernel
theorem dX4_readCommand_233 : decode cX4_readCommand 233 = .ok (.iconst 0, 1) := by decide +kernel
theorem dX4_readCommand_234 : decode cX4_readCommand 234 = .ok (.ireturn, 1) := by decide +kernel
theorem dX4_readCommand_235 : decode cX4_readCommand 235 = .ok (.aload_n 0, 1) := by decide +kernel
theorem dX4_readCommand_236 : decode cX4_readCommand 236 = .ok (.iconst 0, 1) := by decide +kernel
theorem dX4_readCommand_237 : decode cX4_readCommand 237 = .ok (.iconst 1, 1) := by decide +kernel
theorem dX4_readCommand_238 : decode cX4_readCommand 238 = .ok (.iconst 0, 1) := by decide +kernel
theorem dX4_readCommand_239 : decode cX4_readCommand 239 = .ok (.iconst 4, 1) := by decide +kernel
theorem dX4_readCommand_240 : decode cX4_readCommand 240 = .ok (.invokevirtual 131, 3) := by decide +kernel
theorem dX4_readCommand_243 : decode cX4_readCommand 243 = .ok (.istore_n 3, 1) := by decide +kernel
theorem dX4_readCommand_244 : decode cX4_readCommand 244 = .ok (.aload_n 0, 1) := by decide +kernel
theorem dX4_readCommand_245 : decode cX4_readCommand 245 = .ok (.iload_n 3, 1) := by decide +kernel
theorem dX4_readCommand_246 : decode cX4_readCommand 246 = .ok (.iconst 2, 1) := by decide +kernel
theorem dX4_readCommand_247 : decode cX4_readCommand 247 = .ok (.iconst 0, 1) := by decide +kernel
theorem dX4_readCommand_248 : decode cX4_readCommand 248 = .ok (.bipush 60, 2) := by decide +kernel
theorem dX4_readCommand_250 : decode cX4_readCommand 250 = .ok (.invokevirtual 131, 3) := by decide +kernel
theorem dX4_readCommand_253 : decode cX4_readCommand 253 = .ok (.istore 4, 2) := by decide +kernel
theorem dX4_readCommand_255 : decode cX4_readCommand 255 = .ok (.iload 4, 2) := by decide +kernel
theorem dX4_readCommand_257 : decode cX4_readCommand 257 = .ok (.iconst (-1), 1) := by decide +kernel
theorem dX4_readCommand_258 : decode cX4_readCommand 258 = .ok (.if_icmp .eq 15, 3) := by decide +kernel
theorem dX4_readCommand_261 : decode cX4_readCommand 261 = .ok (.aload_n 0, 1) := by decide +kernel
theorem dX4_readCommand_262 : decode cX4_readCommand 262 = .ok (.aload_n 0, 1) := by decide +kernel
theorem dX4_readCommand_263 : decode cX4_readCommand 263 = .ok (.aload_n 1, 1) := by decide +kernel
theorem dX4_readCommand_264 : decode cX4_readCommand 264 = .ok (.iload_n 3, 1) := by decide +kernel
theorem dX4_readCommand_265 : decode cX4_readCommand 265 = .ok (.iload 4, 2) := by decide +kernel
theorem dX4_readCommand_267 : decode cX4_readCommand 267 = .ok (.invokevirtual 152, 3) := by decide +kernel
theorem dX4_readCommand_270 : decode cX4_readCommand 270 = .ok (.invokevirtual 141, 3) := by decide +kernel
theorem dX4_readCommand_273 : decode cX4_readCommand 273 = .ok (.iload 4, 2) := by decide +kernel
theorem dX4_readCommand_275 : decode cX4_readCommand 275 = .ok (.iconst (-1), 1) := by decide +kernel
theorem dX4_readCommand_276 : decode cX4_readCommand 276 = .ok (.if_icmp .eq 7, 3) := by decide +kernel
theorem dX4_readCommand_279 : decode cX4_readCommand 279 = .ok (.iconst 1, 1) := by decide +kernel
theorem dX4_readCommand_280 : decode cX4_readCommand 280 = .ok (.goto 4, 3) := by decide +kernel
theorem dX4_readCommand_283 : decode cX4_readCommand 283 = .ok (.iconst 0, 1) := by decide +kernel
theorem dX4_readCommand_284 : decode cX4_readCommand 284 = .ok (.ireturn, 1) := by decide +kernel
theorem dX4_readCommand_285 : decode cX4_readCommand 285 = .ok (.aload_n 0, 1) := by decide +kernel
theorem dX4_readCommand_286 : decode cX4_readCommand 286 = .ok (.iconst 0, 1) := by decide +kernel
theorem dX4_readCommand_287 : decode cX4_readCommand 287 = .ok (.iconst 1, 1) := by decide +kernel
theorem dX4_readCommand_288 : decode cX4_readCommand 288 = .ok (.iconst 0, 1) := by decide +kernel
theorem dX4_readCommand_289 : decode cX4_readCommand 289 = .ok (.iconst 4, 1) := by decide +kernel
theorem dX4_readCommand_290 : decode cX4_readCommand 290 = .ok (.invokevirtual 131, 3) := by decide +kernel
theorem dX4_readCommand_293 : decode cX4_readCommand 293 = .ok (.istore_n 3, 1) := by decide +kernel
theorem dX4_readCommand_294 : decode cX4_readCommand 294 = .ok (.aload_n 0, 1) := by decide +kernel
theorem dX4_readCommand_295 : decode cX4_readCommand 295 = .ok (.iload_n 3, 1) := by decide +kernel
theorem dX4_readCommand_296 : decode cX4_readCommand 296 = .ok (.iconst 2, 1) := by decide +kernel
theorem dX4_readCommand_297 : decode cX4_readCommand 297 = .ok (.iconst 0, 1) := by decide +kernel
theorem dX4_readCommand_298 : decode cX4_readCommand 298 = .ok (.bipush 39, 2) := by decide +kernel
theorem dX4_readCommand_300 : decode cX4_readCommand 300 = .ok (.invokevirtual 131, 3) := by decide +kernel
theorem dX4_readCommand_303 : decode cX4_readCommand 303 = .ok (.istore 4, 2) := by decide +kernel
theorem dX4_readCommand_305 : decode cX4_readCommand 305 = .ok (.aload_n 0, 1) := by decide +kernel
theorem dX4_readCommand_306 : decode cX4_readCommand 306 = .ok (.iload 4, 2) := by decide +kernel
theorem dX4_readCommand_308 : decode cX4_readCommand 308 = .ok (.iconst 2, 1) := by decide +kernel
theorem dX4_readCommand_309 : decode cX4_readCommand 309 = .ok (.iconst 0, 1) := by decide +kernel
theorem dX4_readCommand_310 : decode cX4_readCommand 310 = .ok (.bipush 39, 2) := by decide +kernel
theorem dX4_readCommand_312 : decode cX4_readCommand 312 = .ok (.invokevirtual 131, 3) := by decide +kernel
theorem dX4_readCommand_315 : decode cX4_readCommand 315 = .ok (.istore 5, 2) := by decide +kernel
theorem dX4_readCommand_317 : decode cX4_readCommand 317 = .ok (.iload 5, 2) := by decide +kernel
theorem dX4_readCommand_319 : decode cX4_readCommand 319 = .ok (.iconst (-1), 1) := by decide +kernel
theorem dX4_readCommand_320 : decode cX4_readCommand 320 = .ok (.if_icmp .eq 17, 3) := by decide +kernel
theorem dX4_readCommand_323 : decode cX4_readCommand 323 = .ok (.aload_n 0, 1) := by decide +kernel
theorem dX4_readCommand_324 : decode cX4_readCommand 324 = .ok (.aload_n 0, 1) := by decide +kernel
theorem dX4_readCommand_325 : decode cX4_readCommand 325 = .ok (.aload_n 1, 1) := by decide +kernel
theorem dX4_readCommand_326 : decode cX4_readCommand 326 = .ok (.iload_n 3, 1) := by decide +kernel
theorem dX4_readCommand_327 : decode cX4_readCommand 327 = .ok (.iload 4, 2) := by decide +kernel
theorem dX4_readCommand_329 : decode cX4_readCommand 329 = .ok (.iload 5, 2) := by decide +kernel
theorem dX4_readCommand_331 : decode cX4_readCommand 331 = .ok (.invokevirtual 155, 3) := by decide +kernel
theorem dX4_readCommand_334 : decode cX4_readCommand 334 = .ok (.invokevirtual 141, 3) := by decide +kernel
theorem dX4_readCommand_337 : decode cX4_readCommand 337 = .ok (.iload 5, 2) := by decide +kernel
theorem dX4_readCommand_339 : decode cX4_readCommand 339 = .ok (.iconst (-1), 1) := by decide +kernel
theorem dX4_readCommand_340 : decode cX4_readCommand 340 = .ok (.if_icmp .eq 7, 3) := by decide +kernel
theorem dX4_readCommand_343 : decode cX4_readCommand 343 = .ok (.iconst 1, 1) := by decide +kernel
theorem dX4_readCommand_344 : decode cX4_readCommand 344 = .ok (.goto 4, 3) := by decide +kernel
theorem dX4_readCommand_347 : decode cX4_readCommand 347 = .ok (.iconst 0, 1) := by decide +kernel
theorem dX4_readCommand_348 : decode cX4_readCommand 348 = .ok (.ireturn, 1) := by decide +kernel
theorem dX4_readCommand_349 : decode cX4_readCommand 349 = .ok (.aload_n 0, 1) := by decide +kernel
theorem dX4_readCommand_350 : decode cX4_readCommand 350 = .ok (.dup, 1) := by decide +kernel
theorem dX4_readCommand_351 : decode cX4_readCommand 351 = .ok (.getfield 113, 3) := by decide +kernel
theorem dX4_readCommand_354 : decode cX4_readCommand 354 = .ok (.iconst 1, 1) := by decide +kernel
theorem dX4_readCommand_355 : decode cX4_readCommand 355 = .ok (.isub, 1) := by decide +kernel
theorem dX4_readCommand_356 : decode cX4_readCommand 356 = .ok (.putfield 113, 3) := by decide +kernel
theorem dX4_readCommand_359 : decode cX4_readCommand 359 = .ok (.iconst 0, 1) := by decide +kernel
theorem dX4_readCommand_360 : decode cX4_readCommand 360 = .ok (.ireturn, 1) := by decide +kernel
theorem dX4_readText_0 : decode cX4_readText 0 = .ok (.iconst 0, 1) := by decide +kernel
theorem dX4_readText_1 : decode cX4_readText 1 = .ok (.istore_n 2, 1) := by decide +kernel
theorem dX4_readText_2 : decode cX4_readText 2 = .ok (.iload_n 2, 1) := by decide +kernel
theorem dX4_readText_3 : decode cX4_readText 3 = .ok (.sipush 262, 3) := by decide +kernel
theorem dX4_readText_6 : decode cX4_readText 6 = .ok (.if_icmp .ge 13, 3) := by decide +kernel
theorem dX4_readText_9 : decode cX4_readText 9 = .ok (.aload_n 1, 1) := by decide +kernel
theorem dX4_readText_10 : decode cX4_readText 10 = .ok (.iload_n 2, 1) := by decide +kernel
theorem dX4_readText_11 : decode cX4_readText 11 = .ok (.iconst 0, 1) := by decide +kernel
theorem dX4_readText_12 : decode cX4_readText 12 = .ok (.iastore, 1) := by decide +kernel
theorem dX4_readText_13 : decode cX4_readText 13 = .ok (.iinc 2 1, 3) := by decide +kernel
theorem dX4_readText_16 : decode cX4_readText 16 = .ok (.goto (-14), 3) := by decide +kernel
theorem dX4_readText_19 : decode cX4_readText 19 = .ok (.aload_n 0, 1) := by decide +kernel
theorem dX4_readText_20 : decode cX4_readText 20 = .ok (.iconst 0, 1) := by decide +kernel
theorem dX4_readText_21 : decode cX4_readText 21 = .ok (.putfield 118, 3) := by decide +kernel
theorem dX4_readText_24 : decode cX4_readText 24 = .ok (.aload_n 0, 1) := by decide +kernel
theorem dX4_readText_25 : decode cX4_readText 25 = .ok (.iconst 0, 1) := by decide +kernel
theorem dX4_readText_26 : decode cX4_readText 26 = .ok (.putfield 113, 3) := by decide +kernel
theorem dX4_readText_29 : decode cX4_readText 29 = .ok (.aload_n 0, 1) := by decide +kernel
theorem dX4_readText_30 : decode cX4_readText 30 = .ok (.getfield 106, 3) := by decide +kernel
theorem dX4_readText_33 : decode cX4_readText 33 = .ok (.ifCond .eq 14, 3) := by decide +kernel
theorem dX4_readText_36 : decode cX4_readText 36 = .ok (.aload_n 0, 1) := by decide +kernel
theorem dX4_readText_37 : decode cX4_readText 37 = .ok (.getfield 7, 3) := by decide +kernel
theorem dX4_readText_40 : decode cX4_readText 40 = .ok (.iconst 0, 1) := by decide +kernel
theorem dX4_readText_41 : decode cX4_readText 41 = .ok (.iaload, 1) := by decide +kernel
theorem dX4_readText_42 : decode cX4_readText 42 = .ok (.bipush 68, 2) := by decide +kernel
theorem dX4_readText_44 : decode cX4_readText 44 = .ok (.if_icmp .eq 5, 3) := by decide +kernel
theorem dX4_readText_47 : decode cX4_readText 47 = .ok (.iconst 0, 1) := by decide +kernel
theorem dX4_readText_48 : decode cX4_readText 48 = .ok (.ireturn, 1) := by decide +kernel
theorem dX4_readText_49 : decode cX4_readText 49 = .ok (.aload_n 0, 1) := by decide +kernel
theorem dX4_readText_50 : decode cX4_readText 50 = .ok (.iconst 1, 1) := by decide +kernel
theorem dX4_readText_51 : decode cX4_readText 51 = .ok (.putfield 113, 3) := by decide +kernel
theorem dX4_readText_54 : decode cX4_readText 54 = .ok (.aload_n 0, 1) := by decide +kernel
theorem dX4_readText_55 : decode cX4_readText 55 = .ok (.getfield 113, 3) := by decide +kernel
theorem dX4_readText_58 : decode cX4_readText 58 = .ok (.aload_n 0, 1) := by decide +kernel
theorem dX4_readText_59 : decode cX4_readText 59 = .ok (.getfield 106, 3) := by decide +kernel
theorem dX4_readText_62 : decode cX4_readText 62 = .ok (.if_icmp .ge 16, 3) := by decide +kernel
theorem dX4_readText_65 : decode cX4_readText 65 = .ok (.aload_n 0, 1) := by decide +kernel
theorem dX4_readText_66 : decode cX4_readText 66 = .ok (.aload_n 1, 1) := by decide +kernel
theorem dX4_readText_67 : decode cX4_readText 67 = .ok (.invokevirtual 159, 3) := by decide +kernel
theorem dX4_readText_70 : decode cX4_readText 70 = .ok (.ifCond .ne (-16), 3) := by decide +kernel
theorem dX4_readText_73 : decode cX4_readText 73 = .ok (.aload_n 0, 1) := by decide +kernel
theorem dX4_readText_74 : decode cX4_readText 74 = .ok (.getfield 113, 3) := by decide +kernel
theorem dX4_readText_77 : decode cX4_readText 77 = .ok (.ireturn, 1) := by decide +kernel
theorem dX4_readText_78 : decode cX4_readText 78 = .ok (.iconst (-1), 1) := by decide +kernel
theorem dX4_readText_79 : decode cX4_readText 79 = .ok (.ireturn, 1) := by decide +kernel
theorem dX4_errorPosition_0 : decode cX4_errorPosition 0 = .ok (.aload_n 0, 1) := by decide +kernel
theorem dX4_errorPosition_1 : decode cX4_errorPosition 1 = .ok (.iconst 0, 1) := by decide +kernel
theorem dX4_errorPosition_2 : decode cX4_errorPosition 2 = .ok (.putfield 36, 3) := by decide +kernel
theorem dX4_errorPosition_5 : decode cX4_errorPosition 5 = .ok (.aload_n 0, 1) := by decide +kernel
theorem dX4_errorPosition_6 : decode cX4_errorPosition 6 = .ok (.aload_n 0, 1) := by decide +kernel
theorem dX4_errorPosition_7 : decode cX4_errorPosition 7 = .ok (.getfield 16, 3) := by decide +kernel
theorem dX4_errorPosition_10 : decode cX4_errorPosition 10 = .ok (.invokevirtual 163, 3) := by decide +kernel
theorem dX4_errorPosition_13 : decode cX4_errorPosition 13 = .ok (.ireturn, 1) := by decide +kernel
theorem dX4_load_0 : decode cX4_load 0 = .ok (.aload_n 0, 1) := by decide +kernel
theorem dX4_load_1 : decode cX4_load 1 = .ok (.aload_n 0, 1) := by decide +kernel
theorem dX4_load_2 : decode cX4_load 2 = .ok (.aload_n 0, 1) := by decide +kernel
theorem dX4_load_3 : decode cX4_load 3 = .ok (.getfield 16, 3) := by decide +kernel
theorem dX4_load_6 : decode cX4_load 6 = .ok (.invokevirtual 163, 3) := by decide +kernel
theorem dX4_load_9 : decode cX4_load 9 = .ok (.iconst (-1), 1) := by decide +kernel
theorem dX4_load_10 : decode cX4_load 10 = .ok (.if_icmp .ne 7, 3) := by decide +kernel
theorem dX4_load_13 : decode cX4_load 13 = .ok (.iconst 0, 1) := by decide +kernel
theorem dX4_load_14 : decode cX4_load 14 = .ok (.goto 4, 3) := by decide +kernel
theorem dX4_load_17 : decode cX4_load 17 = .ok (.iconst 1, 1) := by decide +kernel
theorem dX4_load_18 : decode cX4_load 18 = .ok (.invokevirtual 109, 3) := by decide +kernel
theorem dX4_load_21 : decode cX4_load 21 = .ok (.ifCond .eq 5, 3) := by decide +kernel
theorem dX4_load_24 : decode cX4_load 24 = .ok (.iconst 0, 1) := by decide +kernel
theorem dX4_load_25 : decode cX4_load 25 = .ok (.ireturn, 1) := by decide +kernel
theorem dX4_load_26 : decode cX4_load 26 = .ok (.aload_n 0, 1) := by decide +kernel
theorem dX4_load_27 : decode cX4_load 27 = .ok (.getfield 16, 3) := by decide +kernel
theorem dX4_load_30 : decode cX4_load 30 = .ok (.iconst 0, 1) := by decide +kernel
theorem dX4_load_31 : decode cX4_load 31 = .ok (.aload_n 0, 1) := by decide +kernel
theorem dX4_load_32 : decode cX4_load 32 = .ok (.getfield 13, 3) := by decide +kernel
theorem dX4_load_35 : decode cX4_load 35 = .ok (.iconst 0, 1) := by decide +kernel
theorem dX4_load_36 : decode cX4_load 36 = .ok (.invokestatic 166, 3) := by decide +kernel
theorem dX4_load_39 : decode cX4_load 39 = .ok (.aload_n 0, 1) := by decide +kernel
theorem dX4_load_40 : decode cX4_load 40 = .ok (.iconst 0, 1) := by decide +kernel
theorem dX4_load_41 : decode cX4_load 41 = .ok (.putfield 170, 3) := by decide +kernel
theorem dX4_load_44 : decode cX4_load 44 = .ok (.aload_n 0, 1) := by decide +kernel
theorem dX4_load_45 : decode cX4_load 45 = .ok (.getfield 25, 3) := by decide +kernel
theorem dX4_load_48 : decode cX4_load 48 = .ok (.iconst 0, 1) := by decide +kernel
theorem dX4_load_49 : decode cX4_load 49 = .ok (.iconst 0, 1) := by decide +kernel
theorem dX4_load_50 : decode cX4_load 50 = .ok (.bastore, 1) := by decide +kernel
theorem dX4_load_51 : decode cX4_load 51 = .ok (.aload_n 0, 1) := by decide +kernel
theorem dX4_load_52 : decode cX4_load 52 = .ok (.getfield 25, 3) := by decide +kernel
theorem dX4_load_55 : decode cX4_load 55 = .ok (.iconst 1, 1) := by decide +kernel
theorem dX4_load_56 : decode cX4_load 56 = .ok (.iconst 0, 1) := by decide +kernel
theorem dX4_load_57 : decode cX4_load 57 = .ok (.bastore, 1) := by decide +kernel
theorem dX4_load_58 : decode cX4_load 58 = .ok (.aload_n 0, 1) := by decide +kernel
theorem dX4_load_59 : decode cX4_load 59 = .ok (.getfield 118, 3) := by decide +kernel
theorem dX4_load_62 : decode cX4_load 62 = .ok (.ireturn, 1) := by decide +kernel
theorem dX4_written_0 : decode cX4_written 0 = .ok (.iconst 0, 1) := by decide +kernel
theorem dX4_written_1 : decode cX4_written 1 = .ok (.istore_n 1, 1) := by decide +kernel
theorem dX4_written_2 : decode cX4_written 2 = .ok (.iconst 0, 1) := by decide +kernel
theorem dX4_written_3 : decode cX4_written 3 = .ok (.istore_n 2, 1) := by decide +kernel
theorem dX4_written_4 : decode cX4_written 4 = .ok (.iload_n 2, 1) := by decide +kernel
theorem dX4_written_5 : decode cX4_written 5 = .ok (.aload_n 0, 1) := by decide +kernel
theorem dX4_written_6 : decode cX4_written 6 = .ok (.iconst 0, 1) := by decide +kernel
theorem dX4_written_7 : decode cX4_written 7 = .ok (.iaload, 1) := by decide +kernel
theorem dX4_written_8 : decode cX4_written 8 = .ok (.if_icmp .ge 17, 3) := by decide +kernel
theorem dX4_written_11 : decode cX4_written 11 = .ok (.iload_n 1, 1) := by decide +kernel
theorem dX4_written_12 : decode cX4_written 12 = .ok (.aload_n 0, 1) := by decide +kernel
theorem dX4_written_13 : decode cX4_written 13 = .ok (.iload_n 2, 1) := by decide +kernel
theorem dX4_written_14 : decode cX4_written 14 = .ok (.invokestatic 79, 3) := by decide +kernel
theorem dX4_written_17 : decode cX4_written 17 = .ok (.iadd, 1) := by decide +kernel
theorem dX4_written_18 : decode cX4_written 18 = .ok (.istore_n 1, 1) := by decide +kernel
theorem dX4_written_19 : decode cX4_written 19 = .ok (.iinc 2 1, 3) := by decide +kernel
theorem dX4_written_22 : decode cX4_written 22 = .ok (.goto (-18), 3) := by decide +kernel
theorem dX4_written_25 : decode cX4_written 25 = .ok (.iload_n 1, 1) := by decide +kernel
theorem dX4_written_26 : decode cX4_written 26 = .ok (.ireturn, 1) := by decide +kernel
theorem dX4_about_0 : decode cX4_about 0 = .ok (.aload_n 0, 1) := by decide +kernel
theorem dX4_about_1 : decode cX4_about 1 = .ok (.iload_n 1, 1) := by decide +kernel
theorem dX4_about_2 : decode cX4_about 2 = .ok (.i2l, 1) := by decide +kernel
theorem dX4_about_3 : decode cX4_about 3 = .ok (.lconst 0, 1) := by decide +kernel
theorem dX4_about_4 : decode cX4_about 4 = .ok (.ldc2_w 173, 3) := by decide +kernel
theorem dX4_about_7 : decode cX4_about 7 = .ok (.invokestatic 39, 3) := by decide +kernel
theorem dX4_about_10 : decode cX4_about 10 = .ok (.ifCond .eq 7, 3) := by decide +kernel
theorem dX4_about_13 : decode cX4_about 13 = .ok (.iconst 0, 1) := by decide +kernel
theorem dX4_about_14 : decode cX4_about 14 = .ok (.goto 4, 3) := by decide +kernel
theorem dX4_about_17 : decode cX4_about 17 = .ok (.iconst 1, 1) := by decide +kernel
theorem dX4_about_18 : decode cX4_about 18 = .ok (.invokevirtual 109, 3) := by decide +kernel
theorem dX4_about_21 : decode cX4_about 21 = .ok (.ifCond .eq 5, 3) := by decide +kernel
theorem dX4_about_24 : decode cX4_about 24 = .ok (.iconst 0, 1) := by decide +kernel
theorem dX4_about_25 : decode cX4_about 25 = .ok (.ireturn, 1) := by decide +kernel
theorem dX4_about_26 : decode cX4_about 26 = .ok (.iconst 0, 1) := by decide +kernel
theorem dX4_about_27 : decode cX4_about 27 = .ok (.istore_n 2, 1) := by decide +kernel
theorem dX4_about_28 : decode cX4_about 28 = .ok (.iconst 0, 1) := by decide +kernel
theorem dX4_about_29 : decode cX4_about 29 = .ok (.istore_n 3, 1) := by decide +kernel
theorem dX4_about_30 : decode cX4_about 30 = .ok (.iload_n 3, 1) := by decide +kernel
theorem dX4_about_31 : decode cX4_about 31 = .ok (.aload_n 0, 1) := by decide +kernel
theorem dX4_about_32 : decode cX4_about 32 = .ok (.getfield 13, 3) := by decide +kernel
theorem dX4_about_35 : decode cX4_about 35 = .ok (.iconst 0, 1) := by decide +kernel
theorem dX4_about_36 : decode cX4_about 36 = .ok (.iaload, 1) := by decide +kernel
theorem dX4_about_37 : decode cX4_about 37 = .ok (.if_icmp .ge 20, 3) := by decide +kernel
theorem dX4_about_40 : decode cX4_about 40 = .ok (.iload_n 2, 1) := by decide +kernel
theorem dX4_about_41 : decode cX4_about 41 = .ok (.aload_n 0, 1) := by decide +kernel
theorem dX4_about_42 : decode cX4_about 42 = .ok (.getfield 13, 3) := by decide +kernel
theorem dX4_about_45 : decode cX4_about 45 = .ok (.iload_n 3, 1) := by decide +kernel
theorem dX4_about_46 : decode cX4_about 46 = .ok (.invokestatic 57, 3) := by decide +kernel
theorem dX4_about_49 : decode cX4_about 49 = .ok (.iadd, 1) := by decide +kernel
theorem dX4_about_50 : decode cX4_about 50 = .ok (.istore_n 2, 1) := by decide +kernel
theorem dX4_about_51 : decode cX4_about 51 = .ok (.iinc 3 1, 3) := by decide +kernel
theorem dX4_about_54 : decode cX4_about 54 = .ok (.goto (-24), 3) := by decide +kernel
theorem dX4_about_57 : decode cX4_about 57 = .ok (.iload_n 1, 1) := by decide +kernel
theorem dX4_about_58 : decode cX4_about 58 = .ok (.tableswitch 82 0 5 #[38, 45, 53, 65, 73, 75], 38) := by decide +kernel
theorem dX4_about_96 : decode cX4_about 96 = .ok (.aload_n 0, 1) := by decide +kernel
theorem dX4_about_97 : decode cX4_about 97 = .ok (.getfield 13, 3) := by decide +kernel
theorem dX4_about_100 : decode cX4_about 100 = .ok (.iconst 0, 1) := by decide +kernel
theorem dX4_about_101 : decode cX4_about 101 = .ok (.iaload, 1) := by decide +kernel
theorem dX4_about_102 : decode cX4_about 102 = .ok (.ireturn, 1) := by decide +kernel
theorem dX4_about_103 : decode cX4_about 103 = .ok (.aload_n 0, 1) := by decide +kernel
theorem dX4_about_104 : decode cX4_about 104 = .ok (.getfield 13, 3) := by decide +kernel
theorem dX4_about_107 : decode cX4_about 107 = .ok (.invokestatic 175, 3) := by decide +kernel
theorem dX4_about_110 : decode cX4_about 110 = .ok (.ireturn, 1) := by decide +kernel
theorem dX4_about_111 : decode cX4_about 111 = .ok (.bipush 60, 2) := by decide +kernel
theorem dX4_about_113 : decode cX4_about 113 = .ok (.aload_n 0, 1) := by decide +kernel
theorem dX4_about_114 : decode cX4_about 114 = .ok (.getfield 13, 3) := by decide +kernel
theorem dX4_about_117 : decode cX4_about 117 = .ok (.iconst 0, 1) := by decide +kernel
theorem dX4_about_118 : decode cX4_about 118 = .ok (.invokestatic 53, 3) := by decide +kernel
theorem dX4_about_121 : decode cX4_about 121 = .ok (.isub, 1) := by decide +kernel
theorem dX4_about_122 : decode cX4_about 122 = .ok (.ireturn, 1) := by decide +kernel
theorem dX4_about_123 : decode cX4_about 123 = .ok (.aload_n 0, 1) := by decide +kernel
theorem dX4_about_124 : decode cX4_about 124 = .ok (.getfield 13, 3) := by decide +kernel
theorem dX4_about_127 : decode cX4_about 127 = .ok (.invokestatic 72, 3) := by decide +kernel
theorem dX4_about_130 : decode cX4_about 130 = .ok (.ireturn, 1) := by decide +kernel
theorem dX4_about_131 : decode cX4_about 131 = .ok (.iload_n 2, 1) := by decide +kernel
theorem dX4_about_132 : decode cX4_about 132 = .ok (.ireturn, 1) := by decide +kernel
theorem dX4_about_133 : decode cX4_about 133 = .ok (.aload_n 0, 1) := by decide +kernel
theorem dX4_about_134 : decode cX4_about 134 = .ok (.getfield 13, 3) := by decide +kernel
theorem dX4_about_137 : decode cX4_about 137 = .ok (.iconst 1, 1) := by decide +kernel
theorem dX4_about_138 : decode cX4_about 138 = .ok (.iaload, 1) := by decide +kernel
theorem dX4_about_139 : decode cX4_about 139 = .ok (.ireturn, 1) := by decide +kernel
theorem dX4_about_140 : decode cX4_about 140 = .ok (.aload_n 0, 1) := by decide +kernel
theorem dX4_about_141 : decode cX4_about 141 = .ok (.getfield 13, 3) := by decide +kernel
theorem dX4_about_144 : decode cX4_about 144 = .ok (.iconst 4, 1) := by decide +kernel
theorem dX4_about_145 : decode cX4_about 145 = .ok (.iload_n 1, 1) := by decide +kernel
theorem dX4_about_146 : decode cX4_about 146 = .ok (.iadd, 1) := by decide +kernel
theorem dX4_about_147 : decode cX4_about 147 = .ok (.bipush 6, 2) := by decide +kernel
theorem dX4_about_149 : decode cX4_about 149 = .ok (.isub, 1) := by decide +kernel
theorem dX4_about_150 : decode cX4_about 150 = .ok (.invokestatic 53, 3) := by decide +kernel
theorem dX4_about_153 : decode cX4_about 153 = .ok (.ireturn, 1) := by decide +kernel
theorem dX4_space_0 : decode cX4_space 0 = .ok (.aload_n 0, 1) := by decide +kernel
theorem dX4_space_1 : decode cX4_space 1 = .ok (.aload_n 0, 1) := by decide +kernel
theorem dX4_space_2 : decode cX4_space 2 = .ok (.getfield 13, 3) := by decide +kernel
theorem dX4_space_5 : decode cX4_space 5 = .ok (.iload_n 1, 1) := by decide +kernel
theorem dX4_space_6 : decode cX4_space 6 = .ok (.invokestatic 94, 3) := by decide +kernel
theorem dX4_space_9 : decode cX4_space 9 = .ok (.ifCond .ne 7, 3) := by decide +kernel
theorem dX4_space_12 : decode cX4_space 12 = .ok (.iconst 1, 1) := by decide +kernel
theorem dX4_space_13 : decode cX4_space 13 = .ok (.goto 20, 3) := by decide +kernel
theorem dX4_space_16 : decode cX4_space 16 = .ok (.iload_n 2, 1) := by decide +kernel
theorem dX4_space_17 : decode cX4_space 17 = .ok (.i2l, 1) := by decide +kernel
theorem dX4_space_18 : decode cX4_space 18 = .ok (.lconst 0, 1) := by decide +kernel
theorem dX4_space_19 : decode cX4_space 19 = .ok (.ldc2_w 178, 3) := by decide +kernel
theorem dX4_space_22 : decode cX4_space 22 = .ok (.invokestatic 39, 3) := by decide +kernel
theorem dX4_space_25 : decode cX4_space 25 = .ok (.ifCond .eq 7, 3) := by decide +kernel
theorem dX4_space_28 : decode cX4_space 28 = .ok (.iconst 0, 1) := by decide +kernel
theorem dX4_space_29 : decode cX4_space 29 = .ok (.goto 4, 3) := by decide +kernel
theorem dX4_space_32 : decode cX4_space 32 = .ok (.iconst 2, 1) := by decide +kernel
theorem dX4_space_33 : decode cX4_space 33 = .ok (.invokevirtual 109, 3) := by decide +kernel
theorem dX4_space_36 : decode cX4_space 36 = .ok (.ifCond .eq 5, 3) := by decide +kernel
theorem dX4_space_39 : decode cX4_space 39 = .ok (.iconst 0, 1) := by decide +kernel
theorem dX4_space_40 : decode cX4_space 40 = .ok (.ireturn, 1) := by decide +kernel
theorem dX4_space_41 : decode cX4_space 41 = .ok (.iload_n 2, 1) := by decide +kernel
theorem dX4_space_42 : decode cX4_space 42 = .ok (.tableswitch 104 0 7 #[46, 46, 56, 65, 65, 77, 86, 95], 46) := by decide +kernel
theorem dX4_space_88 : decode cX4_space 88 = .ok (.aload_n 0, 1) := by decide +kernel
theorem dX4_space_89 : decode cX4_space 89 = .ok (.getfield 13, 3) := by decide +kernel
theorem dX4_space_92 : decode cX4_space 92 = .ok (.iload_n 1, 1) := by decide +kernel
theorem dX4_space_93 : decode cX4_space 93 = .ok (.iload_n 2, 1) := by decide +kernel
theorem dX4_space_94 : decode cX4_space 94 = .ok (.invokestatic 49, 3) := by decide +kernel
theorem dX4_space_97 : decode cX4_space 97 = .ok (.ireturn, 1) := by decide +kernel
theorem dX4_space_98 : decode cX4_space 98 = .ok (.aload_n 0, 1) := by decide +kernel
theorem dX4_space_99 : decode cX4_space 99 = .ok (.getfield 13, 3) := by decide +kernel
theorem dX4_space_102 : decode cX4_space 102 = .ok (.iload_n 1, 1) := by decide +kernel
theorem dX4_space_103 : decode cX4_space 103 = .ok (.invokestatic 79, 3) := by decide +kernel
theorem dX4_space_106 : decode cX4_space 106 = .ok (.ireturn, 1) := by decide +kernel
theorem dX4_space_107 : decode cX4_space 107 = .ok (.aload_n 0, 1) := by decide +kernel
theorem dX4_space_108 : decode cX4_space 108 = .ok (.getfield 13, 3) := by decide +kernel
theorem dX4_space_111 : decode cX4_space 111 = .ok (.iload_n 1, 1) := by decide +kernel
theorem dX4_space_112 : decode cX4_space 112 = .ok (.iload_n 2, 1) := by decide +kernel
theorem dX4_space_113 : decode cX4_space 113 = .ok (.iconst 1, 1) := by decide +kernel
theorem dX4_space_114 : decode cX4_space 114 = .ok (.isub, 1) := by decide +kernel
theorem dX4_space_115 : decode cX4_space 115 = .ok (.invokestatic 49, 3) := by decide +kernel
theorem dX4_space_118 : decode cX4_space 118 = .ok (.ireturn, 1) := by decide +kernel
theorem dX4_space_119 : decode cX4_space 119 = .ok (.aload_n 0, 1) := by decide +kernel
theorem dX4_space_120 : decode cX4_space 120 = .ok (.getfield 13, 3) := by decide +kernel
theorem dX4_space_123 : decode cX4_space 123 = .ok (.iload_n 1, 1) := by decide +kernel
theorem dX4_space_124 : decode cX4_space 124 = .ok (.invokestatic 57, 3) := by decide +kernel
theorem dX4_space_127 : decode cX4_space 127 = .ok (.ireturn, 1) := by decide +kernel
theorem dX4_space_128 : decode cX4_space 128 = .ok (.aload_n 0, 1) := by decide +kernel
theorem dX4_space_129 : decode cX4_space 129 = .ok (.getfield 13, 3) := by decide +kernel
theorem dX4_space_132 : decode cX4_space 132 = .ok (.iload_n 1, 1) := by decide +kernel
theorem dX4_space_133 : decode cX4_space 133 = .ok (.invokestatic 60, 3) := by decide +kernel
theorem dX4_space_136 : decode cX4_space 136 = .ok (.ireturn, 1) := by decide +kernel
theorem dX4_space_137 : decode cX4_space 137 = .ok (.aload_n 0, 1) := by decide +kernel
theorem dX4_space_138 : decode cX4_space 138 = .ok (.getfield 13, 3) := by decide +kernel
theorem dX4_space_141 : decode cX4_space 141 = .ok (.iload_n 1, 1) := by decide +kernel
theorem dX4_space_142 : decode cX4_space 142 = .ok (.invokestatic 63, 3) := by decide +kernel
theorem dX4_space_145 : decode cX4_space 145 = .ok (.ireturn, 1) := by decide +kernel
theorem dX4_space_146 : decode cX4_space 146 = .ok (.aload_n 0, 1) := by decide +kernel
theorem dX4_space_147 : decode cX4_space 147 = .ok (.getfield 13, 3) := by decide +kernel
theorem dX4_space_150 : decode cX4_space 150 = .ok (.iload_n 1, 1) := by decide +kernel
theorem dX4_space_151 : decode cX4_space 151 = .ok (.iload_n 2, 1) := by decide +kernel
theorem dX4_space_152 : decode cX4_space 152 = .ok (.iconst 4, 1) := by decide +kernel
theorem dX4_space_153 : decode cX4_space 153 = .ok (.isub, 1) := by decide +kernel
theorem dX4_space_154 : decode cX4_space 154 = .ok (.invokestatic 49, 3) := by decide +kernel
theorem dX4_space_157 : decode cX4_space 157 = .ok (.ireturn, 1) := by decide +kernel
theorem dX4_loans_0 : decode cX4_loans 0 = .ok (.aload_n 0, 1) := by decide +kernel
theorem dX4_loans_1 : decode cX4_loans 1 = .ok (.aload_n 0, 1) := by decide +kernel
theorem dX4_loans_2 : decode cX4_loans 2 = .ok (.getfield 13, 3) := by decide +kernel
theorem dX4_loans_5 : decode cX4_loans 5 = .ok (.iload_n 1, 1) := by decide +kernel
theorem dX4_loans_6 : decode cX4_loans 6 = .ok (.invokestatic 94, 3) := by decide +kernel
theorem dX4_loans_9 : decode cX4_loans 9 = .ok (.ifCond .eq 18, 3) := by decide +kernel
theorem dX4_loans_12 : decode cX4_loans 12 = .ok (.aload_n 0, 1) := by decide +kernel
theorem dX4_loans_13 : decode cX4_loans 13 = .ok (.getfield 13, 3) := by decide +kernel
theorem dX4_loans_16 : decode cX4_loans 16 = .ok (.iload_n 2, 1) := by decide +kernel
theorem dX4_loans_17 : decode cX4_loans 17 = .ok (.invokestatic 94, 3) := by decide +kernel
theorem dX4_loans_20 : decode cX4_loans 20 = .ok (.ifCond .eq 7, 3) := by decide +kernel
theorem dX4_loans_23 : decode cX4_loans 23 = .ok (.iconst 0, 1) := by decide +kernel
theorem dX4_loans_24 : decode cX4_loans 24 = .ok (.goto 4, 3) := by decide +kernel
theorem dX4_loans_27 : decode cX4_loans 27 = .ok (.iconst 1, 1) := by decide +kernel
theorem dX4_loans_28 : decode cX4_loans 28 = .ok (.invokevirtual 109, 3) := by decide +kernel
theorem dX4_loans_31 : decode cX4_loans 31 = .ok (.ifCond .eq 5, 3) := by decide +kernel
theorem dX4_loans_34 : decode cX4_loans 34 = .ok (.iconst 0, 1) := by decide +kernel
theorem dX4_loans_35 : decode cX4_loans 35 = .ok (.ireturn, 1) := by decide +kernel
theorem dX4_loans_36 : decode cX4_loans 36 = .ok (.aload_n 0, 1) := by decide +kernel
theorem dX4_loans_37 : decode cX4_loans 37 = .ok (.getfield 13, 3) := by decide +kernel
theorem dX4_loans_40 : decode cX4_loans 40 = .ok (.iload_n 1, 1) := by decide +kernel
theorem dX4_loans_41 : decode cX4_loans 41 = .ok (.bipush 7, 2) := by decide +kernel
theorem dX4_loans_43 : decode cX4_loans 43 = .ok (.iload_n 2, 1) := by decide +kernel
theorem dX4_loans_44 : decode cX4_loans 44 = .ok (.iadd, 1) := by decide +kernel
theorem dX4_loans_45 : decode cX4_loans 45 = .ok (.invokestatic 49, 3) := by decide +kernel
theorem dX4_loans_48 : decode cX4_loans 48 = .ok (.ireturn, 1) := by decide +kernel
theorem dX4_time_0 : decode cX4_time 0 = .ok (.aload_n 0, 1) := by decide +kernel
theorem dX4_time_1 : decode cX4_time 1 = .ok (.aload_n 0, 1) := by decide +kernel
theorem dX4_time_2 : decode cX4_time 2 = .ok (.getfield 13, 3) := by decide +kernel
theorem dX4_time_5 : decode cX4_time 5 = .ok (.iload_n 1, 1) := by decide +kernel
theorem dX4_time_6 : decode cX4_time 6 = .ok (.invokestatic 94, 3) := by decide +kernel
theorem dX4_time_9 : decode cX4_time 9 = .ok (.ifCond .eq 14, 3) := by decide +kernel
theorem dX4_time_12 : decode cX4_time 12 = .ok (.iload_n 2, 1) := by decide +kernel
theorem dX4_time_13 : decode cX4_time 13 = .ok (.invokestatic 180, 3) := by decide +kernel
theorem dX4_time_16 : decode cX4_time 16 = .ok (.ifCond .eq 7, 3) := by decide +kernel
theorem dX4_time_19 : decode cX4_time 19 = .ok (.iconst 0, 1) := by decide +kernel
theorem dX4_time_20 : decode cX4_time 20 = .ok (.goto 4, 3) := by decide +kernel
theorem dX4_time_23 : decode cX4_time 23 = .ok (.iconst 1, 1) := by decide +kernel
theorem dX4_time_24 : decode cX4_time 24 = .ok (.invokevirtual 109, 3) := by decide +kernel
theorem dX4_time_27 : decode cX4_time 27 = .ok (.ifCond .eq 5, 3) := by decide +kernel
theorem dX4_time_30 : decode cX4_time 30 = .ok (.iconst 0, 1) := by decide +kernel
theorem dX4_time_31 : decode cX4_time 31 = .ok (.ireturn, 1) := by decide +kernel
theorem dX4_time_32 : decode cX4_time 32 = .ok (.aload_n 0, 1) := by decide +kernel
theorem dX4_time_33 : decode cX4_time 33 = .ok (.getfield 13, 3) := by decide +kernel
theorem dX4_time_36 : decode cX4_time 36 = .ok (.iload_n 1, 1) := by decide +kernel
theorem dX4_time_37 : decode cX4_time 37 = .ok (.bipush 12, 2) := by decide +kernel
theorem dX4_time_39 : decode cX4_time 39 = .ok (.iload_n 2, 1) := by decide +kernel
theorem dX4_time_40 : decode cX4_time 40 = .ok (.iadd, 1) := by decide +kernel
theorem dX4_time_41 : decode cX4_time 41 = .ok (.invokestatic 49, 3) := by decide +kernel
theorem dX4_time_44 : decode cX4_time 44 = .ok (.istore_n 3, 1) := by decide +kernel
theorem dX4_time_45 : decode cX4_time 45 = .ok (.iload_n 3, 1) := by decide +kernel
theorem dX4_time_46 : decode cX4_time 46 = .ok (.ifCond .ne 7, 3) := by decide +kernel
theorem dX4_time_49 : decode cX4_time 49 = .ok (.iconst (-1), 1) := by decide +kernel
theorem dX4_time_50 : decode cX4_time 50 = .ok (.goto 4, 3) := by decide +kernel
theorem dX4_time_53 : decode cX4_time 53 = .ok (.iload_n 3, 1) := by decide +kernel
theorem dX4_time_54 : decode cX4_time 54 = .ok (.ireturn, 1) := by decide +kernel
theorem dX4_oldest_0 : decode cX4_oldest 0 = .ok (.aload_n 0, 1) := by decide +kernel
theorem dX4_oldest_1 : decode cX4_oldest 1 = .ok (.aload_n 0, 1) := by decide +kernel
theorem dX4_oldest_2 : decode cX4_oldest 2 = .ok (.getfield 13, 3) := by decide +kernel
theorem dX4_oldest_5 : decode cX4_oldest 5 = .ok (.iload_n 1, 1) := by decide +kernel
theorem dX4_oldest_6 : decode cX4_oldest 6 = .ok (.invokestatic 94, 3) := by decide +kernel
theorem dX4_oldest_9 : decode cX4_oldest 9 = .ok (.ifCond .ne 7, 3) := by decide +kernel
theorem dX4_oldest_12 : decode cX4_oldest 12 = .ok (.iconst 1, 1) := by decide +kernel
theorem dX4_oldest_13 : decode cX4_oldest 13 = .ok (.goto 12, 3) := by decide +kernel
theorem dX4_oldest_16 : decode cX4_oldest 16 = .ok (.iload_n 2, 1) := by decide +kernel
theorem dX4_oldest_17 : decode cX4_oldest 17 = .ok (.ifCond .lt 7, 3) := by decide +kernel
theorem dX4_oldest_20 : decode cX4_oldest 20 = .ok (.iconst 0, 1) := by decide +kernel
theorem dX4_oldest_21 : decode cX4_oldest 21 = .ok (.goto 4, 3) := by decide +kernel
theorem dX4_oldest_24 : decode cX4_oldest 24 = .ok (.iconst 2, 1) := by decide +kernel
theorem dX4_oldest_25 : decode cX4_oldest 25 = .ok (.invokevirtual 109, 3) := by decide +kernel
theorem dX4_oldest_28 : decode cX4_oldest 28 = .ok (.ifCond .eq 5, 3) := by decide +kernel
theorem dX4_oldest_31 : decode cX4_oldest 31 = .ok (.iconst 0, 1) := by decide +kernel
theorem dX4_oldest_32 : decode cX4_oldest 32 = .ok (.ireturn, 1) := by decide +kernel
theorem dX4_oldest_33 : decode cX4_oldest 33 = .ok (.iconst 0, 1) := by decide +kernel
theorem dX4_oldest_34 : decode cX4_oldest 34 = .ok (.istore_n 3, 1) := by decide +kernel
theorem dX4_oldest_35 : decode cX4_oldest 35 = .ok (.iload_n 3, 1) := by decide +kernel
theorem dX4_oldest_36 : decode cX4_oldest 36 = .ok (.bipush 40, 2) := by decide +kernel
theorem dX4_oldest_38 : decode cX4_oldest 38 = .ok (.if_icmp .ge 99, 3) := by decide +kernel
theorem dX4_oldest_41 : decode cX4_oldest 41 = .ok (.aload_n 0, 1) := by decide +kernel
theorem dX4_oldest_42 : decode cX4_oldest 42 = .ok (.getfield 13, 3) := by decide +kernel
theorem dX4_oldest_45 : decode cX4_oldest 45 = .ok (.iload_n 1, 1) := by decide +kernel
theorem dX4_oldest_46 : decode cX4_oldest 46 = .ok (.bipush 12, 2) := by decide +kernel
theorem dX4_oldest_48 : decode cX4_oldest 48 = .ok (.iload_n 3, 1) := by decide +kernel
theorem dX4_oldest_49 : decode cX4_oldest 49 = .ok (.iadd, 1) := by decide +kernel
theorem dX4_oldest_50 : decode cX4_oldest 50 = .ok (.invokestatic 49, 3) := by decide +kernel
theorem dX4_oldest_53 : decode cX4_oldest 53 = .ok (.istore 4, 2) := by decide +kernel
theorem dX4_oldest_55 : decode cX4_oldest 55 = .ok (.iconst 0, 1) := by decide +kernel
theorem dX4_oldest_56 : decode cX4_oldest 56 = .ok (.istore 5, 2) := by decide +kernel
theorem dX4_oldest_58 : decode cX4_oldest 58 = .ok (.iconst 0, 1) := by decide +kernel
theorem dX4_oldest_59 : decode cX4_oldest 59 = .ok (.istore 6, 2) := by decide +kernel
theorem dX4_oldest_61 : decode cX4_oldest 61 = .ok (.iload 6, 2) := by decide +kernel
theorem dX4_oldest_63 : decode cX4_oldest 63 = .ok (.bipush 40, 2) := by decide +kernel
theorem dX4_oldest_65 : decode cX4_oldest 65 = .ok (.if_icmp .ge 53, 3) := by decide +kernel
theorem dX4_oldest_68 : decode cX4_oldest 68 = .ok (.iload 5, 2) := by decide +kernel
theorem dX4_oldest_70 : decode cX4_oldest 70 = .ok (.aload_n 0, 1) := by decide +kernel
theorem dX4_oldest_71 : decode cX4_oldest 71 = .ok (.getfield 13, 3) := by decide +kernel
theorem dX4_oldest_74 : decode cX4_oldest 74 = .ok (.iload_n 1, 1) := by decide +kernel
theorem dX4_oldest_75 : decode cX4_oldest 75 = .ok (.bipush 12, 2) := by decide +kernel
theorem dX4_oldest_77 : decode cX4_oldest 77 = .ok (.iload 6, 2) := by decide +kernel
theorem dX4_oldest_79 : decode cX4_oldest 79 = .ok (.iadd, 1) := by decide +kernel
theorem dX4_oldest_80 : decode cX4_oldest 80 = .ok (.invokestatic 49, 3) := by decide +kernel
theorem dX4_oldest_83 : decode cX4_oldest 83 = .ok (.ifCond .le 25, 3) := by decide +kernel
theorem dX4_oldest_86 : decode cX4_oldest 86 = .ok (.aload_n 0, 1) := by decide +kernel
theorem dX4_oldest_87 : decode cX4_oldest 87 = .ok (.getfield 13, 3) := by decide +kernel
theorem dX4_oldest_90 : decode cX4_oldest 90 = .ok (.iload_n 1, 1) := by decide +kernel
theorem dX4_oldest_91 : decode cX4_oldest 91 = .ok (.bipush 12, 2) := by decide +kernel
theorem dX4_oldest_93 : decode cX4_oldest 93 = .ok (.iload 6, 2) := by decide +kernel
theorem dX4_oldest_95 : decode cX4_oldest 95 = .ok (.iadd, 1) := by decide +kernel
theorem dX4_oldest_96 : decode cX4_oldest 96 = .ok (.invokestatic 49, 3) := by decide +kernel
theorem dX4_oldest_99 : decode cX4_oldest 99 = .ok (.iload 4, 2) := by decide +kernel
theorem dX4_oldest_101 : decode cX4_oldest 101 = .ok (.if_icmp .ge 7, 3) := by decide +kernel
theorem dX4_oldest_104 : decode cX4_oldest 104 = .ok (.iconst 1, 1) := by decide +kernel
theorem dX4_oldest_105 : decode cX4_oldest 105 = .ok (.goto 4, 3) := by decide +kernel
theorem dX4_oldest_108 : decode cX4_oldest 108 = .ok (.iconst 0, 1) := by decide +kernel
theorem dX4_oldest_109 : decode cX4_oldest 109 = .ok (.iadd, 1) := by decide +kernel
theorem dX4_oldest_110 : decode cX4_oldest 110 = .ok (.istore 5, 2) := by decide +kernel
theorem dX4_oldest_112 : decode cX4_oldest 112 = .ok (.iinc 6 1, 3) := by decide +kernel
theorem dX4_oldest_115 : decode cX4_oldest 115 = .ok (.goto (-54), 3) := by decide +kernel
theorem dX4_oldest_118 : decode cX4_oldest 118 = .ok (.iload 4, 2) := by decide +kernel
theorem dX4_oldest_120 : decode cX4_oldest 120 = .ok (.ifCond .le 11, 3) := by decide +kernel
theorem dX4_oldest_123 : decode cX4_oldest 123 = .ok (.iload 5, 2) := by decide +kernel
theorem dX4_oldest_125 : decode cX4_oldest 125 = .ok (.iload_n 2, 1) := by decide +kernel
theorem dX4_oldest_126 : decode cX4_oldest 126 = .ok (.if_icmp .ne 5, 3) := by decide +kernel
theorem dX4_oldest_129 : decode cX4_oldest 129 = .ok (.iload_n 3, 1) := by decide +kernel
theorem dX4_oldest_130 : decode cX4_oldest 130 = .ok (.ireturn, 1) := by decide +kernel
theorem dX4_oldest_131 : decode cX4_oldest 131 = .ok (.iinc 3 1, 3) := by decide +kernel
theorem dX4_oldest_134 : decode cX4_oldest 134 = .ok (.goto (-99), 3) := by decide +kernel
theorem dX4_oldest_137 : decode cX4_oldest 137 = .ok (.iconst (-1), 1) := by decide +kernel
theorem dX4_oldest_138 : decode cX4_oldest 138 = .ok (.ireturn, 1) := by decide +kernel
theorem dX4_remember_0 : decode cX4_remember 0 = .ok (.aload_n 0, 1) := by decide +kernel
theorem dX4_remember_1 : decode cX4_remember 1 = .ok (.getfield 170, 3) := by decide +kernel
theorem dX4_remember_4 : decode cX4_remember 4 = .ok (.bipush 14, 2) := by decide +kernel
theorem dX4_remember_6 : decode cX4_remember 6 = .ok (.if_icmp .ne 44, 3) := by decide +kernel
theorem dX4_remember_9 : decode cX4_remember 9 = .ok (.iconst 0, 1) := by decide +kernel
theorem dX4_remember_10 : decode cX4_remember 10 = .ok (.istore_n 1, 1) := by decide +kernel
theorem dX4_remember_11 : decode cX4_remember 11 = .ok (.iload_n 1, 1) := by decide +kernel
theorem dX4_remember_12 : decode cX4_remember 12 = .ok (.sipush 3406, 3) := by decide +kernel
theorem dX4_remember_15 : decode cX4_remember 15 = .ok (.if_icmp .ge 25, 3) := by decide +kernel
theorem dX4_remember_18 : decode cX4_remember 18 = .ok (.aload_n 0, 1) := by decide +kernel
theorem dX4_remember_19 : decode cX4_remember 19 = .ok (.getfield 19, 3) := by decide +kernel
theorem dX4_remember_22 : decode cX4_remember 22 = .ok (.iload_n 1, 1) := by decide +kernel
theorem dX4_remember_23 : decode cX4_remember 23 = .ok (.aload_n 0, 1) := by decide +kernel
theorem dX4_remember_24 : decode cX4_remember 24 = .ok (.getfield 19, 3) := by decide +kernel
theorem dX4_remember_27 : decode cX4_remember 27 = .ok (.iload_n 1, 1) := by decide +kernel
theorem dX4_remember_28 : decode cX4_remember 28 = .ok (.sipush 262, 3) := by decide +kernel
theorem dX4_remember_31 : decode cX4_remember 31 = .ok (.iadd, 1) := by decide +kernel
theorem dX4_remember_32 : decode cX4_remember 32 = .ok (.iaload, 1) := by decide +kernel
theorem dX4_remember_33 : decode cX4_remember 33 = .ok (.iastore, 1) := by decide +kernel
theorem dX4_remember_34 : decode cX4_remember 34 = .ok (.iinc 1 1, 3) := by decide +kernel
theorem dX4_remember_37 : decode cX4_remember 37 = .ok (.goto (-26), 3) := by decide +kernel
theorem dX4_remember_40 : decode cX4_remember 40 = .ok (.aload_n 0, 1) := by decide +kernel
theorem dX4_remember_41 : decode cX4_remember 41 = .ok (.dup, 1) := by decide +kernel
theorem dX4_remember_42 : decode cX4_remember 42 = .ok (.getfield 170, 3) := by decide +kernel
theorem dX4_remember_45 : decode cX4_remember 45 = .ok (.iconst 1, 1) := by decide +kernel
theorem dX4_remember_46 : decode cX4_remember 46 = .ok (.isub, 1) := by decide +kernel
theorem dX4_remember_47 : decode cX4_remember 47 = .ok (.putfield 170, 3) := by decide +kernel
theorem dX4_remember_50 : decode cX4_remember 50 = .ok (.aload_n 0, 1) := by decide +kernel
theorem dX4_remember_51 : decode cX4_remember 51 = .ok (.getfield 13, 3) := by decide +kernel
theorem dX4_remember_54 : decode cX4_remember 54 = .ok (.iconst 0, 1) := by decide +kernel
theorem dX4_remember_55 : decode cX4_remember 55 = .ok (.aload_n 0, 1) := by decide +kernel
theorem dX4_remember_56 : decode cX4_remember 56 = .ok (.getfield 19, 3) := by decide +kernel
theorem dX4_remember_59 : decode cX4_remember 59 = .ok (.sipush 262, 3) := by decide +kernel
theorem dX4_remember_62 : decode cX4_remember 62 = .ok (.aload_n 0, 1) := by decide +kernel
theorem dX4_remember_63 : decode cX4_remember 63 = .ok (.getfield 170, 3) := by decide +kernel
theorem dX4_remember_66 : decode cX4_remember 66 = .ok (.imul, 1) := by decide +kernel
theorem dX4_remember_67 : decode cX4_remember 67 = .ok (.invokestatic 166, 3) := by decide +kernel
theorem dX4_remember_70 : decode cX4_remember 70 = .ok (.aload_n 0, 1) := by decide +kernel
theorem dX4_remember_71 : decode cX4_remember 71 = .ok (.dup, 1) := by decide +kernel
theorem dX4_remember_72 : decode cX4_remember 72 = .ok (.getfield 170, 3) := by decide +kernel
theorem dX4_remember_75 : decode cX4_remember 75 = .ok (.iconst 1, 1) := by decide +kernel
theorem dX4_remember_76 : decode cX4_remember 76 = .ok (.iadd, 1) := by decide +kernel
theorem dX4_remember_77 : decode cX4_remember 77 = .ok (.putfield 170, 3) := by decide +kernel
theorem dX4_remember_80 : decode cX4_remember 80 = .ok (.return_, 1) := by decide +kernel
theorem dX4_make_0 : decode cX4_make 0 = .ok (.aload_n 0, 1) := by decide +kernel
theorem dX4_make_1 : decode cX4_make 1 = .ok (.aload_n 0, 1) := by decide +kernel
theorem dX4_make_2 : decode cX4_make 2 = .ok (.getfield 13, 3) := by decide +kernel
theorem dX4_make_5 : decode cX4_make 5 = .ok (.iload_n 1, 1) := by decide +kernel
theorem dX4_make_6 : decode cX4_make 6 = .ok (.iload_n 2, 1) := by decide +kernel
theorem dX4_make_7 : decode cX4_make 7 = .ok (.invokestatic 135, 3) := by decide +kernel
theorem dX4_make_10 : decode cX4_make 10 = .ok (.invokevirtual 109, 3) := by decide +kernel
theorem dX4_make_13 : decode cX4_make 13 = .ok (.ifCond .eq 5, 3) := by decide +kernel
theorem dX4_make_16 : decode cX4_make 16 = .ok (.iconst 0, 1) := by decide +kernel
theorem dX4_make_17 : decode cX4_make 17 = .ok (.ireturn, 1) := by decide +kernel
theorem dX4_make_18 : decode cX4_make 18 = .ok (.aload_n 0, 1) := by decide +kernel
theorem dX4_make_19 : decode cX4_make 19 = .ok (.invokevirtual 183, 3) := by decide +kernel
theorem dX4_make_22 : decode cX4_make 22 = .ok (.aload_n 0, 1) := by decide +kernel
theorem dX4_make_23 : decode cX4_make 23 = .ok (.getfield 13, 3) := by decide +kernel
theorem dX4_make_26 : decode cX4_make 26 = .ok (.iload_n 1, 1) := by decide +kernel
theorem dX4_make_27 : decode cX4_make 27 = .ok (.iload_n 2, 1) := by decide +kernel
theorem dX4_make_28 : decode cX4_make 28 = .ok (.invokestatic 138, 3) := by decide +kernel
theorem dX4_make_31 : decode cX4_make 31 = .ok (.ireturn, 1) := by decide +kernel
theorem dX4_write_0 : decode cX4_write 0 = .ok (.aload_n 0, 1) := by decide +kernel
theorem dX4_write_1 : decode cX4_write 1 = .ok (.aload_n 0, 1) := by decide +kernel
theorem dX4_write_2 : decode cX4_write 2 = .ok (.getfield 13, 3) := by decide +kernel
theorem dX4_write_5 : decode cX4_write 5 = .ok (.iload_n 1, 1) := by decide +kernel
theorem dX4_write_6 : decode cX4_write 6 = .ok (.invokestatic 94, 3) := by decide +kernel
theorem dX4_write_9 : decode cX4_write 9 = .ok (.ifCond .eq 14, 3) := by decide +kernel
theorem dX4_write_12 : decode cX4_write 12 = .ok (.iload_n 2, 1) := by decide +kernel
theorem dX4_write_13 : decode cX4_write 13 = .ok (.invokestatic 180, 3) := by decide +kernel
theorem dX4_write_16 : decode cX4_write 16 = .ok (.ifCond .eq 7, 3) := by decide +kernel
theorem dX4_write_19 : decode cX4_write 19 = .ok (.iconst 0, 1) := by decide +kernel
theorem dX4_write_20 : decode cX4_write 20 = .ok (.goto 4, 3) := by decide +kernel
theorem dX4_write_23 : decode cX4_write 23 = .ok (.iconst 1, 1) := by decide +kernel
theorem dX4_write_24 : decode cX4_write 24 = .ok (.invokevirtual 109, 3) := by decide +kernel
theorem dX4_write_27 : decode cX4_write 27 = .ok (.ifCond .eq 5, 3) := by decide +kernel
theorem dX4_write_30 : decode cX4_write 30 = .ok (.iconst 0, 1) := by decide +kernel
theorem dX4_write_31 : decode cX4_write 31 = .ok (.ireturn, 1) := by decide +kernel
theorem dX4_write_32 : decode cX4_write 32 = .ok (.aload_n 0, 1) := by decide +kernel
theorem dX4_write_33 : decode cX4_write 33 = .ok (.invokevirtual 183, 3) := by decide +kernel
theorem dX4_write_36 : decode cX4_write 36 = .ok (.aload_n 0, 1) := by decide +kernel
theorem dX4_write_37 : decode cX4_write 37 = .ok (.aload_n 0, 1) := by decide +kernel
theorem dX4_write_38 : decode cX4_write 38 = .ok (.getfield 13, 3) := by decide +kernel
theorem dX4_write_41 : decode cX4_write 41 = .ok (.iload_n 1, 1) := by decide +kernel
theorem dX4_write_42 : decode cX4_write 42 = .ok (.iload_n 2, 1) := by decide +kernel
theorem dX4_write_43 : decode cX4_write 43 = .ok (.invokevirtual 128, 3) := by decide +kernel
theorem dX4_write_46 : decode cX4_write 46 = .ok (.ireturn, 1) := by decide +kernel
theorem dX4_trim_0 : decode cX4_trim 0 = .ok (.aload_n 0, 1) := by decide +kernel
theorem dX4_trim_1 : decode cX4_trim 1 = .ok (.aload_n 0, 1) := by decide +kernel
theorem dX4_trim_2 : decode cX4_trim 2 = .ok (.getfield 13, 3) := by decide +kernel
theorem dX4_trim_5 : decode cX4_trim 5 = .ok (.iload_n 1, 1) := by decide +kernel
theorem dX4_trim_6 : decode cX4_trim 6 = .ok (.invokestatic 94, 3) := by decide +kernel
theorem dX4_trim_9 : decode cX4_trim 9 = .ok (.ifCond .eq 10, 3) := by decide +kernel
theorem dX4_trim_12 : decode cX4_trim 12 = .ok (.iload_n 2, 1) := by decide +kernel
theorem dX4_trim_13 : decode cX4_trim 13 = .ok (.invokestatic 180, 3) := by decide +kernel
theorem dX4_trim_16 : decode cX4_trim 16 = .ok (.ifCond .ne 7, 3) := by decide +kernel
theorem dX4_trim_19 : decode cX4_trim 19 = .ok (.iconst 1, 1) := by decide +kernel
theorem dX4_trim_20 : decode cX4_trim 20 = .ok (.goto 20, 3) := by decide +kernel
theorem dX4_trim_23 : decode cX4_trim 23 = .ok (.aload_n 0, 1) := by decide +kernel
theorem dX4_trim_24 : decode cX4_trim 24 = .ok (.getfield 13, 3) := by decide +kernel
theorem dX4_trim_27 : decode cX4_trim 27 = .ok (.iload_n 1, 1) := by decide +kernel
theorem dX4_trim_28 : decode cX4_trim 28 = .ok (.iload_n 2, 1) := by decide +kernel
theorem dX4_trim_29 : decode cX4_trim 29 = .ok (.invokestatic 145, 3) := by decide +kernel
theorem dX4_trim_32 : decode cX4_trim 32 = .ok (.ifCond .eq 7, 3) := by decide +kernel
theorem dX4_trim_35 : decode cX4_trim 35 = .ok (.iconst 0, 1) := by decide +kernel
theorem dX4_trim_36 : decode cX4_trim 36 = .ok (.goto 4, 3) := by decide +kernel
theorem dX4_trim_39 : decode cX4_trim 39 = .ok (.iconst 2, 1) := by decide +kernel
theorem dX4_trim_40 : decode cX4_trim 40 = .ok (.invokevirtual 109, 3) := by decide +kernel
theorem dX4_trim_43 : decode cX4_trim 43 = .ok (.ifCond .eq 5, 3) := by decide +kernel
theorem dX4_trim_46 : decode cX4_trim 46 = .ok (.iconst 0, 1) := by decide +kernel
theorem dX4_trim_47 : decode cX4_trim 47 = .ok (.ireturn, 1) := by decide +kernel
theorem dX4_trim_48 : decode cX4_trim 48 = .ok (.aload_n 0, 1) := by decide +kernel
theorem dX4_trim_49 : decode cX4_trim 49 = .ok (.invokevirtual 183, 3) := by decide +kernel
theorem dX4_trim_52 : decode cX4_trim 52 = .ok (.aload_n 0, 1) := by decide +kernel
theorem dX4_trim_53 : decode cX4_trim 53 = .ok (.getfield 13, 3) := by decide +kernel
theorem dX4_trim_56 : decode cX4_trim 56 = .ok (.iload_n 1, 1) := by decide +kernel
theorem dX4_trim_57 : decode cX4_trim 57 = .ok (.iload_n 2, 1) := by decide +kernel
theorem dX4_trim_58 : decode cX4_trim 58 = .ok (.invokestatic 149, 3) := by decide +kernel
theorem dX4_trim_61 : decode cX4_trim 61 = .ok (.ireturn, 1) := by decide +kernel
theorem dX4_setFloor_0 : decode cX4_setFloor 0 = .ok (.aload_n 0, 1) := by decide +kernel
theorem dX4_setFloor_1 : decode cX4_setFloor 1 = .ok (.aload_n 0, 1) := by decide +kernel
theorem dX4_setFloor_2 : decode cX4_setFloor 2 = .ok (.getfield 13, 3) := by decide +kernel
theorem dX4_setFloor_5 : decode cX4_setFloor 5 = .ok (.iload_n 1, 1) := by decide +kernel
theorem dX4_setFloor_6 : decode cX4_setFloor 6 = .ok (.iload_n 2, 1) := by decide +kernel
theorem dX4_setFloor_7 : decode cX4_setFloor 7 = .ok (.invokestatic 121, 3) := by decide +kernel
theorem dX4_setFloor_10 : decode cX4_setFloor 10 = .ok (.invokevirtual 109, 3) := by decide +kernel
theorem dX4_setFloor_13 : decode cX4_setFloor 13 = .ok (.ifCond .eq 5, 3) := by decide +kernel
theorem dX4_setFloor_16 : decode cX4_setFloor 16 = .ok (.iconst 0, 1) := by decide +kernel
theorem dX4_setFloor_17 : decode cX4_setFloor 17 = .ok (.ireturn, 1) := by decide +kernel
theorem dX4_setFloor_18 : decode cX4_setFloor 18 = .ok (.aload_n 0, 1) := by decide +kernel
theorem dX4_setFloor_19 : decode cX4_setFloor 19 = .ok (.invokevirtual 183, 3) := by decide +kernel
theorem dX4_setFloor_22 : decode cX4_setFloor 22 = .ok (.aload_n 0, 1) := by decide +kernel
theorem dX4_setFloor_23 : decode cX4_setFloor 23 = .ok (.getfield 13, 3) := by decide +kernel
theorem dX4_setFloor_26 : decode cX4_setFloor 26 = .ok (.iload_n 1, 1) := by decide +kernel
theorem dX4_setFloor_27 : decode cX4_setFloor 27 = .ok (.iconst 0, 1) := by decide +kernel
theorem dX4_setFloor_28 : decode cX4_setFloor 28 = .ok (.iload_n 2, 1) := by decide +kernel
theorem dX4_setFloor_29 : decode cX4_setFloor 29 = .ok (.invokestatic 124, 3) := by decide +kernel
theorem dX4_setFloor_32 : decode cX4_setFloor 32 = .ok (.ireturn, 1) := by decide +kernel
theorem dX4_setCeiling_0 : decode cX4_setCeiling 0 = .ok (.aload_n 0, 1) := by decide +kernel
theorem dX4_setCeiling_1 : decode cX4_setCeiling 1 = .ok (.aload_n 0, 1) := by decide +kernel
theorem dX4_setCeiling_2 : decode cX4_setCeiling 2 = .ok (.getfield 13, 3) := by decide +kernel
theorem dX4_setCeiling_5 : decode cX4_setCeiling 5 = .ok (.iload_n 1, 1) := by decide +kernel
theorem dX4_setCeiling_6 : decode cX4_setCeiling 6 = .ok (.iload_n 2, 1) := by decide +kernel
theorem dX4_setCeiling_7 : decode cX4_setCeiling 7 = .ok (.invokestatic 186, 3) := by decide +kernel
theorem dX4_setCeiling_10 : decode cX4_setCeiling 10 = .ok (.invokevirtual 109, 3) := by decide +kernel
theorem dX4_setCeiling_13 : decode cX4_setCeiling 13 = .ok (.ifCond .eq 5, 3) := by decide +kernel
theorem dX4_setCeiling_16 : decode cX4_setCeiling 16 = .ok (.iconst 0, 1) := by decide +kernel
theorem dX4_setCeiling_17 : decode cX4_setCeiling 17 = .ok (.ireturn, 1) := by decide +kernel
theorem dX4_setCeiling_18 : decode cX4_setCeiling 18 = .ok (.aload_n 0, 1) := by decide +kernel
theorem dX4_setCeiling_19 : decode cX4_setCeiling 19 = .ok (.invokevirtual 183, 3) := by decide +kernel
theorem dX4_setCeiling_22 : decode cX4_setCeiling 22 = .ok (.aload_n 0, 1) := by decide +kernel
theorem dX4_setCeiling_23 : decode cX4_setCeiling 23 = .ok (.getfield 13, 3) := by decide +kernel
theorem dX4_setCeiling_26 : decode cX4_setCeiling 26 = .ok (.iload_n 1, 1) := by decide +kernel
theorem dX4_setCeiling_27 : decode cX4_setCeiling 27 = .ok (.iconst 1, 1) := by decide +kernel
theorem dX4_setCeiling_28 : decode cX4_setCeiling 28 = .ok (.iload_n 2, 1) := by decide +kernel
theorem dX4_setCeiling_29 : decode cX4_setCeiling 29 = .ok (.invokestatic 124, 3) := by decide +kernel
theorem dX4_setCeiling_32 : decode cX4_setCeiling 32 = .ok (.ireturn, 1) := by decide +kernel
theorem dX4_undo_0 : decode cX4_undo 0 = .ok (.aload_n 0, 1) := by decide +kernel
theorem dX4_undo_1 : decode cX4_undo 1 = .ok (.aload_n 0, 1) := by decide +kernel
theorem dX4_undo_2 : decode cX4_undo 2 = .ok (.getfield 170, 3) := by decide +kernel
theorem dX4_undo_5 : decode cX4_undo 5 = .ok (.ifCond .ne 7, 3) := by decide +kernel
theorem dX4_undo_8 : decode cX4_undo 8 = .ok (.iconst 1, 1) := by decide +kernel
theorem dX4_undo_9 : decode cX4_undo 9 = .ok (.goto 4, 3) := by decide +kernel
theorem dX4_undo_12 : decode cX4_undo 12 = .ok (.iconst 0, 1) := by decide +kernel
theorem dX4_undo_13 : decode cX4_undo 13 = .ok (.invokevirtual 109, 3) := by decide +kernel
theorem dX4_undo_16 : decode cX4_undo 16 = .ok (.ifCond .eq 5, 3) := by decide +kernel
theorem dX4_undo_19 : decode cX4_undo 19 = .ok (.iconst 0, 1) := by decide +kernel
theorem dX4_undo_20 : decode cX4_undo 20 = .ok (.ireturn, 1) := by decide +kernel
theorem dX4_undo_21 : decode cX4_undo 21 = .ok (.aload_n 0, 1) := by decide +kernel
theorem dX4_undo_22 : decode cX4_undo 22 = .ok (.dup, 1) := by decide +kernel
theorem dX4_undo_23 : decode cX4_undo 23 = .ok (.getfield 170, 3) := by decide +kernel
theorem dX4_undo_26 : decode cX4_undo 26 = .ok (.iconst 1, 1) := by decide +kernel
theorem dX4_undo_27 : decode cX4_undo 27 = .ok (.isub, 1) := by decide +kernel
theorem dX4_undo_28 : decode cX4_undo 28 = .ok (.putfield 170, 3) := by decide +kernel
theorem dX4_undo_31 : decode cX4_undo 31 = .ok (.aload_n 0, 1) := by decide +kernel
theorem dX4_undo_32 : decode cX4_undo 32 = .ok (.getfield 19, 3) := by decide +kernel
theorem dX4_undo_35 : decode cX4_undo 35 = .ok (.sipush 262, 3) := by decide +kernel
theorem dX4_undo_38 : decode cX4_undo 38 = .ok (.aload_n 0, 1) := by decide +kernel
theorem dX4_undo_39 : decode cX4_undo 39 = .ok (.getfield 170, 3) := by decide +kernel
theorem dX4_undo_42 : decode cX4_undo 42 = .ok (.imul, 1) := by decide +kernel
theorem dX4_undo_43 : decode cX4_undo 43 = .ok (.aload_n 0, 1) := by decide +kernel
theorem dX4_undo_44 : decode cX4_undo 44 = .ok (.getfield 13, 3) := by decide +kernel
theorem dX4_undo_47 : decode cX4_undo 47 = .ok (.iconst 0, 1) := by decide +kernel
theorem dX4_undo_48 : decode cX4_undo 48 = .ok (.invokestatic 166, 3) := by decide +kernel
theorem dX4_undo_51 : decode cX4_undo 51 = .ok (.aload_n 0, 1) := by decide +kernel
theorem dX4_undo_52 : decode cX4_undo 52 = .ok (.getfield 170, 3) := by decide +kernel
theorem dX4_undo_55 : decode cX4_undo 55 = .ok (.ireturn, 1) := by decide +kernel
theorem dX4_would_0 : decode cX4_would 0 = .ok (.aload_n 0, 1) := by decide +kernel
theorem dX4_would_1 : decode cX4_would 1 = .ok (.aload_n 0, 1) := by decide +kernel
theorem dX4_would_2 : decode cX4_would 2 = .ok (.getfield 13, 3) := by decide +kernel
theorem dX4_would_5 : decode cX4_would 5 = .ok (.iload_n 1, 1) := by decide +kernel
theorem dX4_would_6 : decode cX4_would 6 = .ok (.invokestatic 94, 3) := by decide +kernel
theorem dX4_would_9 : decode cX4_would 9 = .ok (.ifCond .eq 14, 3) := by decide +kernel
theorem dX4_would_12 : decode cX4_would 12 = .ok (.iload_n 2, 1) := by decide +kernel
theorem dX4_would_13 : decode cX4_would 13 = .ok (.invokestatic 180, 3) := by decide +kernel
theorem dX4_would_16 : decode cX4_would 16 = .ok (.ifCond .eq 7, 3) := by decide +kernel
theorem dX4_would_19 : decode cX4_would 19 = .ok (.iconst 0, 1) := by decide +kernel
theorem dX4_would_20 : decode cX4_would 20 = .ok (.goto 4, 3) := by decide +kernel
theorem dX4_would_23 : decode cX4_would 23 = .ok (.iconst 1, 1) := by decide +kernel
theorem dX4_would_24 : decode cX4_would 24 = .ok (.invokevirtual 109, 3) := by decide +kernel
theorem dX4_would_27 : decode cX4_would 27 = .ok (.ifCond .eq 5, 3) := by decide +kernel
theorem dX4_would_30 : decode cX4_would 30 = .ok (.iconst 0, 1) := by decide +kernel
theorem dX4_would_31 : decode cX4_would 31 = .ok (.ireturn, 1) := by decide +kernel
theorem dX4_would_32 : decode cX4_would 32 = .ok (.aload_n 0, 1) := by decide +kernel
theorem dX4_would_33 : decode cX4_would 33 = .ok (.getfield 13, 3) := by decide +kernel
theorem dX4_would_36 : decode cX4_would 36 = .ok (.iconst 0, 1) := by decide +kernel
theorem dX4_would_37 : decode cX4_would 37 = .ok (.aload_n 0, 1) := by decide +kernel
theorem dX4_would_38 : decode cX4_would 38 = .ok (.getfield 16, 3) := by decide +kernel
theorem dX4_would_41 : decode cX4_would 41 = .ok (.iconst 0, 1) := by decide +kernel
theorem dX4_would_42 : decode cX4_would 42 = .ok (.invokestatic 166, 3) := by decide +kernel
theorem dX4_would_45 : decode cX4_would 45 = .ok (.aload_n 0, 1) := by decide +kernel
theorem dX4_would_46 : decode cX4_would 46 = .ok (.aload_n 0, 1) := by decide +kernel
theorem dX4_would_47 : decode cX4_would 47 = .ok (.getfield 16, 3) := by decide +kernel
theorem dX4_would_50 : decode cX4_would 50 = .ok (.iload_n 1, 1) := by decide +kernel
theorem dX4_would_51 : decode cX4_would 51 = .ok (.iload_n 2, 1) := by decide +kernel
theorem dX4_would_52 : decode cX4_would 52 = .ok (.invokevirtual 128, 3) := by decide +kernel
theorem dX4_would_55 : decode cX4_would 55 = .ok (.ireturn, 1) := by decide +kernel
theorem dX4_go_0 : decode cX4_go 0 = .ok (.aload_n 0, 1) := by decide +kernel
theorem dX4_go_1 : decode cX4_go 1 = .ok (.iconst (-1), 1) := by decide +kernel
theorem dX4_go_2 : decode cX4_go 2 = .ok (.putfield 29, 3) := by decide +kernel
theorem dX4_go_5 : decode cX4_go 5 = .ok (.iconst 0, 1) := by decide +kernel
theorem dX4_go_6 : decode cX4_go 6 = .ok (.istore 4, 2) := by decide +kernel
theorem dX4_go_8 : decode cX4_go 8 = .ok (.iload 4, 2) := by decide +kernel
theorem dX4_go_10 : decode cX4_go 10 = .ok (.iload_n 3, 1) := by decide +kernel
theorem dX4_go_11 : decode cX4_go 11 = .ok (.if_icmp .ge 22, 3) := by decide +kernel
theorem dX4_go_14 : decode cX4_go 14 = .ok (.aload_n 0, 1) := by decide +kernel
theorem dX4_go_15 : decode cX4_go 15 = .ok (.aload_n 1, 1) := by decide +kernel
theorem dX4_go_16 : decode cX4_go 16 = .ok (.iload_n 2, 1) := by decide +kernel
theorem dX4_go_17 : decode cX4_go 17 = .ok (.invokevirtual 86, 3) := by decide +kernel
theorem dX4_go_20 : decode cX4_go 20 = .ok (.iconst 5, 1) := by decide +kernel
theorem dX4_go_21 : decode cX4_go 21 = .ok (.if_icmp .ne 6, 3) := by decide +kernel
theorem dX4_go_24 : decode cX4_go 24 = .ok (.iload 4, 2) := by decide +kernel
theorem dX4_go_26 : decode cX4_go 26 = .ok (.ireturn, 1) := by decide +kernel
theorem dX4_go_27 : decode cX4_go 27 = .ok (.iinc 4 1, 3) := by decide +kernel
theorem dX4_go_30 : decode cX4_go 30 = .ok (.goto (-22), 3) := by decide +kernel
theorem dX4_go_33 : decode cX4_go 33 = .ok (.iload_n 3, 1) := by decide +kernel
theorem dX4_go_34 : decode cX4_go 34 = .ok (.ireturn, 1) := by decide +kernel
theorem dX4_room_0 : decode cX4_room 0 = .ok (.aload_n 0, 1) := by decide +kernel
theorem dX4_room_1 : decode cX4_room 1 = .ok (.aload_n 0, 1) := by decide +kernel
theorem dX4_room_2 : decode cX4_room 2 = .ok (.getfield 13, 3) := by decide +kernel
theorem dX4_room_5 : decode cX4_room 5 = .ok (.iload_n 1, 1) := by decide +kernel
theorem dX4_room_6 : decode cX4_room 6 = .ok (.invokestatic 94, 3) := by decide +kernel
theorem dX4_room_9 : decode cX4_room 9 = .ok (.ifCond .eq 7, 3) := by decide +kernel
theorem dX4_room_12 : decode cX4_room 12 = .ok (.iconst 0, 1) := by decide +kernel
theorem dX4_room_13 : decode cX4_room 13 = .ok (.goto 4, 3) := by decide +kernel
theorem dX4_room_16 : decode cX4_room 16 = .ok (.iconst 1, 1) := by decide +kernel
theorem dX4_room_17 : decode cX4_room 17 = .ok (.invokevirtual 109, 3) := by decide +kernel
theorem dX4_room_20 : decode cX4_room 20 = .ok (.ifCond .eq 5, 3) := by decide +kernel
theorem dX4_room_23 : decode cX4_room 23 = .ok (.iconst 0, 1) := by decide +kernel
theorem dX4_room_24 : decode cX4_room 24 = .ok (.ireturn, 1) := by decide +kernel
theorem dX4_room_25 : decode cX4_room 25 = .ok (.aload_n 0, 1) := by decide +kernel
theorem dX4_room_26 : decode cX4_room 26 = .ok (.getfield 13, 3) := by decide +kernel
theorem dX4_room_29 : decode cX4_room 29 = .ok (.iconst 0, 1) := by decide +kernel
theorem dX4_room_30 : decode cX4_room 30 = .ok (.aload_n 0, 1) := by decide +kernel
theorem dX4_room_31 : decode cX4_room 31 = .ok (.getfield 16, 3) := by decide +kernel
theorem dX4_room_34 : decode cX4_room 34 = .ok (.iconst 0, 1) := by decide +kernel
theorem dX4_room_35 : decode cX4_room 35 = .ok (.invokestatic 166, 3) := by decide +kernel
theorem dX4_room_38 : decode cX4_room 38 = .ok (.aload_n 0, 1) := by decide +kernel
theorem dX4_room_39 : decode cX4_room 39 = .ok (.aload_n 0, 1) := by decide +kernel
theorem dX4_room_40 : decode cX4_room 40 = .ok (.getfield 16, 3) := by decide +kernel
theorem dX4_room_43 : decode cX4_room 43 = .ok (.iload_n 1, 1) := by decide +kernel
theorem dX4_room_44 : decode cX4_room 44 = .ok (.bipush 61, 2) := by decide +kernel
theorem dX4_room_46 : decode cX4_room 46 = .ok (.invokevirtual 189, 3) := by decide +kernel
theorem dX4_room_49 : decode cX4_room 49 = .ok (.ireturn, 1) := by decide +kernel
theorem dX4_harm_0 : decode cX4_harm 0 = .ok (.aload_n 0, 1) := by decide +kernel
theorem dX4_harm_1 : decode cX4_harm 1 = .ok (.aload_n 0, 1) := by decide +kernel
theorem dX4_harm_2 : decode cX4_harm 2 = .ok (.getfield 13, 3) := by decide +kernel
theorem dX4_harm_5 : decode cX4_harm 5 = .ok (.iload_n 1, 1) := by decide +kernel
theorem dX4_harm_6 : decode cX4_harm 6 = .ok (.invokestatic 94, 3) := by decide +kernel
theorem dX4_harm_9 : decode cX4_harm 9 = .ok (.ifCond .ne 7, 3) := by decide +kernel
theorem dX4_harm_12 : decode cX4_harm 12 = .ok (.iconst 1, 1) := by decide +kernel
theorem dX4_harm_13 : decode cX4_harm 13 = .ok (.goto 20, 3) := by decide +kernel
theorem dX4_harm_16 : decode cX4_harm 16 = .ok (.iload_n 2, 1) := by decide +kernel
theorem dX4_harm_17 : decode cX4_harm 17 = .ok (.i2l, 1) := by decide +kernel
theorem dX4_harm_18 : decode cX4_harm 18 = .ok (.lconst 0, 1) := by decide +kernel
theorem dX4_harm_19 : decode cX4_harm 19 = .ok (.ldc2_w 92, 3) := by decide +kernel
theorem dX4_harm_22 : decode cX4_harm 22 = .ok (.invokestatic 39, 3) := by decide +kernel
theorem dX4_harm_25 : decode cX4_harm 25 = .ok (.ifCond .eq 7, 3) := by decide +kernel
theorem dX4_harm_28 : decode cX4_harm 28 = .ok (.iconst 0, 1) := by decide +kernel
theorem dX4_harm_29 : decode cX4_harm 29 = .ok (.goto 4, 3) := by decide +kernel
theorem dX4_harm_32 : decode cX4_harm 32 = .ok (.iconst 2, 1) := by decide +kernel
theorem dX4_harm_33 : decode cX4_harm 33 = .ok (.invokevirtual 109, 3) := by decide +kernel
theorem dX4_harm_36 : decode cX4_harm 36 = .ok (.ifCond .eq 5, 3) := by decide +kernel
theorem dX4_harm_39 : decode cX4_harm 39 = .ok (.iconst 0, 1) := by decide +kernel
theorem dX4_harm_40 : decode cX4_harm 40 = .ok (.ireturn, 1) := by decide +kernel
theorem dX4_harm_41 : decode cX4_harm 41 = .ok (.aload_n 0, 1) := by decide +kernel
theorem dX4_harm_42 : decode cX4_harm 42 = .ok (.getfield 13, 3) := by decide +kernel
theorem dX4_harm_45 : decode cX4_harm 45 = .ok (.iconst 0, 1) := by decide +kernel
theorem dX4_harm_46 : decode cX4_harm 46 = .ok (.aload_n 0, 1) := by decide +kernel
theorem dX4_harm_47 : decode cX4_harm 47 = .ok (.getfield 16, 3) := by decide +kernel
theorem dX4_harm_50 : decode cX4_harm 50 = .ok (.iconst 0, 1) := by decide +kernel
theorem dX4_harm_51 : decode cX4_harm 51 = .ok (.invokestatic 166, 3) := by decide +kernel
theorem dX4_harm_54 : decode cX4_harm 54 = .ok (.aload_n 0, 1) := by decide +kernel
theorem dX4_harm_55 : decode cX4_harm 55 = .ok (.aload_n 0, 1) := by decide +kernel
theorem dX4_harm_56 : decode cX4_harm 56 = .ok (.getfield 16, 3) := by decide +kernel
theorem dX4_harm_59 : decode cX4_harm 59 = .ok (.iload_n 1, 1) := by decide +kernel
theorem dX4_harm_60 : decode cX4_harm 60 = .ok (.iload_n 2, 1) := by decide +kernel
theorem dX4_harm_61 : decode cX4_harm 61 = .ok (.invokevirtual 189, 3) := by decide +kernel
theorem dX4_harm_64 : decode cX4_harm 64 = .ok (.pop, 1) := by decide +kernel
theorem dX4_harm_65 : decode cX4_harm 65 = .ok (.aload_n 0, 1) := by decide +kernel
theorem dX4_harm_66 : decode cX4_harm 66 = .ok (.getfield 16, 3) := by decide +kernel
theorem dX4_harm_69 : decode cX4_harm 69 = .ok (.iconst 5, 1) := by decide +kernel
theorem dX4_harm_70 : decode cX4_harm 70 = .ok (.invokestatic 53, 3) := by decide +kernel
theorem dX4_harm_73 : decode cX4_harm 73 = .ok (.aload_n 0, 1) := by decide +kernel
theorem dX4_harm_74 : decode cX4_harm 74 = .ok (.getfield 13, 3) := by decide +kernel
theorem dX4_harm_77 : decode cX4_harm 77 = .ok (.iconst 5, 1) := by decide +kernel
theorem dX4_harm_78 : decode cX4_harm 78 = .ok (.invokestatic 53, 3) := by decide +kernel
theorem dX4_harm_81 : decode cX4_harm 81 = .ok (.isub, 1) := by decide +kernel
theorem dX4_harm_82 : decode cX4_harm 82 = .ok (.ireturn, 1) := by decide +kernel
theorem dX4_victim_0 : decode cX4_victim 0 = .ok (.aload_n 0, 1) := by decide +kernel
theorem dX4_victim_1 : decode cX4_victim 1 = .ok (.aload_n 0, 1) := by decide +kernel
theorem dX4_victim_2 : decode cX4_victim 2 = .ok (.getfield 13, 3) := by decide +kernel
theorem dX4_victim_5 : decode cX4_victim 5 = .ok (.iload_n 1, 1) := by decide +kernel
theorem dX4_victim_6 : decode cX4_victim 6 = .ok (.invokestatic 94, 3) := by decide +kernel
theorem dX4_victim_9 : decode cX4_victim 9 = .ok (.ifCond .eq 7, 3) := by decide +kernel
theorem dX4_victim_12 : decode cX4_victim 12 = .ok (.iconst 0, 1) := by decide +kernel
theorem dX4_victim_13 : decode cX4_victim 13 = .ok (.goto 4, 3) := by decide +kernel
theorem dX4_victim_16 : decode cX4_victim 16 = .ok (.iconst 1, 1) := by decide +kernel
theorem dX4_victim_17 : decode cX4_victim 17 = .ok (.invokevirtual 109, 3) := by decide +kernel
theorem dX4_victim_20 : decode cX4_victim 20 = .ok (.ifCond .eq 5, 3) := by decide +kernel
theorem dX4_victim_23 : decode cX4_victim 23 = .ok (.iconst 0, 1) := by decide +kernel
theorem dX4_victim_24 : decode cX4_victim 24 = .ok (.ireturn, 1) := by decide +kernel
theorem dX4_victim_25 : decode cX4_victim 25 = .ok (.aload_n 0, 1) := by decide +kernel
theorem dX4_victim_26 : decode cX4_victim 26 = .ok (.getfield 13, 3) := by decide +kernel
theorem dX4_victim_29 : decode cX4_victim 29 = .ok (.iconst 0, 1) := by decide +kernel
theorem dX4_victim_30 : decode cX4_victim 30 = .ok (.aload_n 0, 1) := by decide +kernel
theorem dX4_victim_31 : decode cX4_victim 31 = .ok (.getfield 16, 3) := by decide +kernel
theorem dX4_victim_34 : decode cX4_victim 34 = .ok (.iconst 0, 1) := by decide +kernel
theorem dX4_victim_35 : decode cX4_victim 35 = .ok (.invokestatic 166, 3) := by decide +kernel
theorem dX4_victim_38 : decode cX4_victim 38 = .ok (.aload_n 0, 1) := by decide +kernel
theorem dX4_victim_39 : decode cX4_victim 39 = .ok (.aload_n 0, 1) := by decide +kernel
theorem dX4_victim_40 : decode cX4_victim 40 = .ok (.getfield 16, 3) := by decide +kernel
theorem dX4_victim_43 : decode cX4_victim 43 = .ok (.iload_n 1, 1) := by decide +kernel
theorem dX4_victim_44 : decode cX4_victim 44 = .ok (.bipush 61, 2) := by decide +kernel
theorem dX4_victim_46 : decode cX4_victim 46 = .ok (.invokevirtual 189, 3) := by decide +kernel
theorem dX4_victim_49 : decode cX4_victim 49 = .ok (.pop, 1) := by decide +kernel
theorem dX4_victim_50 : decode cX4_victim 50 = .ok (.aload_n 0, 1) := by decide +kernel
theorem dX4_victim_51 : decode cX4_victim 51 = .ok (.getfield 29, 3) := by decide +kernel
theorem dX4_victim_54 : decode cX4_victim 54 = .ok (.ireturn, 1) := by decide +kernel
theorem dX4_noisy_0 : decode cX4_noisy 0 = .ok (.aload_n 0, 1) := by decide +kernel
theorem dX4_noisy_1 : decode cX4_noisy 1 = .ok (.iconst 0, 1) := by decide +kernel
theorem dX4_noisy_2 : decode cX4_noisy 2 = .ok (.putfield 36, 3) := by decide +kernel
theorem dX4_noisy_5 : decode cX4_noisy 5 = .ok (.iconst (-1), 1) := by decide +kernel
theorem dX4_noisy_6 : decode cX4_noisy 6 = .ok (.istore_n 1, 1) := by decide +kernel
theorem dX4_noisy_7 : decode cX4_noisy 7 = .ok (.iconst 0, 1) := by decide +kernel
theorem dX4_noisy_8 : decode cX4_noisy 8 = .ok (.istore_n 2, 1) := by decide +kernel
theorem dX4_noisy_9 : decode cX4_noisy 9 = .ok (.iconst 0, 1) := by decide +kernel
theorem dX4_noisy_10 : decode cX4_noisy 10 = .ok (.istore_n 3, 1) := by decide +kernel
theorem dX4_noisy_11 : decode cX4_noisy 11 = .ok (.iload_n 3, 1) := by decide +kernel
theorem dX4_noisy_12 : decode cX4_noisy 12 = .ok (.aload_n 0, 1) := by decide +kernel
theorem dX4_noisy_13 : decode cX4_noisy 13 = .ok (.getfield 13, 3) := by decide +kernel
theorem dX4_noisy_16 : decode cX4_noisy 16 = .ok (.iconst 0, 1) := by decide +kernel
theorem dX4_noisy_17 : decode cX4_noisy 17 = .ok (.iaload, 1) := by decide +kernel
theorem dX4_noisy_18 : decode cX4_noisy 18 = .ok (.if_icmp .ge 48, 3) := by decide +kernel
theorem dX4_noisy_21 : decode cX4_noisy 21 = .ok (.aload_n 0, 1) := by decide +kernel
theorem dX4_noisy_22 : decode cX4_noisy 22 = .ok (.getfield 13, 3) := by decide +kernel
theorem dX4_noisy_25 : decode cX4_noisy 25 = .ok (.iload_n 3, 1) := by decide +kernel
theorem dX4_noisy_26 : decode cX4_noisy 26 = .ok (.iconst 4, 1) := by decide +kernel
theorem dX4_noisy_27 : decode cX4_noisy 27 = .ok (.invokestatic 49, 3) := by decide +kernel
theorem dX4_noisy_30 : decode cX4_noisy 30 = .ok (.iconst 2, 1) := by decide +kernel
theorem dX4_noisy_31 : decode cX4_noisy 31 = .ok (.aload_n 0, 1) := by decide +kernel
theorem dX4_noisy_32 : decode cX4_noisy 32 = .ok (.getfield 13, 3) := by decide +kernel
theorem dX4_noisy_35 : decode cX4_noisy 35 = .ok (.iload_n 3, 1) := by decide +kernel
theorem dX4_noisy_36 : decode cX4_noisy 36 = .ok (.iconst 5, 1) := by decide +kernel
theorem dX4_noisy_37 : decode cX4_noisy 37 = .ok (.invokestatic 49, 3) := by decide +kernel
theorem dX4_noisy_40 : decode cX4_noisy 40 = .ok (.imul, 1) := by decide +kernel
theorem dX4_noisy_41 : decode cX4_noisy 41 = .ok (.isub, 1) := by decide +kernel
theorem dX4_noisy_42 : decode cX4_noisy 42 = .ok (.istore 4, 2) := by decide +kernel
theorem dX4_noisy_44 : decode cX4_noisy 44 = .ok (.iload_n 1, 1) := by decide +kernel
theorem dX4_noisy_45 : decode cX4_noisy 45 = .ok (.iconst (-1), 1) := by decide +kernel
theorem dX4_noisy_46 : decode cX4_noisy 46 = .ok (.if_icmp .eq 9, 3) := by decide +kernel
theorem dX4_noisy_49 : decode cX4_noisy 49 = .ok (.iload 4, 2) := by decide +kernel
theorem dX4_noisy_51 : decode cX4_noisy 51 = .ok (.iload_n 2, 1) := by decide +kernel
theorem dX4_noisy_52 : decode cX4_noisy 52 = .ok (.if_icmp .le 8, 3) := by decide +kernel
theorem dX4_noisy_55 : decode cX4_noisy 55 = .ok (.iload_n 3, 1) := by decide +kernel
theorem dX4_noisy_56 : decode cX4_noisy 56 = .ok (.istore_n 1, 1) := by decide +kernel
theorem dX4_noisy_57 : decode cX4_noisy 57 = .ok (.iload 4, 2) := by decide +kernel
theorem dX4_noisy_59 : decode cX4_noisy 59 = .ok (.istore_n 2, 1) := by decide +kernel
theorem dX4_noisy_60 : decode cX4_noisy 60 = .ok (.iinc 3 1, 3) := by decide +kernel
theorem dX4_noisy_63 : decode cX4_noisy 63 = .ok (.goto (-52), 3) := by decide +kernel
theorem dX4_noisy_66 : decode cX4_noisy 66 = .ok (.iload_n 1, 1) := by decide +kernel
theorem dX4_noisy_67 : decode cX4_noisy 67 = .ok (.ireturn, 1) := by decide +kernel
theorem dX4_mostFloor_0 : decode cX4_mostFloor 0 = .ok (.aload_n 0, 1) := by decide +kernel
theorem dX4_mostFloor_1 : decode cX4_mostFloor 1 = .ok (.aload_n 0, 1) := by decide +kernel
theorem dX4_mostFloor_2 : decode cX4_mostFloor 2 = .ok (.getfield 13, 3) := by decide +kernel
theorem dX4_mostFloor_5 : decode cX4_mostFloor 5 = .ok (.iload_n 1, 1) := by decide +kernel
theorem dX4_mostFloor_6 : decode cX4_mostFloor 6 = .ok (.invokestatic 94, 3) := by decide +kernel
theorem dX4_mostFloor_9 : decode cX4_mostFloor 9 = .ok (.ifCond .eq 7, 3) := by decide +kernel
theorem dX4_mostFloor_12 : decode cX4_mostFloor 12 = .ok (.iconst 0, 1) := by decide +kernel
theorem dX4_mostFloor_13 : decode cX4_mostFloor 13 = .ok (.goto 4, 3) := by decide +kernel
theorem dX4_mostFloor_16 : decode cX4_mostFloor 16 = .ok (.iconst 1, 1) := by decide +kernel
theorem dX4_mostFloor_17 : decode cX4_mostFloor 17 = .ok (.invokevirtual 109, 3) := by decide +kernel
theorem dX4_mostFloor_20 : decode cX4_mostFloor 20 = .ok (.ifCond .eq 5, 3) := by decide +kernel
theorem dX4_mostFloor_23 : decode cX4_mostFloor 23 = .ok (.iconst 0, 1) := by decide +kernel
theorem dX4_mostFloor_24 : decode cX4_mostFloor 24 = .ok (.ireturn, 1) := by decide +kernel
theorem dX4_mostFloor_25 : decode cX4_mostFloor 25 = .ok (.aload_n 0, 1) := by decide +kernel
theorem dX4_mostFloor_26 : decode cX4_mostFloor 26 = .ok (.getfield 13, 3) := by decide +kernel
theorem dX4_mostFloor_29 : decode cX4_mostFloor 29 = .ok (.iload_n 1, 1) := by decide +kernel
theorem dX4_mostFloor_30 : decode cX4_mostFloor 30 = .ok (.invokestatic 101, 3) := by decide +kernel
theorem dX4_mostFloor_33 : decode cX4_mostFloor 33 = .ok (.ireturn, 1) := by decide +kernel
theorem dX4_leastFloor_0 : decode cX4_leastFloor 0 = .ok (.aload_n 0, 1) := by decide +kernel
theorem dX4_leastFloor_1 : decode cX4_leastFloor 1 = .ok (.aload_n 0, 1) := by decide +kernel
theorem dX4_leastFloor_2 : decode cX4_leastFloor 2 = .ok (.getfield 13, 3) := by decide +kernel
theorem dX4_leastFloor_5 : decode cX4_leastFloor 5 = .ok (.iload_n 1, 1) := by decide +kernel
theorem dX4_leastFloor_6 : decode cX4_leastFloor 6 = .ok (.invokestatic 94, 3) := by decide +kernel
theorem dX4_leastFloor_9 : decode cX4_leastFloor 9 = .ok (.ifCond .eq 7, 3) := by decide +kernel
theorem dX4_leastFloor_12 : decode cX4_leastFloor 12 = .ok (.iconst 0, 1) := by decide +kernel
theorem dX4_leastFloor_13 : decode cX4_leastFloor 13 = .ok (.goto 4, 3) := by decide +kernel
theorem dX4_leastFloor_16 : decode cX4_leastFloor 16 = .ok (.iconst 1, 1) := by decide +kernel
theorem dX4_leastFloor_17 : decode cX4_leastFloor 17 = .ok (.invokevirtual 109, 3) := by decide +kernel
theorem dX4_leastFloor_20 : decode cX4_leastFloor 20 = .ok (.ifCond .eq 5, 3) := by decide +kernel
theorem dX4_leastFloor_23 : decode cX4_leastFloor 23 = .ok (.iconst 0, 1) := by decide +kernel
theorem dX4_leastFloor_24 : decode cX4_leastFloor 24 = .ok (.ireturn, 1) := by decide +kernel
theorem dX4_leastFloor_25 : decode cX4_leastFloor 25 = .ok (.aload_n 0, 1) := by decide +kernel
theorem dX4_leastFloor_26 : decode cX4_leastFloor 26 = .ok (.getfield 13, 3) := by decide +kernel
theorem dX4_leastFloor_29 : decode cX4_leastFloor 29 = .ok (.iload_n 1, 1) := by decide +kernel
theorem dX4_leastFloor_30 : decode cX4_leastFloor 30 = .ok (.invokestatic 98, 3) := by decide +kernel
theorem dX4_leastFloor_33 : decode cX4_leastFloor 33 = .ok (.ireturn, 1) := by decide +kernel
theorem dX4_command_0 : decode cX4_command 0 = .ok (.iload_n 3, 1) := by decide +kernel
theorem dX4_command_1 : decode cX4_command 1 = .ok (.ifCond .ne 7, 3) := by decide +kernel
theorem dX4_command_4 : decode cX4_command 4 = .ok (.iconst 1, 1) := by decide +kernel
theorem dX4_command_5 : decode cX4_command 5 = .ok (.goto 4, 3) := by decide +kernel
theorem dX4_command_8 : decode cX4_command 8 = .ok (.iconst 0, 1) := by decide +kernel
theorem dX4_command_9 : decode cX4_command 9 = .ok (.istore 5, 2) := by decide +kernel
theorem dX4_command_11 : decode cX4_command 11 = .ok (.iload_n 1, 1) := by decide +kernel
theorem dX4_command_12 : decode cX4_command 12 = .ok (.tableswitch 419 1 9 #[52, 97, 153, 178, 216, 258, 293, 346, 374], 52) := by decide +kernel
theorem dX4_command_64 : decode cX4_command 64 = .ok (.iload 5, 2) := by decide +kernel
theorem dX4_command_66 : decode cX4_command 66 = .ok (.ifCond .eq 41, 3) := by decide +kernel
theorem dX4_command_69 : decode cX4_command 69 = .ok (.aload_n 0, 1) := by decide +kernel
theorem dX4_command_70 : decode cX4_command 70 = .ok (.getfield 16, 3) := by decide +kernel
theorem dX4_command_73 : decode cX4_command 73 = .ok (.iload_n 2, 1) := by decide +kernel
theorem dX4_command_74 : decode cX4_command 74 = .ok (.invokestatic 94, 3) := by decide +kernel
theorem dX4_command_77 : decode cX4_command 77 = .ok (.ifCond .eq 30, 3) := by decide +kernel
theorem dX4_command_80 : decode cX4_command 80 = .ok (.iload 4, 2) := by decide +kernel
theorem dX4_command_82 : decode cX4_command 82 = .ok (.invokestatic 180, 3) := by decide +kernel
theorem dX4_command_85 : decode cX4_command 85 = .ok (.ifCond .eq 22, 3) := by decide +kernel
theorem dX4_command_88 : decode cX4_command 88 = .ok (.aload_n 0, 1) := by decide +kernel
theorem dX4_command_89 : decode cX4_command 89 = .ok (.aload_n 0, 1) := by decide +kernel
theorem dX4_command_90 : decode cX4_command 90 = .ok (.getfield 16, 3) := by decide +kernel
theorem dX4_command_93 : decode cX4_command 93 = .ok (.iload_n 2, 1) := by decide +kernel
theorem dX4_command_94 : decode cX4_command 94 = .ok (.iload 4, 2) := by decide +kernel
theorem dX4_command_96 : decode cX4_command 96 = .ok (.invokevirtual 128, 3) := by decide +kernel
theorem dX4_command_99 : decode cX4_command 99 = .ok (.iconst 5, 1) := by decide +kernel
theorem dX4_command_100 : decode cX4_command 100 = .ok (.if_icmp .ge 7, 3) := by decide +kernel
theorem dX4_command_103 : decode cX4_command 103 = .ok (.iconst 1, 1) := by decide +kernel
theorem dX4_command_104 : decode cX4_command 104 = .ok (.goto 4, 3) := by decide +kernel
theorem dX4_command_107 : decode cX4_command 107 = .ok (.iconst 0, 1) := by decide +kernel
theorem dX4_command_108 : decode cX4_command 108 = .ok (.ireturn, 1) := by decide +kernel
theorem dX4_command_109 : decode cX4_command 109 = .ok (.iload 5, 2) := by decide +kernel
theorem dX4_command_111 : decode cX4_command 111 = .ok (.ifCond .eq 52, 3) := by decide +kernel
theorem dX4_command_114 : decode cX4_command 114 = .ok (.aload_n 0, 1) := by decide +kernel
theorem dX4_command_115 : decode cX4_command 115 = .ok (.getfield 16, 3) := by decide +kernel
theorem dX4_command_118 : decode cX4_command 118 = .ok (.iload_n 2, 1) := by decide +kernel
theorem dX4_command_119 : decode cX4_command 119 = .ok (.invokestatic 94, 3) := by decide +kernel
theorem dX4_command_122 : decode cX4_command 122 = .ok (.ifCond .eq 41, 3) := by decide +kernel
theorem dX4_command_125 : decode cX4_command 125 = .ok (.iload 4, 2) := by decide +kernel
theorem dX4_command_127 : decode cX4_command 127 = .ok (.invokestatic 180, 3) := by decide +kernel
theorem dX4_command_130 : decode cX4_command 130 = .ok (.ifCond .eq 33, 3) := by decide +kernel
theorem dX4_command_133 : decode cX4_command 133 = .ok (.aload_n 0, 1) := by decide +kernel
theorem dX4_command_134 : decode cX4_command 134 = .ok (.getfield 16, 3) := by decide +kernel
theorem dX4_command_137 : decode cX4_command 137 = .ok (.iload_n 2, 1) := by decide +kernel
theorem dX4_command_138 : decode cX4_command 138 = .ok (.iload 4, 2) := by decide +kernel
theorem dX4_command_140 : decode cX4_command 140 = .ok (.invokestatic 145, 3) := by decide +kernel
theorem dX4_command_143 : decode cX4_command 143 = .ok (.ifCond .eq 20, 3) := by decide +kernel
theorem dX4_command_146 : decode cX4_command 146 = .ok (.aload_n 0, 1) := by decide +kernel
theorem dX4_command_147 : decode cX4_command 147 = .ok (.getfield 16, 3) := by decide +kernel
theorem dX4_command_150 : decode cX4_command 150 = .ok (.iload_n 2, 1) := by decide +kernel
theorem dX4_command_151 : decode cX4_command 151 = .ok (.iload 4, 2) := by decide +kernel
theorem dX4_command_153 : decode cX4_command 153 = .ok (.invokestatic 149, 3) := by decide +kernel
theorem dX4_command_156 : decode cX4_command 156 = .ok (.ifCond .lt 7, 3) := by decide +kernel
theorem dX4_command_159 : decode cX4_command 159 = .ok (.iconst 1, 1) := by decide +kernel
theorem dX4_command_160 : decode cX4_command 160 = .ok (.goto 4, 3) := by decide +kernel
theorem dX4_command_163 : decode cX4_command 163 = .ok (.iconst 0, 1) := by decide +kernel
theorem dX4_command_164 : decode cX4_command 164 = .ok (.ireturn, 1) := by decide +kernel
theorem dX4_command_165 : decode cX4_command 165 = .ok (.iload 5, 2) := by decide +kernel
theorem dX4_command_167 : decode cX4_command 167 = .ok (.ifCond .eq 21, 3) := by decide +kernel
theorem dX4_command_170 : decode cX4_command 170 = .ok (.aload_n 0, 1) := by decide +kernel
theorem dX4_command_171 : decode cX4_command 171 = .ok (.aload_n 0, 1) := by decide +kernel
theorem dX4_command_172 : decode cX4_command 172 = .ok (.getfield 16, 3) := by decide +kernel
theorem dX4_command_175 : decode cX4_command 175 = .ok (.iload_n 2, 1) := by decide +kernel
theorem dX4_command_176 : decode cX4_command 176 = .ok (.iload 4, 2) := by decide +kernel
theorem dX4_command_178 : decode cX4_command 178 = .ok (.invokevirtual 152, 3) := by decide +kernel
theorem dX4_command_181 : decode cX4_command 181 = .ok (.ifCond .eq 7, 3) := by decide +kernel
theorem dX4_command_184 : decode cX4_command 184 = .ok (.iconst 1, 1) := by decide +kernel
theorem dX4_command_185 : decode cX4_command 185 = .ok (.goto 4, 3) := by decide +kernel
theorem dX4_command_188 : decode cX4_command 188 = .ok (.iconst 0, 1) := by decide +kernel
theorem dX4_command_189 : decode cX4_command 189 = .ok (.ireturn, 1) := by decide +kernel
theorem dX4_command_190 : decode cX4_command 190 = .ok (.iload 5, 2) := by decide +kernel
theorem dX4_command_192 : decode cX4_command 192 = .ok (.ifCond .eq 34, 3) := by decide +kernel
theorem dX4_command_195 : decode cX4_command 195 = .ok (.aload_n 0, 1) := by decide +kernel
theorem dX4_command_196 : decode cX4_command 196 = .ok (.getfield 16, 3) := by decide +kernel
theorem dX4_command_199 : decode cX4_command 199 = .ok (.iload_n 2, 1) := by decide +kernel
theorem dX4_command_200 : decode cX4_command 200 = .ok (.iload 4, 2) := by decide +kernel
theorem dX4_command_202 : decode cX4_command 202 = .ok (.invokestatic 186, 3) := by decide +kernel
theorem dX4_command_205 : decode cX4_command 205 = .ok (.ifCond .ne 21, 3) := by decide +kernel
theorem dX4_command_208 : decode cX4_command 208 = .ok (.aload_n 0, 1) := by decide +kernel
theorem dX4_command_209 : decode cX4_command 209 = .ok (.getfield 16, 3) := by decide +kernel
theorem dX4_command_212 : decode cX4_command 212 = .ok (.iload_n 2, 1) := by decide +kernel
theorem dX4_command_213 : decode cX4_command 213 = .ok (.iconst 1, 1) := by decide +kernel
theorem dX4_command_214 : decode cX4_command 214 = .ok (.iload 4, 2) := by decide +kernel
theorem dX4_command_216 : decode cX4_command 216 = .ok (.invokestatic 124, 3) := by decide +kernel
theorem dX4_command_219 : decode cX4_command 219 = .ok (.ifCond .le 7, 3) := by decide +kernel
theorem dX4_command_222 : decode cX4_command 222 = .ok (.iconst 1, 1) := by decide +kernel
theorem dX4_command_223 : decode cX4_command 223 = .ok (.goto 4, 3) := by decide +kernel
theorem dX4_command_226 : decode cX4_command 226 = .ok (.iconst 0, 1) := by decide +kernel
theorem dX4_command_227 : decode cX4_command 227 = .ok (.ireturn, 1) := by decide +kernel
theorem dX4_command_228 : decode cX4_command 228 = .ok (.aload_n 0, 1) := by decide +kernel
theorem dX4_command_229 : decode cX4_command 229 = .ok (.getfield 16, 3) := by decide +kernel
theorem dX4_command_232 : decode cX4_command 232 = .ok (.bipush 10, 2) := by decide +kernel
theorem dX4_command_234 : decode cX4_command 234 = .ok (.iload_n 2, 1) := by decide +kernel
theorem dX4_command_235 : decode cX4_command 235 = .ok (.imul, 1) := by decide +kernel
theorem dX4_command_236 : decode cX4_command 236 = .ok (.iload_n 3, 1) := by decide +kernel
theorem dX4_command_237 : decode cX4_command 237 = .ok (.iadd, 1) := by decide +kernel
theorem dX4_command_238 : decode cX4_command 238 = .ok (.iload 4, 2) := by decide +kernel
theorem dX4_command_240 : decode cX4_command 240 = .ok (.invokestatic 135, 3) := by decide +kernel
theorem dX4_command_243 : decode cX4_command 243 = .ok (.ifCond .ne 25, 3) := by decide +kernel
theorem dX4_command_246 : decode cX4_command 246 = .ok (.aload_n 0, 1) := by decide +kernel
theorem dX4_command_247 : decode cX4_command 247 = .ok (.getfield 16, 3) := by decide +kernel
theorem dX4_command_250 : decode cX4_command 250 = .ok (.bipush 10, 2) := by decide +kernel
theorem dX4_command_252 : decode cX4_command 252 = .ok (.iload_n 2, 1) := by decide +kernel
theorem dX4_command_253 : decode cX4_command 253 = .ok (.imul, 1) := by decide +kernel
theorem dX4_command_254 : decode cX4_command 254 = .ok (.iload_n 3, 1) := by decide +kernel
theorem dX4_command_255 : decode cX4_command 255 = .ok (.iadd, 1) := by decide +kernel
theorem dX4_command_256 : decode cX4_command 256 = .ok (.iload 4, 2) := by decide +kernel
theorem dX4_command_258 : decode cX4_command 258 = .ok (.invokestatic 138, 3) := by decide +kernel
theorem dX4_command_261 : decode cX4_command 261 = .ok (.ifCond .lt 7, 3) := by decide +kernel
theorem dX4_command_264 : decode cX4_command 264 = .ok (.iconst 1, 1) := by decide +kernel
theorem dX4_command_265 : decode cX4_command 265 = .ok (.goto 4, 3) := by decide +kernel
theorem dX4_command_268 : decode cX4_command 268 = .ok (.iconst 0, 1) := by decide +kernel
theorem dX4_command_269 : decode cX4_command 269 = .ok (.ireturn, 1) := by decide +kernel
theorem dX4_command_270 : decode cX4_command 270 = .ok (.iload 5, 2) := by decide +kernel
theorem dX4_command_272 : decode cX4_command 272 = .ok (.ifCond .eq 31, 3) := by decide +kernel
theorem dX4_command_275 : decode cX4_command 275 = .ok (.aload_n 0, 1) := by decide +kernel
theorem dX4_command_276 : decode cX4_command 276 = .ok (.getfield 16, 3) := by decide +kernel
theorem dX4_command_279 : decode cX4_command 279 = .ok (.iload_n 2, 1) := by decide +kernel
theorem dX4_command_280 : decode cX4_command 280 = .ok (.invokestatic 94, 3) := by decide +kernel
theorem dX4_command_283 : decode cX4_command 283 = .ok (.ifCond .eq 20, 3) := by decide +kernel
theorem dX4_command_286 : decode cX4_command 286 = .ok (.aload_n 0, 1) := by decide +kernel
theorem dX4_command_287 : decode cX4_command 287 = .ok (.getfield 16, 3) := by decide +kernel
theorem dX4_command_290 : decode cX4_command 290 = .ok (.iload_n 2, 1) := by decide +kernel
theorem dX4_command_291 : decode cX4_command 291 = .ok (.invokestatic 79, 3) := by decide +kernel
theorem dX4_command_294 : decode cX4_command 294 = .ok (.iload 4, 2) := by decide +kernel
theorem dX4_command_296 : decode cX4_command 296 = .ok (.if_icmp .lt 7, 3) := by decide +kernel
theorem dX4_command_299 : decode cX4_command 299 = .ok (.iconst 1, 1) := by decide +kernel
theorem dX4_command_300 : decode cX4_command 300 = .ok (.goto 4, 3) := by decide +kernel
theorem dX4_command_303 : decode cX4_command 303 = .ok (.iconst 0, 1) := by decide +kernel
theorem dX4_command_304 : decode cX4_command 304 = .ok (.ireturn, 1) := by decide +kernel
theorem dX4_command_305 : decode cX4_command 305 = .ok (.iload 5, 2) := by decide +kernel
theorem dX4_command_307 : decode cX4_command 307 = .ok (.ifCond .eq 14, 3) := by decide +kernel
theorem dX4_command_310 : decode cX4_command 310 = .ok (.aload_n 0, 1) := by decide +kernel
theorem dX4_command_311 : decode cX4_command 311 = .ok (.getfield 16, 3) := by decide +kernel
theorem dX4_command_314 : decode cX4_command 314 = .ok (.iload_n 2, 1) := by decide +kernel
theorem dX4_command_315 : decode cX4_command 315 = .ok (.invokestatic 94, 3) := by decide +kernel
theorem dX4_command_318 : decode cX4_command 318 = .ok (.ifCond .ne 5, 3) := by decide +kernel
theorem dX4_command_321 : decode cX4_command 321 = .ok (.iconst 0, 1) := by decide +kernel
theorem dX4_command_322 : decode cX4_command 322 = .ok (.ireturn, 1) := by decide +kernel
theorem dX4_command_323 : decode cX4_command 323 = .ok (.aload_n 0, 1) := by decide +kernel
theorem dX4_command_324 : decode cX4_command 324 = .ok (.getfield 16, 3) := by decide +kernel
theorem dX4_command_327 : decode cX4_command 327 = .ok (.iconst 0, 1) := by decide +kernel
theorem dX4_command_328 : decode cX4_command 328 = .ok (.aload_n 0, 1) := by decide +kernel
theorem dX4_command_329 : decode cX4_command 329 = .ok (.getfield 33, 3) := by decide +kernel
theorem dX4_command_332 : decode cX4_command 332 = .ok (.iconst 0, 1) := by decide +kernel
theorem dX4_command_333 : decode cX4_command 333 = .ok (.invokestatic 166, 3) := by decide +kernel
theorem dX4_command_336 : decode cX4_command 336 = .ok (.aload_n 0, 1) := by decide +kernel
theorem dX4_command_337 : decode cX4_command 337 = .ok (.aload_n 0, 1) := by decide +kernel
theorem dX4_command_338 : decode cX4_command 338 = .ok (.getfield 33, 3) := by decide +kernel
theorem dX4_command_341 : decode cX4_command 341 = .ok (.iload_n 2, 1) := by decide +kernel
theorem dX4_command_342 : decode cX4_command 342 = .ok (.bipush 61, 2) := by decide +kernel
theorem dX4_command_344 : decode cX4_command 344 = .ok (.invokevirtual 189, 3) := by decide +kernel
theorem dX4_command_347 : decode cX4_command 347 = .ok (.iload 4, 2) := by decide +kernel
theorem dX4_command_349 : decode cX4_command 349 = .ok (.if_icmp .lt 7, 3) := by decide +kernel
theorem dX4_command_352 : decode cX4_command 352 = .ok (.iconst 1, 1) := by decide +kernel
theorem dX4_command_353 : decode cX4_command 353 = .ok (.goto 4, 3) := by decide +kernel
theorem dX4_command_356 : decode cX4_command 356 = .ok (.iconst 0, 1) := by decide +kernel
theorem dX4_command_357 : decode cX4_command 357 = .ok (.ireturn, 1) := by decide +kernel
theorem dX4_command_358 : decode cX4_command 358 = .ok (.iload 5, 2) := by decide +kernel
theorem dX4_command_360 : decode cX4_command 360 = .ok (.ifCond .eq 24, 3) := by decide +kernel
theorem dX4_command_363 : decode cX4_command 363 = .ok (.iload_n 2, 1) := by decide +kernel
theorem dX4_command_364 : decode cX4_command 364 = .ok (.ifCond .ne 20, 3) := by decide +kernel
theorem dX4_command_367 : decode cX4_command 367 = .ok (.aload_n 0, 1) := by decide +kernel
theorem dX4_command_368 : decode cX4_command 368 = .ok (.getfield 16, 3) := by decide +kernel
theorem dX4_command_371 : decode cX4_command 371 = .ok (.iconst 5, 1) := by decide +kernel
theorem dX4_command_372 : decode cX4_command 372 = .ok (.invokestatic 53, 3) := by decide +kernel
theorem dX4_command_375 : decode cX4_command 375 = .ok (.iload 4, 2) := by decide +kernel
theorem dX4_command_377 : decode cX4_command 377 = .ok (.if_icmp .gt 7, 3) := by decide +kernel
theorem dX4_command_380 : decode cX4_command 380 = .ok (.iconst 1, 1) := by decide +kernel
theorem dX4_command_381 : decode cX4_command 381 = .ok (.goto 4, 3) := by decide +kernel
theorem dX4_command_384 : decode cX4_command 384 = .ok (.iconst 0, 1) := by decide +kernel
theorem dX4_command_385 : decode cX4_command 385 = .ok (.ireturn, 1) := by decide +kernel
theorem dX4_command_386 : decode cX4_command 386 = .ok (.aload_n 0, 1) := by decide +kernel
theorem dX4_command_387 : decode cX4_command 387 = .ok (.getfield 16, 3) := by decide +kernel
theorem dX4_command_390 : decode cX4_command 390 = .ok (.iload_n 2, 1) := by decide +kernel
theorem dX4_command_391 : decode cX4_command 391 = .ok (.invokestatic 94, 3) := by decide +kernel
theorem dX4_command_394 : decode cX4_command 394 = .ok (.ifCond .eq 35, 3) := by decide +kernel
theorem dX4_command_397 : decode cX4_command 397 = .ok (.aload_n 0, 1) := by decide +kernel
theorem dX4_command_398 : decode cX4_command 398 = .ok (.getfield 16, 3) := by decide +kernel
theorem dX4_command_401 : decode cX4_command 401 = .ok (.iload_n 3, 1) := by decide +kernel
theorem dX4_command_402 : decode cX4_command 402 = .ok (.invokestatic 94, 3) := by decide +kernel
theorem dX4_command_405 : decode cX4_command 405 = .ok (.ifCond .eq 24, 3) := by decide +kernel
theorem dX4_command_408 : decode cX4_command 408 = .ok (.aload_n 0, 1) := by decide +kernel
theorem dX4_command_409 : decode cX4_command 409 = .ok (.getfield 16, 3) := by decide +kernel
theorem dX4_command_412 : decode cX4_command 412 = .ok (.iload_n 2, 1) := by decide +kernel
theorem dX4_command_413 : decode cX4_command 413 = .ok (.bipush 7, 2) := by decide +kernel
theorem dX4_command_415 : decode cX4_command 415 = .ok (.iload_n 3, 1) := by decide +kernel
theorem dX4_command_416 : decode cX4_command 416 = .ok (.iadd, 1) := by decide +kernel
theorem dX4_command_417 : decode cX4_command 417 = .ok (.invokestatic 49, 3) := by decide +kernel
theorem dX4_command_420 : decode cX4_command 420 = .ok (.iload 4, 2) := by decide +kernel
theorem dX4_command_422 : decode cX4_command 422 = .ok (.if_icmp .lt 7, 3) := by decide +kernel
theorem dX4_command_425 : decode cX4_command 425 = .ok (.iconst 1, 1) := by decide +kernel
theorem dX4_command_426 : decode cX4_command 426 = .ok (.goto 4, 3) := by decide +kernel
theorem dX4_command_429 : decode cX4_command 429 = .ok (.iconst 0, 1) := by decide +kernel
theorem dX4_command_430 : decode cX4_command 430 = .ok (.ireturn, 1) := by decide +kernel
theorem dX4_command_431 : decode cX4_command 431 = .ok (.iconst 0, 1) := by decide +kernel
theorem dX4_command_432 : decode cX4_command 432 = .ok (.ireturn, 1) := by decide +kernel
theorem dX4_runScript_0 : decode cX4_runScript 0 = .ok (.lconst 1, 1) := by decide +kernel
theorem dX4_runScript_1 : decode cX4_runScript 1 = .ok (.lstore 4, 2) := by decide +kernel
theorem dX4_runScript_3 : decode cX4_runScript 3 = .ok (.iconst 0, 1) := by decide +kernel
theorem dX4_runScript_4 : decode cX4_runScript 4 = .ok (.istore 6, 2) := by decide +kernel
theorem dX4_runScript_6 : decode cX4_runScript 6 = .ok (.iload 6, 2) := by decide +kernel
theorem dX4_runScript_8 : decode cX4_runScript 8 = .ok (.iload_n 1, 1) := by decide +kernel
theorem dX4_runScript_9 : decode cX4_runScript 9 = .ok (.if_icmp .ge 23, 3) := by decide +kernel
theorem dX4_runScript_12 : decode cX4_runScript 12 = .ok (.iload 6, 2) := by decide +kernel
theorem dX4_runScript_14 : decode cX4_runScript 14 = .ok (.iconst 3, 1) := by decide +kernel
theorem dX4_runScript_15 : decode cX4_runScript 15 = .ok (.if_icmp .ge 17, 3) := by decide +kernel
theorem dX4_runScript_18 : decode cX4_runScript 18 = .ok (.lload 4, 2) := by decide +kernel
theorem dX4_runScript_20 : decode cX4_runScript 20 = .ok (.ldc2_w 192, 3) := by decide +kernel
theorem dX4_runScript_23 : decode cX4_runScript 23 = .ok (.lmul, 1) := by decide +kernel
theorem dX4_runScript_24 : decode cX4_runScript 24 = .ok (.lstore 4, 2) := by decide +kernel
theorem dX4_runScript_26 : decode cX4_runScript 26 = .ok (.iinc 6 1, 3) := by decide +kernel
theorem dX4_runScript_29 : decode cX4_runScript 29 = .ok (.goto (-23), 3) := by decide +kernel
theorem dX4_runScript_32 : decode cX4_runScript 32 = .ok (.aload_n 0, 1) := by decide +kernel
theorem dX4_runScript_33 : decode cX4_runScript 33 = .ok (.iload_n 1, 1) := by decide +kernel
theorem dX4_runScript_34 : decode cX4_runScript 34 = .ok (.i2l, 1) := by decide +kernel
theorem dX4_runScript_35 : decode cX4_runScript 35 = .ok (.lconst 1, 1) := by decide +kernel
theorem dX4_runScript_36 : decode cX4_runScript 36 = .ok (.ldc2_w 194, 3) := by decide +kernel
theorem dX4_runScript_39 : decode cX4_runScript 39 = .ok (.invokestatic 39, 3) := by decide +kernel
theorem dX4_runScript_42 : decode cX4_runScript 42 = .ok (.ifCond .eq 19, 3) := by decide +kernel
theorem dX4_runScript_45 : decode cX4_runScript 45 = .ok (.lload_n 2, 1) := by decide +kernel
theorem dX4_runScript_46 : decode cX4_runScript 46 = .ok (.lconst 0, 1) := by decide +kernel
theorem dX4_runScript_47 : decode cX4_runScript 47 = .ok (.lload 4, 2) := by decide +kernel
theorem dX4_runScript_49 : decode cX4_runScript 49 = .ok (.lconst 1, 1) := by decide +kernel
theorem dX4_runScript_50 : decode cX4_runScript 50 = .ok (.lsub, 1) := by decide +kernel
theorem dX4_runScript_51 : decode cX4_runScript 51 = .ok (.invokestatic 39, 3) := by decide +kernel
theorem dX4_runScript_54 : decode cX4_runScript 54 = .ok (.ifCond .eq 7, 3) := by decide +kernel
theorem dX4_runScript_57 : decode cX4_runScript 57 = .ok (.iconst 0, 1) := by decide +kernel
theorem dX4_runScript_58 : decode cX4_runScript 58 = .ok (.goto 4, 3) := by decide +kernel
theorem dX4_runScript_61 : decode cX4_runScript 61 = .ok (.iconst 1, 1) := by decide +kernel
theorem dX4_runScript_62 : decode cX4_runScript 62 = .ok (.invokevirtual 109, 3) := by decide +kernel
theorem dX4_runScript_65 : decode cX4_runScript 65 = .ok (.ifCond .eq 5, 3) := by decide +kernel
theorem dX4_runScript_68 : decode cX4_runScript 68 = .ok (.iconst 0, 1) := by decide +kernel
theorem dX4_runScript_69 : decode cX4_runScript 69 = .ok (.ireturn, 1) := by decide +kernel
theorem dX4_runScript_70 : decode cX4_runScript 70 = .ok (.aload_n 0, 1) := by decide +kernel
theorem dX4_runScript_71 : decode cX4_runScript 71 = .ok (.getfield 13, 3) := by decide +kernel
theorem dX4_runScript_74 : decode cX4_runScript 74 = .ok (.iconst 0, 1) := by decide +kernel
theorem dX4_runScript_75 : decode cX4_runScript 75 = .ok (.aload_n 0, 1) := by decide +kernel
theorem dX4_runScript_76 : decode cX4_runScript 76 = .ok (.getfield 16, 3) := by decide +kernel
theorem dX4_runScript_79 : decode cX4_runScript 79 = .ok (.iconst 0, 1) := by decide +kernel
theorem dX4_runScript_80 : decode cX4_runScript 80 = .ok (.invokestatic 166, 3) := by decide +kernel
theorem dX4_runScript_83 : decode cX4_runScript 83 = .ok (.iconst 0, 1) := by decide +kernel
theorem dX4_runScript_84 : decode cX4_runScript 84 = .ok (.istore 6, 2) := by decide +kernel
theorem dX4_runScript_86 : decode cX4_runScript 86 = .ok (.iload 6, 2) := by decide +kernel
theorem dX4_runScript_88 : decode cX4_runScript 88 = .ok (.iload_n 1, 1) := by decide +kernel
theorem dX4_runScript_89 : decode cX4_runScript 89 = .ok (.if_icmp .ge 66, 3) := by decide +kernel
theorem dX4_runScript_92 : decode cX4_runScript 92 = .ok (.lload 4, 2) := by decide +kernel
theorem dX4_runScript_94 : decode cX4_runScript 94 = .ok (.ldc2_w 192, 3) := by decide +kernel
theorem dX4_runScript_97 : decode cX4_runScript 97 = .ok (.ldiv, 1) := by decide +kernel
theorem dX4_runScript_98 : decode cX4_runScript 98 = .ok (.lstore 4, 2) := by decide +kernel
theorem dX4_runScript_100 : decode cX4_runScript 100 = .ok (.lload_n 2, 1) := by decide +kernel
theorem dX4_runScript_101 : decode cX4_runScript 101 = .ok (.lload 4, 2) := by decide +kernel
theorem dX4_runScript_103 : decode cX4_runScript 103 = .ok (.ldiv, 1) := by decide +kernel
theorem dX4_runScript_104 : decode cX4_runScript 104 = .ok (.ldc2_w 192, 3) := by decide +kernel
theorem dX4_runScript_107 : decode cX4_runScript 107 = .ok (.lrem, 1) := by decide +kernel
theorem dX4_runScript_108 : decode cX4_runScript 108 = .ok (.l2i, 1) := by decide +kernel
theorem dX4_runScript_109 : decode cX4_runScript 109 = .ok (.istore 7, 2) := by decide +kernel
theorem dX4_runScript_111 : decode cX4_runScript 111 = .ok (.aload_n 0, 1) := by decide +kernel
theorem dX4_runScript_112 : decode cX4_runScript 112 = .ok (.iload 7, 2) := by decide +kernel
theorem dX4_runScript_114 : decode cX4_runScript 114 = .ok (.sipush 10000, 3) := by decide +kernel
theorem dX4_runScript_117 : decode cX4_runScript 117 = .ok (.idiv, 1) := by decide +kernel
theorem dX4_runScript_118 : decode cX4_runScript 118 = .ok (.iload 7, 2) := by decide +kernel
theorem dX4_runScript_120 : decode cX4_runScript 120 = .ok (.sipush 1000, 3) := by decide +kernel
theorem dX4_runScript_123 : decode cX4_runScript 123 = .ok (.idiv, 1) := by decide +kernel
theorem dX4_runScript_124 : decode cX4_runScript 124 = .ok (.bipush 10, 2) := by decide +kernel
theorem dX4_runScript_126 : decode cX4_runScript 126 = .ok (.irem, 1) := by decide +kernel
theorem dX4_runScript_127 : decode cX4_runScript 127 = .ok (.iload 7, 2) := by decide +kernel
theorem dX4_runScript_129 : decode cX4_runScript 129 = .ok (.bipush 100, 2) := by decide +kernel
theorem dX4_runScript_131 : decode cX4_runScript 131 = .ok (.idiv, 1) := by decide +kernel
theorem dX4_runScript_132 : decode cX4_runScript 132 = .ok (.bipush 10, 2) := by decide +kernel
theorem dX4_runScript_134 : decode cX4_runScript 134 = .ok (.irem, 1) := by decide +kernel
theorem dX4_runScript_135 : decode cX4_runScript 135 = .ok (.iload 7, 2) := by decide +kernel
theorem dX4_runScript_137 : decode cX4_runScript 137 = .ok (.bipush 100, 2) := by decide +kernel
theorem dX4_runScript_139 : decode cX4_runScript 139 = .ok (.irem, 1) := by decide +kernel
theorem dX4_runScript_140 : decode cX4_runScript 140 = .ok (.invokevirtual 196, 3) := by decide +kernel
theorem dX4_runScript_143 : decode cX4_runScript 143 = .ok (.ifCond .ne 6, 3) := by decide +kernel
theorem dX4_runScript_146 : decode cX4_runScript 146 = .ok (.iload 6, 2) := by decide +kernel
theorem dX4_runScript_148 : decode cX4_runScript 148 = .ok (.ireturn, 1) := by decide +kernel
theorem dX4_runScript_149 : decode cX4_runScript 149 = .ok (.iinc 6 1, 3) := by decide +kernel
theorem dX4_runScript_152 : decode cX4_runScript 152 = .ok (.goto (-66), 3) := by decide +kernel
theorem dX4_runScript_155 : decode cX4_runScript 155 = .ok (.iconst (-1), 1) := by decide +kernel
theorem dX4_runScript_156 : decode cX4_runScript 156 = .ok (.ireturn, 1) := by decide +kernel
theorem dX4_turn_0 : decode cX4_turn 0 = .ok (.iload_n 1, 1) := by decide +kernel
theorem dX4_turn_1 : decode cX4_turn 1 = .ok (.bipush 16, 2) := by decide +kernel
theorem dX4_turn_3 : decode cX4_turn 3 = .ok (.idiv, 1) := by decide +kernel
theorem dX4_turn_4 : decode cX4_turn 4 = .ok (.aload_n 0, 1) := by decide +kernel
theorem dX4_turn_5 : decode cX4_turn 5 = .ok (.getfield 16, 3) := by decide +kernel
theorem dX4_turn_8 : decode cX4_turn 8 = .ok (.iconst 0, 1) := by decide +kernel
theorem dX4_turn_9 : decode cX4_turn 9 = .ok (.iaload, 1) := by decide +kernel
theorem dX4_turn_10 : decode cX4_turn 10 = .ok (.ifCond .ne 7, 3) := by decide +kernel
theorem dX4_turn_13 : decode cX4_turn 13 = .ok (.iconst 1, 1) := by decide +kernel
theorem dX4_turn_14 : decode cX4_turn 14 = .ok (.goto 9, 3) := by decide +kernel
theorem dX4_turn_17 : decode cX4_turn 17 = .ok (.aload_n 0, 1) := by decide +kernel
theorem dX4_turn_18 : decode cX4_turn 18 = .ok (.getfield 16, 3) := by decide +kernel
theorem dX4_turn_21 : decode cX4_turn 21 = .ok (.iconst 0, 1) := by decide +kernel
theorem dX4_turn_22 : decode cX4_turn 22 = .ok (.iaload, 1) := by decide +kernel
theorem dX4_turn_23 : decode cX4_turn 23 = .ok (.irem, 1) := by decide +kernel
theorem dX4_turn_24 : decode cX4_turn 24 = .ok (.istore_n 2, 1) := by decide +kernel
theorem dX4_turn_25 : decode cX4_turn 25 = .ok (.iload_n 1, 1) := by decide +kernel
theorem dX4_turn_26 : decode cX4_turn 26 = .ok (.sipush 128, 3) := by decide +kernel
theorem dX4_turn_29 : decode cX4_turn 29 = .ok (.idiv, 1) := by decide +kernel
theorem dX4_turn_30 : decode cX4_turn 30 = .ok (.bipush 40, 2) := by decide +kernel
theorem dX4_turn_32 : decode cX4_turn 32 = .ok (.irem, 1) := by decide +kernel
theorem dX4_turn_33 : decode cX4_turn 33 = .ok (.istore_n 3, 1) := by decide +kernel
theorem dX4_turn_34 : decode cX4_turn 34 = .ok (.iload_n 1, 1) := by decide +kernel
theorem dX4_turn_35 : decode cX4_turn 35 = .ok (.bipush 16, 2) := by decide +kernel
theorem dX4_turn_37 : decode cX4_turn 37 = .ok (.irem, 1) := by decide +kernel
theorem dX4_turn_38 : decode cX4_turn 38 = .ok (.istore 4, 2) := by decide +kernel
theorem dX4_turn_40 : decode cX4_turn 40 = .ok (.iload 4, 2) := by decide +kernel
theorem dX4_turn_42 : decode cX4_turn 42 = .ok (.ifCond .ne 60, 3) := by decide +kernel
theorem dX4_turn_45 : decode cX4_turn 45 = .ok (.aload_n 0, 1) := by decide +kernel
theorem dX4_turn_46 : decode cX4_turn 46 = .ok (.getfield 16, 3) := by decide +kernel
theorem dX4_turn_49 : decode cX4_turn 49 = .ok (.iload_n 1, 1) := by decide +kernel
theorem dX4_turn_50 : decode cX4_turn 50 = .ok (.bipush 16, 2) := by decide +kernel
theorem dX4_turn_52 : decode cX4_turn 52 = .ok (.idiv, 1) := by decide +kernel
theorem dX4_turn_53 : decode cX4_turn 53 = .ok (.bipush 16, 2) := by decide +kernel
theorem dX4_turn_55 : decode cX4_turn 55 = .ok (.irem, 1) := by decide +kernel
theorem dX4_turn_56 : decode cX4_turn 56 = .ok (.bipush 16, 2) := by decide +kernel
theorem dX4_turn_58 : decode cX4_turn 58 = .ok (.iload_n 1, 1) := by decide +kernel
theorem dX4_turn_59 : decode cX4_turn 59 = .ok (.sipush 256, 3) := by decide +kernel
theorem dX4_turn_62 : decode cX4_turn 62 = .ok (.idiv, 1) := by decide +kernel
theorem dX4_turn_63 : decode cX4_turn 63 = .ok (.bipush 40, 2) := by decide +kernel
theorem dX4_turn_65 : decode cX4_turn 65 = .ok (.irem, 1) := by decide +kernel
theorem dX4_turn_66 : decode cX4_turn 66 = .ok (.iadd, 1) := by decide +kernel
theorem dX4_turn_67 : decode cX4_turn 67 = .ok (.invokestatic 135, 3) := by decide +kernel
theorem dX4_turn_70 : decode cX4_turn 70 = .ok (.ifCond .ne 123, 3) := by decide +kernel
theorem dX4_turn_73 : decode cX4_turn 73 = .ok (.aload_n 0, 1) := by decide +kernel
theorem dX4_turn_74 : decode cX4_turn 74 = .ok (.getfield 16, 3) := by decide +kernel
theorem dX4_turn_77 : decode cX4_turn 77 = .ok (.iload_n 1, 1) := by decide +kernel
theorem dX4_turn_78 : decode cX4_turn 78 = .ok (.bipush 16, 2) := by decide +kernel
theorem dX4_turn_80 : decode cX4_turn 80 = .ok (.idiv, 1) := by decide +kernel
theorem dX4_turn_81 : decode cX4_turn 81 = .ok (.bipush 16, 2) := by decide +kernel
theorem dX4_turn_83 : decode cX4_turn 83 = .ok (.irem, 1) := by decide +kernel
theorem dX4_turn_84 : decode cX4_turn 84 = .ok (.bipush 16, 2) := by decide +kernel
theorem dX4_turn_86 : decode cX4_turn 86 = .ok (.iload_n 1, 1) := by decide +kernel
theorem dX4_turn_87 : decode cX4_turn 87 = .ok (.sipush 256, 3) := by decide +kernel
theorem dX4_turn_90 : decode cX4_turn 90 = .ok (.idiv, 1) := by decide +kernel
theorem dX4_turn_91 : decode cX4_turn 91 = .ok (.bipush 40, 2) := by decide +kernel
theorem dX4_turn_93 : decode cX4_turn 93 = .ok (.irem, 1) := by decide +kernel
theorem dX4_turn_94 : decode cX4_turn 94 = .ok (.iadd, 1) := by decide +kernel
theorem dX4_turn_95 : decode cX4_turn 95 = .ok (.invokestatic 138, 3) := by decide +kernel
theorem dX4_turn_98 : decode cX4_turn 98 = .ok (.pop, 1) := by decide +kernel
theorem dX4_turn_99 : decode cX4_turn 99 = .ok (.goto 94, 3) := by decide +kernel
theorem dX4_turn_102 : decode cX4_turn 102 = .ok (.iload 4, 2) := by decide +kernel
theorem dX4_turn_104 : decode cX4_turn 104 = .ok (.iconst 1, 1) := by decide +kernel
theorem dX4_turn_105 : decode cX4_turn 105 = .ok (.if_icmp .ne 24, 3) := by decide +kernel
theorem dX4_turn_108 : decode cX4_turn 108 = .ok (.aload_n 0, 1) := by decide +kernel
theorem dX4_turn_109 : decode cX4_turn 109 = .ok (.aload_n 0, 1) := by decide +kernel
theorem dX4_turn_110 : decode cX4_turn 110 = .ok (.getfield 16, 3) := by decide +kernel
theorem dX4_turn_113 : decode cX4_turn 113 = .ok (.iload_n 2, 1) := by decide +kernel
theorem dX4_turn_114 : decode cX4_turn 114 = .ok (.iload_n 1, 1) := by decide +kernel
theorem dX4_turn_115 : decode cX4_turn 115 = .ok (.sipush 128, 3) := by decide +kernel
theorem dX4_turn_118 : decode cX4_turn 118 = .ok (.idiv, 1) := by decide +kernel
theorem dX4_turn_119 : decode cX4_turn 119 = .ok (.bipush 20, 2) := by decide +kernel
theorem dX4_turn_121 : decode cX4_turn 121 = .ok (.irem, 1) := by decide +kernel
theorem dX4_turn_122 : decode cX4_turn 122 = .ok (.invokevirtual 152, 3) := by decide +kernel
theorem dX4_turn_125 : decode cX4_turn 125 = .ok (.pop, 1) := by decide +kernel
theorem dX4_turn_126 : decode cX4_turn 126 = .ok (.goto 67, 3) := by decide +kernel
theorem dX4_turn_129 : decode cX4_turn 129 = .ok (.aload_n 0, 1) := by decide +kernel
theorem dX4_turn_130 : decode cX4_turn 130 = .ok (.getfield 16, 3) := by decide +kernel
theorem dX4_turn_133 : decode cX4_turn 133 = .ok (.iload_n 2, 1) := by decide +kernel
theorem dX4_turn_134 : decode cX4_turn 134 = .ok (.invokestatic 94, 3) := by decide +kernel
theorem dX4_turn_137 : decode cX4_turn 137 = .ok (.ifCond .eq 23, 3) := by decide +kernel
theorem dX4_turn_140 : decode cX4_turn 140 = .ok (.iload 4, 2) := by decide +kernel
theorem dX4_turn_142 : decode cX4_turn 142 = .ok (.iconst 3, 1) := by decide +kernel
theorem dX4_turn_143 : decode cX4_turn 143 = .ok (.if_icmp .le 17, 3) := by decide +kernel
theorem dX4_turn_146 : decode cX4_turn 146 = .ok (.aload_n 0, 1) := by decide +kernel
theorem dX4_turn_147 : decode cX4_turn 147 = .ok (.aload_n 0, 1) := by decide +kernel
theorem dX4_turn_148 : decode cX4_turn 148 = .ok (.getfield 16, 3) := by decide +kernel
theorem dX4_turn_151 : decode cX4_turn 151 = .ok (.iload_n 2, 1) := by decide +kernel
theorem dX4_turn_152 : decode cX4_turn 152 = .ok (.iload_n 3, 1) := by decide +kernel
theorem dX4_turn_153 : decode cX4_turn 153 = .ok (.invokevirtual 128, 3) := by decide +kernel
theorem dX4_turn_156 : decode cX4_turn 156 = .ok (.pop, 1) := by decide +kernel
theorem dX4_turn_157 : decode cX4_turn 157 = .ok (.goto 36, 3) := by decide +kernel
theorem dX4_turn_160 : decode cX4_turn 160 = .ok (.aload_n 0, 1) := by decide +kernel
theorem dX4_turn_161 : decode cX4_turn 161 = .ok (.getfield 16, 3) := by decide +kernel
theorem dX4_turn_164 : decode cX4_turn 164 = .ok (.iload_n 2, 1) := by decide +kernel
theorem dX4_turn_165 : decode cX4_turn 165 = .ok (.invokestatic 94, 3) := by decide +kernel
theorem dX4_turn_168 : decode cX4_turn 168 = .ok (.ifCond .eq 25, 3) := by decide +kernel
theorem dX4_turn_171 : decode cX4_turn 171 = .ok (.aload_n 0, 1) := by decide +kernel
theorem dX4_turn_172 : decode cX4_turn 172 = .ok (.getfield 16, 3) := by decide +kernel
theorem dX4_turn_175 : decode cX4_turn 175 = .ok (.iload_n 2, 1) := by decide +kernel
theorem dX4_turn_176 : decode cX4_turn 176 = .ok (.iload_n 3, 1) := by decide +kernel
theorem dX4_turn_177 : decode cX4_turn 177 = .ok (.invokestatic 145, 3) := by decide +kernel
theorem dX4_turn_180 : decode cX4_turn 180 = .ok (.ifCond .eq 13, 3) := by decide +kernel
theorem dX4_turn_183 : decode cX4_turn 183 = .ok (.aload_n 0, 1) := by decide +kernel
theorem dX4_turn_184 : decode cX4_turn 184 = .ok (.getfield 16, 3) := by decide +kernel
theorem dX4_turn_187 : decode cX4_turn 187 = .ok (.iload_n 2, 1) := by decide +kernel
theorem dX4_turn_188 : decode cX4_turn 188 = .ok (.iload_n 3, 1) := by decide +kernel
theorem dX4_turn_189 : decode cX4_turn 189 = .ok (.invokestatic 149, 3) := by decide +kernel
theorem dX4_turn_192 : decode cX4_turn 192 = .ok (.pop, 1) := by decide +kernel
theorem dX4_turn_193 : decode cX4_turn 193 = .ok (.return_, 1) := by decide +kernel
theorem dX4_simulate_0 : decode cX4_simulate 0 = .ok (.aload_n 0, 1) := by decide +kernel
theorem dX4_simulate_1 : decode cX4_simulate 1 = .ok (.iload_n 3, 1) := by decide +kernel
theorem dX4_simulate_2 : decode cX4_simulate 2 = .ok (.i2l, 1) := by decide +kernel
theorem dX4_simulate_3 : decode cX4_simulate 3 = .ok (.lconst 1, 1) := by decide +kernel
theorem dX4_simulate_4 : decode cX4_simulate 4 = .ok (.ldc2_w 200, 3) := by decide +kernel
theorem dX4_simulate_7 : decode cX4_simulate 7 = .ok (.invokestatic 39, 3) := by decide +kernel
theorem dX4_simulate_10 : decode cX4_simulate 10 = .ok (.ifCond .eq 7, 3) := by decide +kernel
theorem dX4_simulate_13 : decode cX4_simulate 13 = .ok (.iconst 0, 1) := by decide +kernel
theorem dX4_simulate_14 : decode cX4_simulate 14 = .ok (.goto 4, 3) := by decide +kernel
theorem dX4_simulate_17 : decode cX4_simulate 17 = .ok (.iconst 1, 1) := by decide +kernel
theorem dX4_simulate_18 : decode cX4_simulate 18 = .ok (.invokevirtual 109, 3) := by decide +kernel
theorem dX4_simulate_21 : decode cX4_simulate 21 = .ok (.ifCond .eq 5, 3) := by decide +kernel
theorem dX4_simulate_24 : decode cX4_simulate 24 = .ok (.iconst 0, 1) := by decide +kernel
theorem dX4_simulate_25 : decode cX4_simulate 25 = .ok (.ireturn, 1) := by decide +kernel
theorem dX4_simulate_26 : decode cX4_simulate 26 = .ok (.aload_n 0, 1) := by decide +kernel
theorem dX4_simulate_27 : decode cX4_simulate 27 = .ok (.getfield 13, 3) := by decide +kernel
theorem dX4_simulate_30 : decode cX4_simulate 30 = .ok (.iconst 0, 1) := by decide +kernel
theorem dX4_simulate_31 : decode cX4_simulate 31 = .ok (.aload_n 0, 1) := by decide +kernel
theorem dX4_simulate_32 : decode cX4_simulate 32 = .ok (.getfield 16, 3) := by decide +kernel
theorem dX4_simulate_35 : decode cX4_simulate 35 = .ok (.iconst 0, 1) := by decide +kernel
theorem dX4_simulate_36 : decode cX4_simulate 36 = .ok (.invokestatic 166, 3) := by decide +kernel
theorem dX4_simulate_39 : decode cX4_simulate 39 = .ok (.lload_n 1, 1) := by decide +kernel
theorem dX4_simulate_40 : decode cX4_simulate 40 = .ok (.lstore 4, 2) := by decide +kernel
theorem dX4_simulate_42 : decode cX4_simulate 42 = .ok (.iconst 0, 1) := by decide +kernel
theorem dX4_simulate_43 : decode cX4_simulate 43 = .ok (.istore 6, 2) := by decide +kernel
theorem dX4_simulate_45 : decode cX4_simulate 45 = .ok (.iload 6, 2) := by decide +kernel
theorem dX4_simulate_47 : decode cX4_simulate 47 = .ok (.iload_n 3, 1) := by decide +kernel
theorem dX4_simulate_48 : decode cX4_simulate 48 = .ok (.if_icmp .ge 31, 3) := by decide +kernel
theorem dX4_simulate_51 : decode cX4_simulate 51 = .ok (.lload 4, 2) := by decide +kernel
theorem dX4_simulate_53 : decode cX4_simulate 53 = .ok (.ldc2_w 202, 3) := by decide +kernel
theorem dX4_simulate_56 : decode cX4_simulate 56 = .ok (.lmul, 1) := by decide +kernel
theorem dX4_simulate_57 : decode cX4_simulate 57 = .ok (.ldc2_w 204, 3) := by decide +kernel
theorem dX4_simulate_60 : decode cX4_simulate 60 = .ok (.ladd, 1) := by decide +kernel
theorem dX4_simulate_61 : decode cX4_simulate 61 = .ok (.lstore 4, 2) := by decide +kernel
theorem dX4_simulate_63 : decode cX4_simulate 63 = .ok (.aload_n 0, 1) := by decide +kernel
theorem dX4_simulate_64 : decode cX4_simulate 64 = .ok (.lload 4, 2) := by decide +kernel
theorem dX4_simulate_66 : decode cX4_simulate 66 = .ok (.bipush 33, 2) := by decide +kernel
theorem dX4_simulate_68 : decode cX4_simulate 68 = .ok (.lushr, 1) := by decide +kernel
theorem dX4_simulate_69 : decode cX4_simulate 69 = .ok (.l2i, 1) := by decide +kernel
theorem dX4_simulate_70 : decode cX4_simulate 70 = .ok (.invokevirtual 206, 3) := by decide +kernel
theorem dX4_simulate_73 : decode cX4_simulate 73 = .ok (.iinc 6 1, 3) := by decide +kernel
theorem dX4_simulate_76 : decode cX4_simulate 76 = .ok (.goto (-31), 3) := by decide +kernel
theorem dX4_simulate_79 : decode cX4_simulate 79 = .ok (.sipush 1000, 3) := by decide +kernel
theorem dX4_simulate_82 : decode cX4_simulate 82 = .ok (.aload_n 0, 1) := by decide +kernel
theorem dX4_simulate_83 : decode cX4_simulate 83 = .ok (.getfield 16, 3) := by decide +kernel
theorem dX4_simulate_86 : decode cX4_simulate 86 = .ok (.invokestatic 175, 3) := by decide +kernel
theorem dX4_simulate_89 : decode cX4_simulate 89 = .ok (.imul, 1) := by decide +kernel
theorem dX4_simulate_90 : decode cX4_simulate 90 = .ok (.aload_n 0, 1) := by decide +kernel
theorem dX4_simulate_91 : decode cX4_simulate 91 = .ok (.getfield 16, 3) := by decide +kernel
theorem dX4_simulate_94 : decode cX4_simulate 94 = .ok (.iconst 5, 1) := by decide +kernel
theorem dX4_simulate_95 : decode cX4_simulate 95 = .ok (.invokestatic 53, 3) := by decide +kernel
theorem dX4_simulate_98 : decode cX4_simulate 98 = .ok (.iadd, 1) := by decide +kernel
theorem dX4_simulate_99 : decode cX4_simulate 99 = .ok (.aload_n 0, 1) := by decide +kernel
theorem dX4_simulate_100 : decode cX4_simulate 100 = .ok (.getfield 13, 3) := by decide +kernel
theorem dX4_simulate_103 : decode cX4_simulate 103 = .ok (.iconst 5, 1) := by decide +kernel
theorem dX4_simulate_104 : decode cX4_simulate 104 = .ok (.invokestatic 53, 3) := by decide +kernel
theorem dX4_simulate_107 : decode cX4_simulate 107 = .ok (.isub, 1) := by decide +kernel
theorem dX4_simulate_108 : decode cX4_simulate 108 = .ok (.ireturn, 1) := by decide +kernel
theorem dX4_save_0 : decode cX4_save 0 = .ok (.aload_n 0, 1) := by decide +kernel
theorem dX4_save_1 : decode cX4_save 1 = .ok (.iload_n 1, 1) := by decide +kernel
theorem dX4_save_2 : decode cX4_save 2 = .ok (.i2l, 1) := by decide +kernel
theorem dX4_save_3 : decode cX4_save 3 = .ok (.lconst 0, 1) := by decide +kernel
theorem dX4_save_4 : decode cX4_save 4 = .ok (.lconst 1, 1) := by decide +kernel
theorem dX4_save_5 : decode cX4_save 5 = .ok (.invokestatic 39, 3) := by decide +kernel
theorem dX4_save_8 : decode cX4_save 8 = .ok (.ifCond .eq 7, 3) := by decide +kernel
theorem dX4_save_11 : decode cX4_save 11 = .ok (.iconst 0, 1) := by decide +kernel
theorem dX4_save_12 : decode cX4_save 12 = .ok (.goto 4, 3) := by decide +kernel
theorem dX4_save_15 : decode cX4_save 15 = .ok (.iconst 1, 1) := by decide +kernel
theorem dX4_save_16 : decode cX4_save 16 = .ok (.invokevirtual 109, 3) := by decide +kernel
theorem dX4_save_19 : decode cX4_save 19 = .ok (.ifCond .eq 5, 3) := by decide +kernel
theorem dX4_save_22 : decode cX4_save 22 = .ok (.iconst 0, 1) := by decide +kernel
theorem dX4_save_23 : decode cX4_save 23 = .ok (.ireturn, 1) := by decide +kernel
theorem dX4_save_24 : decode cX4_save 24 = .ok (.aload_n 0, 1) := by decide +kernel
theorem dX4_save_25 : decode cX4_save 25 = .ok (.getfield 13, 3) := by decide +kernel
theorem dX4_save_28 : decode cX4_save 28 = .ok (.iconst 0, 1) := by decide +kernel
theorem dX4_save_29 : decode cX4_save 29 = .ok (.aload_n 0, 1) := by decide +kernel
theorem dX4_save_30 : decode cX4_save 30 = .ok (.getfield 22, 3) := by decide +kernel
theorem dX4_save_33 : decode cX4_save 33 = .ok (.sipush 262, 3) := by decide +kernel
theorem dX4_save_36 : decode cX4_save 36 = .ok (.iload_n 1, 1) := by decide +kernel
theorem dX4_save_37 : decode cX4_save 37 = .ok (.imul, 1) := by decide +kernel
theorem dX4_save_38 : decode cX4_save 38 = .ok (.invokestatic 166, 3) := by decide +kernel
theorem dX4_save_41 : decode cX4_save 41 = .ok (.aload_n 0, 1) := by decide +kernel
theorem dX4_save_42 : decode cX4_save 42 = .ok (.getfield 25, 3) := by decide +kernel
theorem dX4_save_45 : decode cX4_save 45 = .ok (.iload_n 1, 1) := by decide +kernel
theorem dX4_save_46 : decode cX4_save 46 = .ok (.iconst 1, 1) := by decide +kernel
theorem dX4_save_47 : decode cX4_save 47 = .ok (.bastore, 1) := by decide +kernel
theorem dX4_save_48 : decode cX4_save 48 = .ok (.aload_n 0, 1) := by decide +kernel
theorem dX4_save_49 : decode cX4_save 49 = .ok (.getfield 13, 3) := by decide +kernel
theorem dX4_save_52 : decode cX4_save 52 = .ok (.invokestatic 175, 3) := by decide +kernel
theorem dX4_save_55 : decode cX4_save 55 = .ok (.ireturn, 1) := by decide +kernel
theorem dX4_restore_0 : decode cX4_restore 0 = .ok (.aload_n 0, 1) := by decide +kernel
theorem dX4_restore_1 : decode cX4_restore 1 = .ok (.iload_n 1, 1) := by decide +kernel
theorem dX4_restore_2 : decode cX4_restore 2 = .ok (.i2l, 1) := by decide +kernel
theorem dX4_restore_3 : decode cX4_restore 3 = .ok (.lconst 0, 1) := by decide +kernel
theorem dX4_restore_4 : decode cX4_restore 4 = .ok (.lconst 1, 1) := by decide +kernel
theorem dX4_restore_5 : decode cX4_restore 5 = .ok (.invokestatic 39, 3) := by decide +kernel
theorem dX4_restore_8 : decode cX4_restore 8 = .ok (.ifCond .ne 7, 3) := by decide +kernel
theorem dX4_restore_11 : decode cX4_restore 11 = .ok (.iconst 1, 1) := by decide +kernel
theorem dX4_restore_12 : decode cX4_restore 12 = .ok (.goto 17, 3) := by decide +kernel
theorem dX4_restore_15 : decode cX4_restore 15 = .ok (.aload_n 0, 1) := by decide +kernel
theorem dX4_restore_16 : decode cX4_restore 16 = .ok (.getfield 25, 3) := by decide +kernel
theorem dX4_restore_19 : decode cX4_restore 19 = .ok (.iload_n 1, 1) := by decide +kernel
theorem dX4_restore_20 : decode cX4_restore 20 = .ok (.baload, 1) := by decide +kernel
theorem dX4_restore_21 : decode cX4_restore 21 = .ok (.ifCond .ne 7, 3) := by decide +kernel
theorem dX4_restore_24 : decode cX4_restore 24 = .ok (.iconst 2, 1) := by decide +kernel
theorem dX4_restore_25 : decode cX4_restore 25 = .ok (.goto 4, 3) := by decide +kernel
theorem dX4_restore_28 : decode cX4_restore 28 = .ok (.iconst 0, 1) := by decide +kernel
theorem dX4_restore_29 : decode cX4_restore 29 = .ok (.invokevirtual 109, 3) := by decide +kernel
theorem dX4_restore_32 : decode cX4_restore 32 = .ok (.ifCond .eq 5, 3) := by decide +kernel
theorem dX4_restore_35 : decode cX4_restore 35 = .ok (.iconst 0, 1) := by decide +kernel
theorem dX4_restore_36 : decode cX4_restore 36 = .ok (.ireturn, 1) := by decide +kernel
theorem dX4_restore_37 : decode cX4_restore 37 = .ok (.aload_n 0, 1) := by decide +kernel
theorem dX4_restore_38 : decode cX4_restore 38 = .ok (.getfield 22, 3) := by decide +kernel
theorem dX4_restore_41 : decode cX4_restore 41 = .ok (.sipush 262, 3) := by decide +kernel
theorem dX4_restore_44 : decode cX4_restore 44 = .ok (.iload_n 1, 1) := by decide +kernel
theorem dX4_restore_45 : decode cX4_restore 45 = .ok (.imul, 1) := by decide +kernel
theorem dX4_restore_46 : decode cX4_restore 46 = .ok (.aload_n 0, 1) := by decide +kernel
theorem dX4_restore_47 : decode cX4_restore 47 = .ok (.getfield 13, 3) := by decide +kernel
theorem dX4_restore_50 : decode cX4_restore 50 = .ok (.iconst 0, 1) := by decide +kernel
theorem dX4_restore_51 : decode cX4_restore 51 = .ok (.invokestatic 166, 3) := by decide +kernel
theorem dX4_restore_54 : decode cX4_restore 54 = .ok (.aload_n 0, 1) := by decide +kernel
theorem dX4_restore_55 : decode cX4_restore 55 = .ok (.iconst 0, 1) := by decide +kernel
theorem dX4_restore_56 : decode cX4_restore 56 = .ok (.putfield 170, 3) := by decide +kernel
theorem dX4_restore_59 : decode cX4_restore 59 = .ok (.aload_n 0, 1) := by decide +kernel
theorem dX4_restore_60 : decode cX4_restore 60 = .ok (.getfield 13, 3) := by decide +kernel
theorem dX4_restore_63 : decode cX4_restore 63 = .ok (.invokestatic 175, 3) := by decide +kernel
theorem dX4_restore_66 : decode cX4_restore 66 = .ok (.ireturn, 1) := by decide +kernel
theorem dJ9_max_7cf53_0 : decode cJ9_max_7cf53 0 = .ok (.iload_n 0, 1) := by decide +kernel
theorem dJ9_max_7cf53_1 : decode cJ9_max_7cf53 1 = .ok (.iload_n 1, 1) := by decide +kernel
theorem dJ9_max_7cf53_2 : decode cJ9_max_7cf53 2 = .ok (.if_icmp .lt 7, 3) := by decide +kernel
theorem dJ9_max_7cf53_5 : decode cJ9_max_7cf53 5 = .ok (.iload_n 0, 1) := by decide +kernel
theorem dJ9_max_7cf53_6 : decode cJ9_max_7cf53 6 = .ok (.goto 4, 3) := by decide +kernel
theorem dJ9_max_7cf53_9 : decode cJ9_max_7cf53 9 = .ok (.iload_n 1, 1) := by decide +kernel
theorem dJ9_max_7cf53_10 : decode cJ9_max_7cf53 10 = .ok (.ireturn, 1) := by decide +kernel
theorem dJ9_min_7cf53_0 : decode cJ9_min_7cf53 0 = .ok (.iload_n 0, 1) := by decide +kernel
theorem dJ9_min_7cf53_1 : decode cJ9_min_7cf53 1 = .ok (.iload_n 1, 1) := by decide +kernel
theorem dJ9_min_7cf53_2 : decode cJ9_min_7cf53 2 = .ok (.if_icmp .gt 7, 3) := by decide +kernel
theorem dJ9_min_7cf53_5 : decode cJ9_min_7cf53 5 = .ok (.iload_n 0, 1) := by decide +kernel
theorem dJ9_min_7cf53_6 : decode cJ9_min_7cf53 6 = .ok (.goto 4, 3) := by decide +kernel
theorem dJ9_min_7cf53_9 : decode cJ9_min_7cf53 9 = .ok (.iload_n 1, 1) := by decide +kernel
theorem dJ9_min_7cf53_10 : decode cJ9_min_7cf53 10 = .ok (.ireturn, 1) := by decide +kernel
theorem dJ0_length_8abf5_0 : decode cJ0_length_8abf5 0 = .ok (.aload_n 0, 1) := by decide +kernel
theorem dJ0_length_8abf5_1 : decode cJ0_length_8abf5 1 = .ok (.getfield 9, 3) := by decide +kernel
theorem dJ0_length_8abf5_4 : decode cJ0_length_8abf5 4 = .ok (.arraylength, 1) := by decide +kernel
theorem dJ0_length_8abf5_5 : decode cJ0_length_8abf5 5 = .ok (.aload_n 0, 1) := by decide +kernel
theorem dJ0_length_8abf5_6 : decode cJ0_length_8abf5 6 = .ok (.invokevirtual 335, 3) := by decide +kernel
theorem dJ0_length_8abf5_9 : decode cJ0_length_8abf5 9 = .ok (.ishr, 1) := by decide +kernel
theorem dJ0_length_8abf5_10 : decode cJ0_length_8abf5 10 = .ok (.ireturn, 1) := by decide +kernel
theorem dJ0_isEmpty_aae02_0 : decode cJ0_isEmpty_aae02 0 = .ok (.aload_n 0, 1) := by decide +kernel
theorem dJ0_isEmpty_aae02_1 : decode cJ0_isEmpty_aae02 1 = .ok (.getfield 9, 3) := by decide +kernel
theorem dJ0_isEmpty_aae02_4 : decode cJ0_isEmpty_aae02 4 = .ok (.arraylength, 1) := by decide +kernel
theorem dJ0_isEmpty_aae02_5 : decode cJ0_isEmpty_aae02 5 = .ok (.ifCond .ne 7, 3) := by decide +kernel
theorem dJ0_isEmpty_aae02_8 : decode cJ0_isEmpty_aae02 8 = .ok (.iconst 1, 1) := by decide +kernel
theorem dJ0_isEmpty_aae02_9 : decode cJ0_isEmpty_aae02 9 = .ok (.goto 4, 3) := by decide +kernel
theorem dJ0_isEmpty_aae02_12 : decode cJ0_isEmpty_aae02 12 = .ok (.iconst 0, 1) := by decide +kernel
theorem dJ0_isEmpty_aae02_13 : decode cJ0_isEmpty_aae02 13 = .ok (.ireturn, 1) := by decide +kernel
theorem dJ0_charAt_5068e_0 : decode cJ0_charAt_5068e 0 = .ok (.aload_n 0, 1) := by decide +kernel
theorem dJ0_charAt_5068e_1 : decode cJ0_charAt_5068e 1 = .ok (.invokevirtual 492, 3) := by decide +kernel
theorem dJ0_charAt_5068e_4 : decode cJ0_charAt_5068e 4 = .ok (.ifCond .eq 12, 3) := by decide +kernel
theorem dJ0_charAt_5068e_7 : decode cJ0_charAt_5068e 7 = .ok (.aload_n 0, 1) := by decide +kernel
theorem dJ0_charAt_5068e_8 : decode cJ0_charAt_5068e 8 = .ok (.getfield 9, 3) := by decide +kernel
theorem dJ0_charAt_5068e_11 : decode cJ0_charAt_5068e 11 = .ok (.iload_n 1, 1) := by decide +kernel
theorem dJ0_charAt_5068e_12 : decode cJ0_charAt_5068e 12 = .ok (.invokestatic 495, 3) := by decide +kernel
theorem dJ0_charAt_5068e_15 : decode cJ0_charAt_5068e 15 = .ok (.ireturn, 1) := by decide +kernel
theorem dJ0_charAt_5068e_16 : decode cJ0_charAt_5068e 16 = .ok (.aload_n 0, 1) := by decide +kernel
theorem dJ0_charAt_5068e_17 : decode cJ0_charAt_5068e 17 = .ok (.getfield 9, 3) := by decide +kernel
theorem dJ0_charAt_5068e_20 : decode cJ0_charAt_5068e 20 = .ok (.iload_n 1, 1) := by decide +kernel
theorem dJ0_charAt_5068e_21 : decode cJ0_charAt_5068e 21 = .ok (.invokestatic 498, 3) := by decide +kernel
theorem dJ0_charAt_5068e_24 : decode cJ0_charAt_5068e 24 = .ok (.ireturn, 1) := by decide +kernel
theorem dJ0_coder_7d493_0 : decode cJ0_coder_7d493 0 = .ok (.getstatic 38, 3) := by decide +kernel
theorem dJ0_coder_7d493_3 : decode cJ0_coder_7d493 3 = .ok (.ifCond .eq 10, 3) := by decide +kernel
theorem dJ0_coder_7d493_6 : decode cJ0_coder_7d493 6 = .ok (.aload_n 0, 1) := by decide +kernel
theorem dJ0_coder_7d493_7 : decode cJ0_coder_7d493 7 = .ok (.getfield 15, 3) := by decide +kernel
theorem dJ0_coder_7d493_10 : decode cJ0_coder_7d493 10 = .ok (.goto 4, 3) := by decide +kernel
theorem dJ0_coder_7d493_13 : decode cJ0_coder_7d493 13 = .ok (.iconst 1, 1) := by decide +kernel
theorem dJ0_coder_7d493_14 : decode cJ0_coder_7d493 14 = .ok (.ireturn, 1) := by decide +kernel
theorem dJ0_isLatin1_aae02_0 : decode cJ0_isLatin1_aae02 0 = .ok (.getstatic 38, 3) := by decide +kernel
theorem dJ0_isLatin1_aae02_3 : decode cJ0_isLatin1_aae02 3 = .ok (.ifCond .eq 14, 3) := by decide +kernel
theorem dJ0_isLatin1_aae02_6 : decode cJ0_isLatin1_aae02 6 = .ok (.aload_n 0, 1) := by decide +kernel
theorem dJ0_isLatin1_aae02_7 : decode cJ0_isLatin1_aae02 7 = .ok (.getfield 15, 3) := by decide +kernel
theorem dJ0_isLatin1_aae02_10 : decode cJ0_isLatin1_aae02 10 = .ok (.ifCond .ne 7, 3) := by decide +kernel
theorem dJ0_isLatin1_aae02_13 : decode cJ0_isLatin1_aae02 13 = .ok (.iconst 1, 1) := by decide +kernel
theorem dJ0_isLatin1_aae02_14 : decode cJ0_isLatin1_aae02 14 = .ok (.goto 4, 3) := by decide +kernel
theorem dJ0_isLatin1_aae02_17 : decode cJ0_isLatin1_aae02 17 = .ok (.iconst 0, 1) := by decide +kernel
theorem dJ0_isLatin1_aae02_18 : decode cJ0_isLatin1_aae02 18 = .ok (.ireturn, 1) := by decide +kernel
theorem dJ0_checkIndex_df160_0 : decode cJ0_checkIndex_df160 0 = .ok (.iload_n 0, 1) := by decide +kernel
theorem dJ0_checkIndex_df160_1 : decode cJ0_checkIndex_df160 1 = .ok (.iload_n 1, 1) := by decide +kernel
theorem dJ0_checkIndex_df160_2 : decode cJ0_checkIndex_df160 2 = .ok (.getstatic 1053, 3) := by decide +kernel
theorem dJ0_checkIndex_df160_5 : decode cJ0_checkIndex_df160 5 = .ok (.invokestatic 1059, 3) := by decide +kernel
theorem dJ0_checkIndex_df160_8 : decode cJ0_checkIndex_df160 8 = .ok (.pop, 1) := by decide +kernel
theorem dJ0_checkIndex_df160_9 : decode cJ0_checkIndex_df160 9 = .ok (.return_, 1) := by decide +kernel
theorem dJ1_charAt_3b067_0 : decode cJ1_charAt_3b067 0 = .ok (.iload_n 1, 1) := by decide +kernel
theorem dJ1_charAt_3b067_1 : decode cJ1_charAt_3b067 1 = .ok (.aload_n 0, 1) := by decide +kernel
theorem dJ1_charAt_3b067_2 : decode cJ1_charAt_3b067 2 = .ok (.arraylength, 1) := by decide +kernel
theorem dJ1_charAt_3b067_3 : decode cJ1_charAt_3b067 3 = .ok (.invokestatic 9, 3) := by decide +kernel
theorem dJ1_charAt_3b067_6 : decode cJ1_charAt_3b067 6 = .ok (.aload_n 0, 1) := by decide +kernel
theorem dJ1_charAt_3b067_7 : decode cJ1_charAt_3b067 7 = .ok (.iload_n 1, 1) := by decide +kernel
theorem dJ1_charAt_3b067_8 : decode cJ1_charAt_3b067 8 = .ok (.baload, 1) := by decide +kernel
theorem dJ1_charAt_3b067_9 : decode cJ1_charAt_3b067 9 = .ok (.sipush 255, 3) := by decide +kernel
theorem dJ1_charAt_3b067_12 : decode cJ1_charAt_3b067 12 = .ok (.iand, 1) := by decide +kernel
theorem dJ1_charAt_3b067_13 : decode cJ1_charAt_3b067 13 = .ok (.i2c, 1) := by decide +kernel
theorem dJ1_charAt_3b067_14 : decode cJ1_charAt_3b067 14 = .ok (.ireturn, 1) := by decide +kernel
theorem dJ2_getChar_3b067_0 : decode cJ2_getChar_3b067 0 = .ok (.getstatic 44, 3) := by decide +kernel
theorem dJ2_getChar_3b067_3 : decode cJ2_getChar_3b067 3 = .ok (.ifCond .ne 25, 3) := by decide +kernel
theorem dJ2_getChar_3b067_6 : decode cJ2_getChar_3b067 6 = .ok (.iload_n 1, 1) := by decide +kernel
theorem dJ2_getChar_3b067_7 : decode cJ2_getChar_3b067 7 = .ok (.ifCond .lt 11, 3) := by decide +kernel
theorem dJ2_getChar_3b067_10 : decode cJ2_getChar_3b067 10 = .ok (.iload_n 1, 1) := by decide +kernel
theorem dJ2_getChar_3b067_11 : decode cJ2_getChar_3b067 11 = .ok (.aload_n 0, 1) := by decide +kernel
theorem dJ2_getChar_3b067_12 : decode cJ2_getChar_3b067 12 = .ok (.invokestatic 48, 3) := by decide +kernel
theorem dJ2_getChar_3b067_15 : decode cJ2_getChar_3b067 15 = .ok (.if_icmp .lt 13, 3) := by decide +kernel
theorem dJ2_getChar_3b067_18 : decode cJ2_getChar_3b067 18 = .ok (.new 52, 3) := by decide +kernel
theorem dJ2_getChar_3b067_21 : decode cJ2_getChar_3b067 21 = .ok (.dup, 1) := by decide +kernel
theorem dJ2_getChar_3b067_22 : decode cJ2_getChar_3b067 22 = .ok (.ldc 54, 2) := by decide +kernel
theorem dJ2_getChar_3b067_24 : decode cJ2_getChar_3b067 24 = .ok (.invokespecial 56, 3) := by decide +kernel
theorem dJ2_getChar_3b067_27 : decode cJ2_getChar_3b067 27 = .ok (.athrow, 1) := by decide +kernel
theorem dJ2_getChar_3b067_28 : decode cJ2_getChar_3b067 28 = .ok (.iload_n 1, 1) := by decide +kernel
theorem dJ2_getChar_3b067_29 : decode cJ2_getChar_3b067 29 = .ok (.iconst 1, 1) := by decide +kernel
theorem dJ2_getChar_3b067_30 : decode cJ2_getChar_3b067 30 = .ok (.ishl, 1) := by decide +kernel
theorem dJ2_getChar_3b067_31 : decode cJ2_getChar_3b067 31 = .ok (.istore_n 1, 1) := by decide +kernel
theorem dJ2_getChar_3b067_32 : decode cJ2_getChar_3b067 32 = .ok (.aload_n 0, 1) := by decide +kernel
theorem dJ2_getChar_3b067_33 : decode cJ2_getChar_3b067 33 = .ok (.iload_n 1, 1) := by decide +kernel
theorem dJ2_getChar_3b067_34 : decode cJ2_getChar_3b067 34 = .ok (.iinc 1 1, 3) := by decide +kernel
theorem dJ2_getChar_3b067_37 : decode cJ2_getChar_3b067 37 = .ok (.baload, 1) := by decide +kernel
theorem dJ2_getChar_3b067_38 : decode cJ2_getChar_3b067 38 = .ok (.sipush 255, 3) := by decide +kernel
theorem dJ2_getChar_3b067_41 : decode cJ2_getChar_3b067 41 = .ok (.iand, 1) := by decide +kernel
theorem dJ2_getChar_3b067_42 : decode cJ2_getChar_3b067 42 = .ok (.getstatic 59, 3) := by decide +kernel
theorem dJ2_getChar_3b067_45 : decode cJ2_getChar_3b067 45 = .ok (.ishl, 1) := by decide +kernel
theorem dJ2_getChar_3b067_46 : decode cJ2_getChar_3b067 46 = .ok (.aload_n 0, 1) := by decide +kernel
theorem dJ2_getChar_3b067_47 : decode cJ2_getChar_3b067 47 = .ok (.iload_n 1, 1) := by decide +kernel
theorem dJ2_getChar_3b067_48 : decode cJ2_getChar_3b067 48 = .ok (.baload, 1) := by decide +kernel
theorem dJ2_getChar_3b067_49 : decode cJ2_getChar_3b067 49 = .ok (.sipush 255, 3) := by decide +kernel
theorem dJ2_getChar_3b067_52 : decode cJ2_getChar_3b067 52 = .ok (.iand, 1) := by decide +kernel
theorem dJ2_getChar_3b067_53 : decode cJ2_getChar_3b067 53 = .ok (.getstatic 63, 3) := by decide +kernel
theorem dJ2_getChar_3b067_56 : decode cJ2_getChar_3b067 56 = .ok (.ishl, 1) := by decide +kernel
theorem dJ2_getChar_3b067_57 : decode cJ2_getChar_3b067 57 = .ok (.ior, 1) := by decide +kernel
theorem dJ2_getChar_3b067_58 : decode cJ2_getChar_3b067 58 = .ok (.i2c, 1) := by decide +kernel
theorem dJ2_getChar_3b067_59 : decode cJ2_getChar_3b067 59 = .ok (.ireturn, 1) := by decide +kernel
theorem dJ2_length_9d52b_0 : decode cJ2_length_9d52b 0 = .ok (.aload_n 0, 1) := by decide +kernel
theorem dJ2_length_9d52b_1 : decode cJ2_length_9d52b 1 = .ok (.arraylength, 1) := by decide +kernel
theorem dJ2_length_9d52b_2 : decode cJ2_length_9d52b 2 = .ok (.iconst 1, 1) := by decide +kernel
theorem dJ2_length_9d52b_3 : decode cJ2_length_9d52b 3 = .ok (.ishr, 1) := by decide +kernel
theorem dJ2_length_9d52b_4 : decode cJ2_length_9d52b 4 = .ok (.ireturn, 1) := by decide +kernel
theorem dJ2_charAt_3b067_0 : decode cJ2_charAt_3b067 0 = .ok (.iload_n 1, 1) := by decide +kernel
theorem dJ2_charAt_3b067_1 : decode cJ2_charAt_3b067 1 = .ok (.aload_n 0, 1) := by decide +kernel
theorem dJ2_charAt_3b067_2 : decode cJ2_charAt_3b067 2 = .ok (.invokestatic 67, 3) := by decide +kernel
theorem dJ2_charAt_3b067_5 : decode cJ2_charAt_3b067 5 = .ok (.aload_n 0, 1) := by decide +kernel
theorem dJ2_charAt_3b067_6 : decode cJ2_charAt_3b067 6 = .ok (.iload_n 1, 1) := by decide +kernel
theorem dJ2_charAt_3b067_7 : decode cJ2_charAt_3b067 7 = .ok (.invokestatic 71, 3) := by decide +kernel
theorem dJ2_charAt_3b067_10 : decode cJ2_charAt_3b067 10 = .ok (.ireturn, 1) := by decide +kernel
theorem dJ2_checkIndex_2214a_0 : decode cJ2_checkIndex_2214a 0 = .ok (.iload_n 0, 1) := by decide +kernel
theorem dJ2_checkIndex_2214a_1 : decode cJ2_checkIndex_2214a 1 = .ok (.aload_n 1, 1) := by decide +kernel
theorem dJ2_checkIndex_2214a_2 : decode cJ2_checkIndex_2214a 2 = .ok (.invokestatic 48, 3) := by decide +kernel
theorem dJ2_checkIndex_2214a_5 : decode cJ2_checkIndex_2214a 5 = .ok (.invokestatic 414, 3) := by decide +kernel
theorem dJ2_checkIndex_2214a_8 : decode cJ2_checkIndex_2214a 8 = .ok (.return_, 1) := by decide +kernel
theorem dJ3_checkIndex_8e157_0 : decode cJ3_checkIndex_8e157 0 = .ok (.iload_n 0, 1) := by decide +kernel
theorem dJ3_checkIndex_8e157_1 : decode cJ3_checkIndex_8e157 1 = .ok (.ifCond .lt 8, 3) := by decide +kernel
theorem dJ3_checkIndex_8e157_4 : decode cJ3_checkIndex_8e157 4 = .ok (.iload_n 0, 1) := by decide +kernel
theorem dJ3_checkIndex_8e157_5 : decode cJ3_checkIndex_8e157 5 = .ok (.iload_n 1, 1) := by decide +kernel
theorem dJ3_checkIndex_8e157_6 : decode cJ3_checkIndex_8e157 6 = .ok (.if_icmp .lt 10, 3) := by decide +kernel
theorem dJ3_checkIndex_8e157_9 : decode cJ3_checkIndex_8e157 9 = .ok (.aload_n 2, 1) := by decide +kernel
theorem dJ3_checkIndex_8e157_10 : decode cJ3_checkIndex_8e157 10 = .ok (.iload_n 0, 1) := by decide +kernel
theorem dJ3_checkIndex_8e157_11 : decode cJ3_checkIndex_8e157 11 = .ok (.iload_n 1, 1) := by decide +kernel
theorem dJ3_checkIndex_8e157_12 : decode cJ3_checkIndex_8e157 12 = .ok (.invokestatic 95, 3) := by decide +kernel
theorem dJ3_checkIndex_8e157_15 : decode cJ3_checkIndex_8e157 15 = .ok (.athrow, 1) := by decide +kernel
theorem dJ3_checkIndex_8e157_16 : decode cJ3_checkIndex_8e157 16 = .ok (.iload_n 0, 1) := by decide +kernel
theorem dJ3_checkIndex_8e157_17 : decode cJ3_checkIndex_8e157 17 = .ok (.ireturn, 1) := by decide +kernel
theorem dL_append_0 : decode cL_append 0 = .ok (.aload_n 2, 1) := by decide +kernel
theorem dL_append_1 : decode cL_append 1 = .ok (.iconst 0, 1) := by decide +kernel
theorem dL_append_2 : decode cL_append 2 = .ok (.aload_n 0, 1) := by decide +kernel
theorem dL_append_3 : decode cL_append 3 = .ok (.iload_n 1, 1) := by decide +kernel
theorem dL_append_4 : decode cL_append 4 = .ok (.invokevirtual 7, 3) := by decide +kernel
theorem dL_append_7 : decode cL_append 7 = .ok (.i2l, 1) := by decide +kernel
theorem dL_append_8 : decode cL_append 8 = .ok (.lastore, 1) := by decide +kernel
theorem dL_append_9 : decode cL_append 9 = .ok (.goto 9, 3) := by decide +kernel
theorem dL_append_12 : decode cL_append 12 = .ok (.astore_n 3, 1) := by decide +kernel
theorem dL_append_13 : decode cL_append 13 = .ok (.iconst 1, 1) := by decide +kernel
theorem dL_append_14 : decode cL_append 14 = .ok (.ireturn, 1) := by decide +kernel
theorem dL_append_15 : decode cL_append 15 = .ok (.astore_n 3, 1) := by decide +kernel
theorem dL_append_16 : decode cL_append 16 = .ok (.iconst 2, 1) := by decide +kernel
theorem dL_append_17 : decode cL_append 17 = .ok (.ireturn, 1) := by decide +kernel
theorem dL_append_18 : decode cL_append 18 = .ok (.iconst 0, 1) := by decide +kernel
theorem dL_append_19 : decode cL_append 19 = .ok (.ireturn, 1) := by decide +kernel
theorem dL_load_0 : decode cL_load 0 = .ok (.aload_n 1, 1) := by decide +kernel
theorem dL_load_1 : decode cL_load 1 = .ok (.iconst 0, 1) := by decide +kernel
theorem dL_load_2 : decode cL_load 2 = .ok (.aload_n 0, 1) := by decide +kernel
theorem dL_load_3 : decode cL_load 3 = .ok (.invokevirtual 17, 3) := by decide +kernel
theorem dL_load_6 : decode cL_load 6 = .ok (.i2l, 1) := by decide +kernel
theorem dL_load_7 : decode cL_load 7 = .ok (.lastore, 1) := by decide +kernel
theorem dL_load_8 : decode cL_load 8 = .ok (.goto 6, 3) := by decide +kernel
theorem dL_load_11 : decode cL_load 11 = .ok (.astore_n 2, 1) := by decide +kernel
theorem dL_load_12 : decode cL_load 12 = .ok (.iconst 1, 1) := by decide +kernel
theorem dL_load_13 : decode cL_load 13 = .ok (.ireturn, 1) := by decide +kernel
theorem dL_load_14 : decode cL_load 14 = .ok (.iconst 0, 1) := by decide +kernel
theorem dL_load_15 : decode cL_load 15 = .ok (.ireturn, 1) := by decide +kernel
theorem dL_about_0 : decode cL_about 0 = .ok (.aload_n 2, 1) := by decide +kernel
theorem dL_about_1 : decode cL_about 1 = .ok (.iconst 0, 1) := by decide +kernel
theorem dL_about_2 : decode cL_about 2 = .ok (.aload_n 0, 1) := by decide +kernel
theorem dL_about_3 : decode cL_about 3 = .ok (.iload_n 1, 1) := by decide +kernel
theorem dL_about_4 : decode cL_about 4 = .ok (.invokevirtual 21, 3) := by decide +kernel
theorem dL_about_7 : decode cL_about 7 = .ok (.i2l, 1) := by decide +kernel
theorem dL_about_8 : decode cL_about 8 = .ok (.lastore, 1) := by decide +kernel
theorem dL_about_9 : decode cL_about 9 = .ok (.goto 6, 3) := by decide +kernel
theorem dL_about_12 : decode cL_about 12 = .ok (.astore_n 3, 1) := by decide +kernel
theorem dL_about_13 : decode cL_about 13 = .ok (.iconst 1, 1) := by decide +kernel
theorem dL_about_14 : decode cL_about 14 = .ok (.ireturn, 1) := by decide +kernel
theorem dL_about_15 : decode cL_about 15 = .ok (.iconst 0, 1) := by decide +kernel
theorem dL_about_16 : decode cL_about 16 = .ok (.ireturn, 1) := by decide +kernel
theorem dL_space_0 : decode cL_space 0 = .ok (.aload_n 3, 1) := by decide +kernel
theorem dL_space_1 : decode cL_space 1 = .ok (.iconst 0, 1) := by decide +kernel
theorem dL_space_2 : decode cL_space 2 = .ok (.aload_n 0, 1) := by decide +kernel
theorem dL_space_3 : decode cL_space 3 = .ok (.iload_n 1, 1) := by decide +kernel
theorem dL_space_4 : decode cL_space 4 = .ok (.iload_n 2, 1) := by decide +kernel
theorem dL_space_5 : decode cL_space 5 = .ok (.invokevirtual 24, 3) := by decide +kernel
theorem dL_space_8 : decode cL_space 8 = .ok (.i2l, 1) := by decide +kernel
theorem dL_space_9 : decode cL_space 9 = .ok (.lastore, 1) := by decide +kernel
theorem dL_space_10 : decode cL_space 10 = .ok (.goto 11, 3) := by decide +kernel
theorem dL_space_13 : decode cL_space 13 = .ok (.astore 4, 2) := by decide +kernel
theorem dL_space_15 : decode cL_space 15 = .ok (.iconst 1, 1) := by decide +kernel
theorem dL_space_16 : decode cL_space 16 = .ok (.ireturn, 1) := by decide +kernel
theorem dL_space_17 : decode cL_space 17 = .ok (.astore 4, 2) := by decide +kernel
theorem dL_space_19 : decode cL_space 19 = .ok (.iconst 2, 1) := by decide +kernel
theorem dL_space_20 : decode cL_space 20 = .ok (.ireturn, 1) := by decide +kernel
theorem dL_space_21 : decode cL_space 21 = .ok (.iconst 0, 1) := by decide +kernel
theorem dL_space_22 : decode cL_space 22 = .ok (.ireturn, 1) := by decide +kernel
theorem dL_loans_0 : decode cL_loans 0 = .ok (.aload_n 3, 1) := by decide +kernel
theorem dL_loans_1 : decode cL_loans 1 = .ok (.iconst 0, 1) := by decide +kernel
theorem dL_loans_2 : decode cL_loans 2 = .ok (.aload_n 0, 1) := by decide +kernel
theorem dL_loans_3 : decode cL_loans 3 = .ok (.iload_n 1, 1) := by decide +kernel
theorem dL_loans_4 : decode cL_loans 4 = .ok (.iload_n 2, 1) := by decide +kernel
theorem dL_loans_5 : decode cL_loans 5 = .ok (.invokevirtual 30, 3) := by decide +kernel
theorem dL_loans_8 : decode cL_loans 8 = .ok (.i2l, 1) := by decide +kernel
theorem dL_loans_9 : decode cL_loans 9 = .ok (.lastore, 1) := by decide +kernel
theorem dL_loans_10 : decode cL_loans 10 = .ok (.goto 7, 3) := by decide +kernel
theorem dL_loans_13 : decode cL_loans 13 = .ok (.astore 4, 2) := by decide +kernel
theorem dL_loans_15 : decode cL_loans 15 = .ok (.iconst 1, 1) := by decide +kernel
theorem dL_loans_16 : decode cL_loans 16 = .ok (.ireturn, 1) := by decide +kernel
theorem dL_loans_17 : decode cL_loans 17 = .ok (.iconst 0, 1) := by decide +kernel
theorem dL_loans_18 : decode cL_loans 18 = .ok (.ireturn, 1) := by decide +kernel
theorem dL_time_0 : decode cL_time 0 = .ok (.aload_n 3, 1) := by decide +kernel
theorem dL_time_1 : decode cL_time 1 = .ok (.iconst 0, 1) := by decide +kernel
theorem dL_time_2 : decode cL_time 2 = .ok (.aload_n 0, 1) := by decide +kernel
theorem dL_time_3 : decode cL_time 3 = .ok (.iload_n 1, 1) := by decide +kernel
theorem dL_time_4 : decode cL_time 4 = .ok (.iload_n 2, 1) := by decide +kernel
theorem dL_time_5 : decode cL_time 5 = .ok (.invokevirtual 33, 3) := by decide +kernel
theorem dL_time_8 : decode cL_time 8 = .ok (.i2l, 1) := by decide +kernel
theorem dL_time_9 : decode cL_time 9 = .ok (.lastore, 1) := by decide +kernel
theorem dL_time_10 : decode cL_time 10 = .ok (.goto 7, 3) := by decide +kernel
theorem dL_time_13 : decode cL_time 13 = .ok (.astore 4, 2) := by decide +kernel
theorem dL_time_15 : decode cL_time 15 = .ok (.iconst 1, 1) := by decide +kernel
theorem dL_time_16 : decode cL_time 16 = .ok (.ireturn, 1) := by decide +kernel
theorem dL_time_17 : decode cL_time 17 = .ok (.iconst 0, 1) := by decide +kernel
theorem dL_time_18 : decode cL_time 18 = .ok (.ireturn, 1) := by decide +kernel
theorem dL_oldest_0 : decode cL_oldest 0 = .ok (.aload_n 3, 1) := by decide +kernel
theorem dL_oldest_1 : decode cL_oldest 1 = .ok (.iconst 0, 1) := by decide +kernel
theorem dL_oldest_2 : decode cL_oldest 2 = .ok (.aload_n 0, 1) := by decide +kernel
theorem dL_oldest_3 : decode cL_oldest 3 = .ok (.iload_n 1, 1) := by decide +kernel
theorem dL_oldest_4 : decode cL_oldest 4 = .ok (.iload_n 2, 1) := by decide +kernel
theorem dL_oldest_5 : decode cL_oldest 5 = .ok (.invokevirtual 36, 3) := by decide +kernel
theorem dL_oldest_8 : decode cL_oldest 8 = .ok (.i2l, 1) := by decide +kernel
theorem dL_oldest_9 : decode cL_oldest 9 = .ok (.lastore, 1) := by decide +kernel
theorem dL_oldest_10 : decode cL_oldest 10 = .ok (.goto 11, 3) := by decide +kernel
theorem dL_oldest_13 : decode cL_oldest 13 = .ok (.astore 4, 2) := by decide +kernel
theorem dL_oldest_15 : decode cL_oldest 15 = .ok (.iconst 1, 1) := by decide +kernel
theorem dL_oldest_16 : decode cL_oldest 16 = .ok (.ireturn, 1) := by decide +kernel
theorem dL_oldest_17 : decode cL_oldest 17 = .ok (.astore 4, 2) := by decide +kernel
theorem dL_oldest_19 : decode cL_oldest 19 = .ok (.iconst 2, 1) := by decide +kernel
theorem dL_oldest_20 : decode cL_oldest 20 = .ok (.ireturn, 1) := by decide +kernel
theorem dL_oldest_21 : decode cL_oldest 21 = .ok (.iconst 0, 1) := by decide +kernel
theorem dL_oldest_22 : decode cL_oldest 22 = .ok (.ireturn, 1) := by decide +kernel
theorem dL_make_0 : decode cL_make 0 = .ok (.aload_n 3, 1) := by decide +kernel
theorem dL_make_1 : decode cL_make 1 = .ok (.iconst 0, 1) := by decide +kernel
theorem dL_make_2 : decode cL_make 2 = .ok (.aload_n 0, 1) := by decide +kernel
theorem dL_make_3 : decode cL_make 3 = .ok (.iload_n 1, 1) := by decide +kernel
theorem dL_make_4 : decode cL_make 4 = .ok (.iload_n 2, 1) := by decide +kernel
theorem dL_make_5 : decode cL_make 5 = .ok (.invokevirtual 39, 3) := by decide +kernel
theorem dL_make_8 : decode cL_make 8 = .ok (.i2l, 1) := by decide +kernel
theorem dL_make_9 : decode cL_make 9 = .ok (.lastore, 1) := by decide +kernel
theorem dL_make_10 : decode cL_make 10 = .ok (.goto 11, 3) := by decide +kernel
theorem dL_make_13 : decode cL_make 13 = .ok (.astore 4, 2) := by decide +kernel
theorem dL_make_15 : decode cL_make 15 = .ok (.iconst 1, 1) := by decide +kernel
theorem dL_make_16 : decode cL_make 16 = .ok (.ireturn, 1) := by decide +kernel
theorem dL_make_17 : decode cL_make 17 = .ok (.astore 4, 2) := by decide +kernel
theorem dL_make_19 : decode cL_make 19 = .ok (.iconst 2, 1) := by decide +kernel
theorem dL_make_20 : decode cL_make 20 = .ok (.ireturn, 1) := by decide +kernel
theorem dL_make_21 : decode cL_make 21 = .ok (.iconst 0, 1) := by decide +kernel
theorem dL_make_22 : decode cL_make 22 = .ok (.ireturn, 1) := by decide +kernel
theorem dL_write_0 : decode cL_write 0 = .ok (.aload_n 3, 1) := by decide +kernel
theorem dL_write_1 : decode cL_write 1 = .ok (.iconst 0, 1) := by decide +kernel
theorem dL_write_2 : decode cL_write 2 = .ok (.aload_n 0, 1) := by decide +kernel
theorem dL_write_3 : decode cL_write 3 = .ok (.iload_n 1, 1) := by decide +kernel
theorem dL_write_4 : decode cL_write 4 = .ok (.iload_n 2, 1) := by decide +kernel
theorem dL_write_5 : decode cL_write 5 = .ok (.invokevirtual 42, 3) := by decide +kernel
theorem dL_write_8 : decode cL_write 8 = .ok (.i2l, 1) := by decide +kernel
theorem dL_write_9 : decode cL_write 9 = .ok (.lastore, 1) := by decide +kernel
theorem dL_write_10 : decode cL_write 10 = .ok (.goto 7, 3) := by decide +kernel
theorem dL_write_13 : decode cL_write 13 = .ok (.astore 4, 2) := by decide +kernel
theorem dL_write_15 : decode cL_write 15 = .ok (.iconst 1, 1) := by decide +kernel
theorem dL_write_16 : decode cL_write 16 = .ok (.ireturn, 1) := by decide +kernel
theorem dL_write_17 : decode cL_write 17 = .ok (.iconst 0, 1) := by decide +kernel
theorem dL_write_18 : decode cL_write 18 = .ok (.ireturn, 1) := by decide +kernel
theorem dL_trim_0 : decode cL_trim 0 = .ok (.aload_n 3, 1) := by decide +kernel
theorem dL_trim_1 : decode cL_trim 1 = .ok (.iconst 0, 1) := by decide +kernel
theorem dL_trim_2 : decode cL_trim 2 = .ok (.aload_n 0, 1) := by decide +kernel
theorem dL_trim_3 : decode cL_trim 3 = .ok (.iload_n 1, 1) := by decide +kernel
theorem dL_trim_4 : decode cL_trim 4 = .ok (.iload_n 2, 1) := by decide +kernel
theorem dL_trim_5 : decode cL_trim 5 = .ok (.invokevirtual 45, 3) := by decide +kernel
theorem dL_trim_8 : decode cL_trim 8 = .ok (.i2l, 1) := by decide +kernel
theorem dL_trim_9 : decode cL_trim 9 = .ok (.lastore, 1) := by decide +kernel
theorem dL_trim_10 : decode cL_trim 10 = .ok (.goto 11, 3) := by decide +kernel
theorem dL_trim_13 : decode cL_trim 13 = .ok (.astore 4, 2) := by decide +kernel
theorem dL_trim_15 : decode cL_trim 15 = .ok (.iconst 1, 1) := by decide +kernel
theorem dL_trim_16 : decode cL_trim 16 = .ok (.ireturn, 1) := by decide +kernel
theorem dL_trim_17 : decode cL_trim 17 = .ok (.astore 4, 2) := by decide +kernel
theorem dL_trim_19 : decode cL_trim 19 = .ok (.iconst 2, 1) := by decide +kernel
theorem dL_trim_20 : decode cL_trim 20 = .ok (.ireturn, 1) := by decide +kernel
theorem dL_trim_21 : decode cL_trim 21 = .ok (.iconst 0, 1) := by decide +kernel
theorem dL_trim_22 : decode cL_trim 22 = .ok (.ireturn, 1) := by decide +kernel
theorem dL_setFloor_0 : decode cL_setFloor 0 = .ok (.aload_n 3, 1) := by decide +kernel
theorem dL_setFloor_1 : decode cL_setFloor 1 = .ok (.iconst 0, 1) := by decide +kernel
theorem dL_setFloor_2 : decode cL_setFloor 2 = .ok (.aload_n 0, 1) := by decide +kernel
theorem dL_setFloor_3 : decode cL_setFloor 3 = .ok (.iload_n 1, 1) := by decide +kernel
theorem dL_setFloor_4 : decode cL_setFloor 4 = .ok (.iload_n 2, 1) := by decide +kernel
theorem dL_setFloor_5 : decode cL_setFloor 5 = .ok (.invokevirtual 48, 3) := by decide +kernel
theorem dL_setFloor_8 : decode cL_setFloor 8 = .ok (.i2l, 1) := by decide +kernel
theorem dL_setFloor_9 : decode cL_setFloor 9 = .ok (.lastore, 1) := by decide +kernel
theorem dL_setFloor_10 : decode cL_setFloor 10 = .ok (.goto 15, 3) := by decide +kernel
theorem dL_setFloor_13 : decode cL_setFloor 13 = .ok (.astore 4, 2) := by decide +kernel
theorem dL_setFloor_15 : decode cL_setFloor 15 = .ok (.iconst 1, 1) := by decide +kernel
theorem dL_setFloor_16 : decode cL_setFloor 16 = .ok (.ireturn, 1) := by decide +kernel
theorem dL_setFloor_17 : decode cL_setFloor 17 = .ok (.astore 4, 2) := by decide +kernel
theorem dL_setFloor_19 : decode cL_setFloor 19 = .ok (.iconst 2, 1) := by decide +kernel
theorem dL_setFloor_20 : decode cL_setFloor 20 = .ok (.ireturn, 1) := by decide +kernel
theorem dL_setFloor_21 : decode cL_setFloor 21 = .ok (.astore 4, 2) := by decide +kernel
theorem dL_setFloor_23 : decode cL_setFloor 23 = .ok (.iconst 3, 1) := by decide +kernel
theorem dL_setFloor_24 : decode cL_setFloor 24 = .ok (.ireturn, 1) := by decide +kernel
theorem dL_setFloor_25 : decode cL_setFloor 25 = .ok (.iconst 0, 1) := by decide +kernel
theorem dL_setFloor_26 : decode cL_setFloor 26 = .ok (.ireturn, 1) := by decide +kernel
theorem dL_setCeiling_0 : decode cL_setCeiling 0 = .ok (.aload_n 3, 1) := by decide +kernel
theorem dL_setCeiling_1 : decode cL_setCeiling 1 = .ok (.iconst 0, 1) := by decide +kernel
theorem dL_setCeiling_2 : decode cL_setCeiling 2 = .ok (.aload_n 0, 1) := by decide +kernel
theorem dL_setCeiling_3 : decode cL_setCeiling 3 = .ok (.iload_n 1, 1) := by decide +kernel
theorem dL_setCeiling_4 : decode cL_setCeiling 4 = .ok (.iload_n 2, 1) := by decide +kernel
theorem dL_setCeiling_5 : decode cL_setCeiling 5 = .ok (.invokevirtual 51, 3) := by decide +kernel
theorem dL_setCeiling_8 : decode cL_setCeiling 8 = .ok (.i2l, 1) := by decide +kernel
theorem dL_setCeiling_9 : decode cL_setCeiling 9 = .ok (.lastore, 1) := by decide +kernel
theorem dL_setCeiling_10 : decode cL_setCeiling 10 = .ok (.goto 11, 3) := by decide +kernel
theorem dL_setCeiling_13 : decode cL_setCeiling 13 = .ok (.astore 4, 2) := by decide +kernel
theorem dL_setCeiling_15 : decode cL_setCeiling 15 = .ok (.iconst 1, 1) := by decide +kernel
theorem dL_setCeiling_16 : decode cL_setCeiling 16 = .ok (.ireturn, 1) := by decide +kernel
theorem dL_setCeiling_17 : decode cL_setCeiling 17 = .ok (.astore 4, 2) := by decide +kernel
theorem dL_setCeiling_19 : decode cL_setCeiling 19 = .ok (.iconst 2, 1) := by decide +kernel
theorem dL_setCeiling_20 : decode cL_setCeiling 20 = .ok (.ireturn, 1) := by decide +kernel
theorem dL_setCeiling_21 : decode cL_setCeiling 21 = .ok (.iconst 0, 1) := by decide +kernel
theorem dL_setCeiling_22 : decode cL_setCeiling 22 = .ok (.ireturn, 1) := by decide +kernel
theorem dL_undo_0 : decode cL_undo 0 = .ok (.aload_n 1, 1) := by decide +kernel
theorem dL_undo_1 : decode cL_undo 1 = .ok (.iconst 0, 1) := by decide +kernel
theorem dL_undo_2 : decode cL_undo 2 = .ok (.aload_n 0, 1) := by decide +kernel
theorem dL_undo_3 : decode cL_undo 3 = .ok (.invokevirtual 54, 3) := by decide +kernel
theorem dL_undo_6 : decode cL_undo 6 = .ok (.i2l, 1) := by decide +kernel
theorem dL_undo_7 : decode cL_undo 7 = .ok (.lastore, 1) := by decide +kernel
theorem dL_undo_8 : decode cL_undo 8 = .ok (.goto 6, 3) := by decide +kernel
theorem dL_undo_11 : decode cL_undo 11 = .ok (.astore_n 2, 1) := by decide +kernel
theorem dL_undo_12 : decode cL_undo 12 = .ok (.iconst 1, 1) := by decide +kernel
theorem dL_undo_13 : decode cL_undo 13 = .ok (.ireturn, 1) := by decide +kernel
theorem dL_undo_14 : decode cL_undo 14 = .ok (.iconst 0, 1) := by decide +kernel
theorem dL_undo_15 : decode cL_undo 15 = .ok (.ireturn, 1) := by decide +kernel
theorem dL_would_0 : decode cL_would 0 = .ok (.aload_n 3, 1) := by decide +kernel
theorem dL_would_1 : decode cL_would 1 = .ok (.iconst 0, 1) := by decide +kernel
theorem dL_would_2 : decode cL_would 2 = .ok (.aload_n 0, 1) := by decide +kernel
theorem dL_would_3 : decode cL_would 3 = .ok (.iload_n 1, 1) := by decide +kernel
theorem dL_would_4 : decode cL_would 4 = .ok (.iload_n 2, 1) := by decide +kernel
theorem dL_would_5 : decode cL_would 5 = .ok (.invokevirtual 57, 3) := by decide +kernel
theorem dL_would_8 : decode cL_would 8 = .ok (.i2l, 1) := by decide +kernel
theorem dL_would_9 : decode cL_would 9 = .ok (.lastore, 1) := by decide +kernel
theorem dL_would_10 : decode cL_would 10 = .ok (.goto 7, 3) := by decide +kernel
theorem dL_would_13 : decode cL_would 13 = .ok (.astore 4, 2) := by decide +kernel
theorem dL_would_15 : decode cL_would 15 = .ok (.iconst 1, 1) := by decide +kernel
theorem dL_would_16 : decode cL_would 16 = .ok (.ireturn, 1) := by decide +kernel
theorem dL_would_17 : decode cL_would 17 = .ok (.iconst 0, 1) := by decide +kernel
theorem dL_would_18 : decode cL_would 18 = .ok (.ireturn, 1) := by decide +kernel
theorem dL_room_0 : decode cL_room 0 = .ok (.aload_n 2, 1) := by decide +kernel
theorem dL_room_1 : decode cL_room 1 = .ok (.iconst 0, 1) := by decide +kernel
theorem dL_room_2 : decode cL_room 2 = .ok (.aload_n 0, 1) := by decide +kernel
theorem dL_room_3 : decode cL_room 3 = .ok (.iload_n 1, 1) := by decide +kernel
theorem dL_room_4 : decode cL_room 4 = .ok (.invokevirtual 60, 3) := by decide +kernel
theorem dL_room_7 : decode cL_room 7 = .ok (.i2l, 1) := by decide +kernel
theorem dL_room_8 : decode cL_room 8 = .ok (.lastore, 1) := by decide +kernel
theorem dL_room_9 : decode cL_room 9 = .ok (.goto 6, 3) := by decide +kernel
theorem dL_room_12 : decode cL_room 12 = .ok (.astore_n 3, 1) := by decide +kernel
theorem dL_room_13 : decode cL_room 13 = .ok (.iconst 1, 1) := by decide +kernel
theorem dL_room_14 : decode cL_room 14 = .ok (.ireturn, 1) := by decide +kernel
theorem dL_room_15 : decode cL_room 15 = .ok (.iconst 0, 1) := by decide +kernel
theorem dL_room_16 : decode cL_room 16 = .ok (.ireturn, 1) := by decide +kernel
theorem dL_harm_0 : decode cL_harm 0 = .ok (.aload_n 3, 1) := by decide +kernel
theorem dL_harm_1 : decode cL_harm 1 = .ok (.iconst 0, 1) := by decide +kernel
theorem dL_harm_2 : decode cL_harm 2 = .ok (.aload_n 0, 1) := by decide +kernel
theorem dL_harm_3 : decode cL_harm 3 = .ok (.iload_n 1, 1) := by decide +kernel
theorem dL_harm_4 : decode cL_harm 4 = .ok (.iload_n 2, 1) := by decide +kernel
theorem dL_harm_5 : decode cL_harm 5 = .ok (.invokevirtual 63, 3) := by decide +kernel
theorem dL_harm_8 : decode cL_harm 8 = .ok (.i2l, 1) := by decide +kernel
theorem dL_harm_9 : decode cL_harm 9 = .ok (.lastore, 1) := by decide +kernel
theorem dL_harm_10 : decode cL_harm 10 = .ok (.goto 11, 3) := by decide +kernel
theorem dL_harm_13 : decode cL_harm 13 = .ok (.astore 4, 2) := by decide +kernel
theorem dL_harm_15 : decode cL_harm 15 = .ok (.iconst 1, 1) := by decide +kernel
theorem dL_harm_16 : decode cL_harm 16 = .ok (.ireturn, 1) := by decide +kernel
theorem dL_harm_17 : decode cL_harm 17 = .ok (.astore 4, 2) := by decide +kernel
theorem dL_harm_19 : decode cL_harm 19 = .ok (.iconst 2, 1) := by decide +kernel
theorem dL_harm_20 : decode cL_harm 20 = .ok (.ireturn, 1) := by decide +kernel
theorem dL_harm_21 : decode cL_harm 21 = .ok (.iconst 0, 1) := by decide +kernel
theorem dL_harm_22 : decode cL_harm 22 = .ok (.ireturn, 1) := by decide +kernel
theorem dL_victim_0 : decode cL_victim 0 = .ok (.aload_n 2, 1) := by decide +kernel
theorem dL_victim_1 : decode cL_victim 1 = .ok (.iconst 0, 1) := by decide +kernel
theorem dL_victim_2 : decode cL_victim 2 = .ok (.aload_n 0, 1) := by decide +kernel
theorem dL_victim_3 : decode cL_victim 3 = .ok (.iload_n 1, 1) := by decide +kernel
theorem dL_victim_4 : decode cL_victim 4 = .ok (.invokevirtual 66, 3) := by decide +kernel
theorem dL_victim_7 : decode cL_victim 7 = .ok (.i2l, 1) := by decide +kernel
theorem dL_victim_8 : decode cL_victim 8 = .ok (.lastore, 1) := by decide +kernel
theorem dL_victim_9 : decode cL_victim 9 = .ok (.goto 6, 3) := by decide +kernel
theorem dL_victim_12 : decode cL_victim 12 = .ok (.astore_n 3, 1) := by decide +kernel
theorem dL_victim_13 : decode cL_victim 13 = .ok (.iconst 1, 1) := by decide +kernel
theorem dL_victim_14 : decode cL_victim 14 = .ok (.ireturn, 1) := by decide +kernel
theorem dL_victim_15 : decode cL_victim 15 = .ok (.iconst 0, 1) := by decide +kernel
theorem dL_victim_16 : decode cL_victim 16 = .ok (.ireturn, 1) := by decide +kernel
theorem dL_mostFloor_0 : decode cL_mostFloor 0 = .ok (.aload_n 2, 1) := by decide +kernel
theorem dL_mostFloor_1 : decode cL_mostFloor 1 = .ok (.iconst 0, 1) := by decide +kernel
theorem dL_mostFloor_2 : decode cL_mostFloor 2 = .ok (.aload_n 0, 1) := by decide +kernel
theorem dL_mostFloor_3 : decode cL_mostFloor 3 = .ok (.iload_n 1, 1) := by decide +kernel
theorem dL_mostFloor_4 : decode cL_mostFloor 4 = .ok (.invokevirtual 69, 3) := by decide +kernel
theorem dL_mostFloor_7 : decode cL_mostFloor 7 = .ok (.i2l, 1) := by decide +kernel
theorem dL_mostFloor_8 : decode cL_mostFloor 8 = .ok (.lastore, 1) := by decide +kernel
theorem dL_mostFloor_9 : decode cL_mostFloor 9 = .ok (.goto 6, 3) := by decide +kernel
theorem dL_mostFloor_12 : decode cL_mostFloor 12 = .ok (.astore_n 3, 1) := by decide +kernel
theorem dL_mostFloor_13 : decode cL_mostFloor 13 = .ok (.iconst 1, 1) := by decide +kernel
theorem dL_mostFloor_14 : decode cL_mostFloor 14 = .ok (.ireturn, 1) := by decide +kernel
theorem dL_mostFloor_15 : decode cL_mostFloor 15 = .ok (.iconst 0, 1) := by decide +kernel
theorem dL_mostFloor_16 : decode cL_mostFloor 16 = .ok (.ireturn, 1) := by decide +kernel
theorem dL_leastFloor_0 : decode cL_leastFloor 0 = .ok (.aload_n 2, 1) := by decide +kernel
theorem dL_leastFloor_1 : decode cL_leastFloor 1 = .ok (.iconst 0, 1) := by decide +kernel
theorem dL_leastFloor_2 : decode cL_leastFloor 2 = .ok (.aload_n 0, 1) := by decide +kernel
theorem dL_leastFloor_3 : decode cL_leastFloor 3 = .ok (.iload_n 1, 1) := by decide +kernel
theorem dL_leastFloor_4 : decode cL_leastFloor 4 = .ok (.invokevirtual 72, 3) := by decide +kernel
theorem dL_leastFloor_7 : decode cL_leastFloor 7 = .ok (.i2l, 1) := by decide +kernel
theorem dL_leastFloor_8 : decode cL_leastFloor 8 = .ok (.lastore, 1) := by decide +kernel
theorem dL_leastFloor_9 : decode cL_leastFloor 9 = .ok (.goto 6, 3) := by decide +kernel
theorem dL_leastFloor_12 : decode cL_leastFloor 12 = .ok (.astore_n 3, 1) := by decide +kernel
theorem dL_leastFloor_13 : decode cL_leastFloor 13 = .ok (.iconst 1, 1) := by decide +kernel
theorem dL_leastFloor_14 : decode cL_leastFloor 14 = .ok (.ireturn, 1) := by decide +kernel
theorem dL_leastFloor_15 : decode cL_leastFloor 15 = .ok (.iconst 0, 1) := by decide +kernel
theorem dL_leastFloor_16 : decode cL_leastFloor 16 = .ok (.ireturn, 1) := by decide +kernel
theorem dL_runScript_0 : decode cL_runScript 0 = .ok (.aload 4, 2) := by decide +kernel
theorem dL_runScript_2 : decode cL_runScript 2 = .ok (.iconst 0, 1) := by decide +kernel
theorem dL_runScript_3 : decode cL_runScript 3 = .ok (.aload_n 0, 1) := by decide +kernel
theorem dL_runScript_4 : decode cL_runScript 4 = .ok (.iload_n 1, 1) := by decide +kernel
theorem dL_runScript_5 : decode cL_runScript 5 = .ok (.lload_n 2, 1) := by decide +kernel
theorem dL_runScript_6 : decode cL_runScript 6 = .ok (.invokevirtual 75, 3) := by decide +kernel
theorem dL_runScript_9 : decode cL_runScript 9 = .ok (.i2l, 1) := by decide +kernel
theorem dL_runScript_10 : decode cL_runScript 10 = .ok (.lastore, 1) := by decide +kernel
theorem dL_runScript_11 : decode cL_runScript 11 = .ok (.goto 7, 3) := by decide +kernel
theorem dL_runScript_14 : decode cL_runScript 14 = .ok (.astore 5, 2) := by decide +kernel
theorem dL_runScript_16 : decode cL_runScript 16 = .ok (.iconst 1, 1) := by decide +kernel
theorem dL_runScript_17 : decode cL_runScript 17 = .ok (.ireturn, 1) := by decide +kernel
theorem dL_runScript_18 : decode cL_runScript 18 = .ok (.iconst 0, 1) := by decide +kernel
theorem dL_runScript_19 : decode cL_runScript 19 = .ok (.ireturn, 1) := by decide +kernel
theorem dL_simulate_0 : decode cL_simulate 0 = .ok (.aload 4, 2) := by decide +kernel
theorem dL_simulate_2 : decode cL_simulate 2 = .ok (.iconst 0, 1) := by decide +kernel
theorem dL_simulate_3 : decode cL_simulate 3 = .ok (.aload_n 0, 1) := by decide +kernel
theorem dL_simulate_4 : decode cL_simulate 4 = .ok (.lload_n 1, 1) := by decide +kernel
theorem dL_simulate_5 : decode cL_simulate 5 = .ok (.iload_n 3, 1) := by decide +kernel
theorem dL_simulate_6 : decode cL_simulate 6 = .ok (.invokevirtual 79, 3) := by decide +kernel
theorem dL_simulate_9 : decode cL_simulate 9 = .ok (.i2l, 1) := by decide +kernel
theorem dL_simulate_10 : decode cL_simulate 10 = .ok (.lastore, 1) := by decide +kernel
theorem dL_simulate_11 : decode cL_simulate 11 = .ok (.goto 7, 3) := by decide +kernel
theorem dL_simulate_14 : decode cL_simulate 14 = .ok (.astore 5, 2) := by decide +kernel
theorem dL_simulate_16 : decode cL_simulate 16 = .ok (.iconst 1, 1) := by decide +kernel
theorem dL_simulate_17 : decode cL_simulate 17 = .ok (.ireturn, 1) := by decide +kernel
theorem dL_simulate_18 : decode cL_simulate 18 = .ok (.iconst 0, 1) := by decide +kernel
theorem dL_simulate_19 : decode cL_simulate 19 = .ok (.ireturn, 1) := by decide +kernel
theorem dL_save_0 : decode cL_save 0 = .ok (.aload_n 2, 1) := by decide +kernel
theorem dL_save_1 : decode cL_save 1 = .ok (.iconst 0, 1) := by decide +kernel
theorem dL_save_2 : decode cL_save 2 = .ok (.aload_n 0, 1) := by decide +kernel
theorem dL_save_3 : decode cL_save 3 = .ok (.iload_n 1, 1) := by decide +kernel
theorem dL_save_4 : decode cL_save 4 = .ok (.invokevirtual 83, 3) := by decide +kernel
theorem dL_save_7 : decode cL_save 7 = .ok (.i2l, 1) := by decide +kernel
theorem dL_save_8 : decode cL_save 8 = .ok (.lastore, 1) := by decide +kernel
theorem dL_save_9 : decode cL_save 9 = .ok (.goto 6, 3) := by decide +kernel
theorem dL_save_12 : decode cL_save 12 = .ok (.astore_n 3, 1) := by decide +kernel
theorem dL_save_13 : decode cL_save 13 = .ok (.iconst 1, 1) := by decide +kernel
theorem dL_save_14 : decode cL_save 14 = .ok (.ireturn, 1) := by decide +kernel
theorem dL_save_15 : decode cL_save 15 = .ok (.iconst 0, 1) := by decide +kernel
theorem dL_save_16 : decode cL_save 16 = .ok (.ireturn, 1) := by decide +kernel
theorem dL_restore_0 : decode cL_restore 0 = .ok (.aload_n 2, 1) := by decide +kernel
theorem dL_restore_1 : decode cL_restore 1 = .ok (.iconst 0, 1) := by decide +kernel
theorem dL_restore_2 : decode cL_restore 2 = .ok (.aload_n 0, 1) := by decide +kernel
theorem dL_restore_3 : decode cL_restore 3 = .ok (.iload_n 1, 1) := by decide +kernel
theorem dL_restore_4 : decode cL_restore 4 = .ok (.invokevirtual 86, 3) := by decide +kernel
theorem dL_restore_7 : decode cL_restore 7 = .ok (.i2l, 1) := by decide +kernel
theorem dL_restore_8 : decode cL_restore 8 = .ok (.lastore, 1) := by decide +kernel
theorem dL_restore_9 : decode cL_restore 9 = .ok (.goto 9, 3) := by decide +kernel
theorem dL_restore_12 : decode cL_restore 12 = .ok (.astore_n 3, 1) := by decide +kernel
theorem dL_restore_13 : decode cL_restore 13 = .ok (.iconst 1, 1) := by decide +kernel
theorem dL_restore_14 : decode cL_restore 14 = .ok (.ireturn, 1) := by decide +kernel
theorem dL_restore_15 : decode cL_restore 15 = .ok (.astore_n 3, 1) := by decide +kernel
theorem dL_restore_16 : decode cL_restore 16 = .ok (.iconst 2, 1) := by decide +kernel
theorem dL_restore_17 : decode cL_restore 17 = .ok (.ireturn, 1) := by decide +kernel
theorem dL_restore_18 : decode cL_restore 18 = .ok (.iconst 0, 1) := by decide +kernel
theorem dL_restore_19 : decode cL_restore 19 = .ok (.ireturn, 1) := by decide +kernel
theorem dL_law_0 : decode cL_law 0 = .ok (.new 8, 3) := by decide +kernel
theorem dL_law_3 : decode cL_law 3 = .ok (.dup, 1) := by decide +kernel
theorem dL_law_4 : decode cL_law 4 = .ok (.invokespecial 89, 3) := by decide +kernel
theorem dL_law_7 : decode cL_law 7 = .ok (.astore_n 1, 1) := by decide +kernel
theorem dL_law_8 : decode cL_law 8 = .ok (.new 90, 3) := by decide +kernel
theorem dL_law_11 : decode cL_law 11 = .ok (.dup, 1) := by decide +kernel
theorem dL_law_12 : decode cL_law 12 = .ok (.invokespecial 92, 3) := by decide +kernel
theorem dL_law_15 : decode cL_law 15 = .ok (.astore_n 2, 1) := by decide +kernel
theorem dL_law_16 : decode cL_law 16 = .ok (.iconst 1, 1) := by decide +kernel
theorem dL_law_17 : decode cL_law 17 = .ok (.newarray .long, 2) := by decide +kernel
theorem dL_law_19 : decode cL_law 19 = .ok (.astore_n 3, 1) := by decide +kernel
theorem dL_law_20 : decode cL_law 20 = .ok (.iconst 0, 1) := by decide +kernel
theorem dL_law_21 : decode cL_law 21 = .ok (.istore 4, 2) := by decide +kernel
theorem dL_law_23 : decode cL_law 23 = .ok (.iload 4, 2) := by decide +kernel
theorem dL_law_25 : decode cL_law 25 = .ok (.aload_n 0, 1) := by decide +kernel
theorem dL_law_26 : decode cL_law 26 = .ok (.arraylength, 1) := by decide +kernel
theorem dL_law_27 : decode cL_law 27 = .ok (.iconst 4, 1) := by decide +kernel
theorem dL_law_28 : decode cL_law 28 = .ok (.isub, 1) := by decide +kernel
theorem dL_law_29 : decode cL_law 29 = .ok (.if_icmp .gt 1656, 3) := by decide +kernel
theorem dL_law_32 : decode cL_law 32 = .ok (.aload_n 0, 1) := by decide +kernel
theorem dL_law_33 : decode cL_law 33 = .ok (.iload 4, 2) := by decide +kernel
theorem dL_law_35 : decode cL_law 35 = .ok (.iaload, 1) := by decide +kernel
theorem dL_law_36 : decode cL_law 36 = .ok (.bipush 31, 2) := by decide +kernel
theorem dL_law_38 : decode cL_law 38 = .ok (.iand, 1) := by decide +kernel
theorem dL_law_39 : decode cL_law 39 = .ok (.tableswitch 1640 0 25 #[117, 173, 186, 199, 243, 299, 367, 435, 503, 571, 639, 707, 775, 843, 911, 955, 1023, 1079, 1147, 1203, 1216, 1272, 1328, 1428, 1528, 1584], 117) := by decide +kernel
theorem dL_law_156 : decode cL_law 156 = .ok (.aload_n 1, 1) := by decide +kernel
theorem dL_law_157 : decode cL_law 157 = .ok (.aload_n 0, 1) := by decide +kernel
theorem dL_law_158 : decode cL_law 158 = .ok (.iload 4, 2) := by decide +kernel
theorem dL_law_160 : decode cL_law 160 = .ok (.iconst 1, 1) := by decide +kernel
theorem dL_law_161 : decode cL_law 161 = .ok (.iadd, 1) := by decide +kernel
theorem dL_law_162 : decode cL_law 162 = .ok (.iaload, 1) := by decide +kernel
theorem dL_law_163 : decode cL_law 163 = .ok (.aload_n 3, 1) := by decide +kernel
theorem dL_law_164 : decode cL_law 164 = .ok (.invokestatic 93, 3) := by decide +kernel
theorem dL_law_167 : decode cL_law 167 = .ok (.istore 5, 2) := by decide +kernel
theorem dL_law_169 : decode cL_law 169 = .ok (.aload_n 2, 1) := by decide +kernel
theorem dL_law_170 : decode cL_law 170 = .ok (.aload_n 0, 1) := by decide +kernel
theorem dL_law_171 : decode cL_law 171 = .ok (.iload 4, 2) := by decide +kernel
theorem dL_law_173 : decode cL_law 173 = .ok (.iconst 1, 1) := by decide +kernel
theorem dL_law_174 : decode cL_law 174 = .ok (.iadd, 1) := by decide +kernel
theorem dL_law_175 : decode cL_law 175 = .ok (.iaload, 1) := by decide +kernel
theorem dL_law_176 : decode cL_law 176 = .ok (.invokevirtual 98, 3) := by decide +kernel
theorem dL_law_179 : decode cL_law 179 = .ok (.istore 6, 2) := by decide +kernel
theorem dL_law_181 : decode cL_law 181 = .ok (.aload_n 2, 1) := by decide +kernel
theorem dL_law_182 : decode cL_law 182 = .ok (.invokevirtual 99, 3) := by decide +kernel
theorem dL_law_185 : decode cL_law 185 = .ok (.iload 5, 2) := by decide +kernel
theorem dL_law_187 : decode cL_law 187 = .ok (.if_icmp .eq 5, 3) := by decide +kernel
theorem dL_law_190 : decode cL_law 190 = .ok (.iconst 0, 1) := by decide +kernel
theorem dL_law_191 : decode cL_law 191 = .ok (.ireturn, 1) := by decide +kernel
theorem dL_law_192 : decode cL_law 192 = .ok (.iload 5, 2) := by decide +kernel
theorem dL_law_194 : decode cL_law 194 = .ok (.ifCond .ne 15, 3) := by decide +kernel
theorem dL_law_197 : decode cL_law 197 = .ok (.aload_n 3, 1) := by decide +kernel
theorem dL_law_198 : decode cL_law 198 = .ok (.iconst 0, 1) := by decide +kernel
theorem dL_law_199 : decode cL_law 199 = .ok (.laload, 1) := by decide +kernel
theorem dL_law_200 : decode cL_law 200 = .ok (.iload 6, 2) := by decide +kernel
theorem dL_law_202 : decode cL_law 202 = .ok (.i2l, 1) := by decide +kernel
theorem dL_law_203 : decode cL_law 203 = .ok (.lcmp, 1) := by decide +kernel
theorem dL_law_204 : decode cL_law 204 = .ok (.ifCond .eq 5, 3) := by decide +kernel
theorem dL_law_207 : decode cL_law 207 = .ok (.iconst 0, 1) := by decide +kernel
theorem dL_law_208 : decode cL_law 208 = .ok (.ireturn, 1) := by decide +kernel
theorem dL_law_209 : decode cL_law 209 = .ok (.goto 1470, 3) := by decide +kernel
theorem dL_law_212 : decode cL_law 212 = .ok (.aload_n 1, 1) := by decide +kernel
theorem dL_law_213 : decode cL_law 213 = .ok (.invokevirtual 102, 3) := by decide +kernel
theorem dL_law_216 : decode cL_law 216 = .ok (.aload_n 2, 1) := by decide +kernel
theorem dL_law_217 : decode cL_law 217 = .ok (.invokevirtual 105, 3) := by decide +kernel
theorem dL_law_220 : decode cL_law 220 = .ok (.if_icmp .eq 1459, 3) := by decide +kernel
theorem dL_law_223 : decode cL_law 223 = .ok (.iconst 0, 1) := by decide +kernel
theorem dL_law_224 : decode cL_law 224 = .ok (.ireturn, 1) := by decide +kernel
theorem dL_law_225 : decode cL_law 225 = .ok (.aload_n 1, 1) := by decide +kernel
theorem dL_law_226 : decode cL_law 226 = .ok (.invokevirtual 106, 3) := by decide +kernel
theorem dL_law_229 : decode cL_law 229 = .ok (.aload_n 2, 1) := by decide +kernel
theorem dL_law_230 : decode cL_law 230 = .ok (.invokevirtual 109, 3) := by decide +kernel
theorem dL_law_233 : decode cL_law 233 = .ok (.if_icmp .eq 1446, 3) := by decide +kernel
theorem dL_law_236 : decode cL_law 236 = .ok (.iconst 0, 1) := by decide +kernel
theorem dL_law_237 : decode cL_law 237 = .ok (.ireturn, 1) := by decide +kernel
theorem dL_law_238 : decode cL_law 238 = .ok (.aload_n 1, 1) := by decide +kernel
theorem dL_law_239 : decode cL_law 239 = .ok (.aload_n 3, 1) := by decide +kernel
theorem dL_law_240 : decode cL_law 240 = .ok (.invokestatic 110, 3) := by decide +kernel
theorem dL_law_243 : decode cL_law 243 = .ok (.istore 5, 2) := by decide +kernel
theorem dL_law_245 : decode cL_law 245 = .ok (.aload_n 2, 1) := by decide +kernel
theorem dL_law_246 : decode cL_law 246 = .ok (.invokevirtual 113, 3) := by decide +kernel
theorem dL_law_249 : decode cL_law 249 = .ok (.istore 6, 2) := by decide +kernel
theorem dL_law_251 : decode cL_law 251 = .ok (.aload_n 2, 1) := by decide +kernel
theorem dL_law_252 : decode cL_law 252 = .ok (.invokevirtual 99, 3) := by decide +kernel
theorem dL_law_255 : decode cL_law 255 = .ok (.iload 5, 2) := by decide +kernel
theorem dL_law_257 : decode cL_law 257 = .ok (.if_icmp .eq 5, 3) := by decide +kernel
theorem dL_law_260 : decode cL_law 260 = .ok (.iconst 0, 1) := by decide +kernel
theorem dL_law_261 : decode cL_law 261 = .ok (.ireturn, 1) := by decide +kernel
theorem dL_law_262 : decode cL_law 262 = .ok (.iload 5, 2) := by decide +kernel
theorem dL_law_264 : decode cL_law 264 = .ok (.ifCond .ne 15, 3) := by decide +kernel
theorem dL_law_267 : decode cL_law 267 = .ok (.aload_n 3, 1) := by decide +kernel
theorem dL_law_268 : decode cL_law 268 = .ok (.iconst 0, 1) := by decide +kernel
theorem dL_law_269 : decode cL_law 269 = .ok (.laload, 1) := by decide +kernel
theorem dL_law_270 : decode cL_law 270 = .ok (.iload 6, 2) := by decide +kernel
theorem dL_law_272 : decode cL_law 272 = .ok (.i2l, 1) := by decide +kernel
theorem dL_law_273 : decode cL_law 273 = .ok (.lcmp, 1) := by decide +kernel
theorem dL_law_274 : decode cL_law 274 = .ok (.ifCond .eq 5, 3) := by decide +kernel
theorem dL_law_277 : decode cL_law 277 = .ok (.iconst 0, 1) := by decide +kernel
theorem dL_law_278 : decode cL_law 278 = .ok (.ireturn, 1) := by decide +kernel
theorem dL_law_279 : decode cL_law 279 = .ok (.goto 1400, 3) := by decide +kernel
theorem dL_law_282 : decode cL_law 282 = .ok (.aload_n 1, 1) := by decide +kernel
theorem dL_law_283 : decode cL_law 283 = .ok (.aload_n 0, 1) := by decide +kernel
theorem dL_law_284 : decode cL_law 284 = .ok (.iload 4, 2) := by decide +kernel
theorem dL_law_286 : decode cL_law 286 = .ok (.iconst 1, 1) := by decide +kernel
theorem dL_law_287 : decode cL_law 287 = .ok (.iadd, 1) := by decide +kernel
theorem dL_law_288 : decode cL_law 288 = .ok (.iaload, 1) := by decide +kernel
theorem dL_law_289 : decode cL_law 289 = .ok (.aload_n 3, 1) := by decide +kernel
theorem dL_law_290 : decode cL_law 290 = .ok (.invokestatic 114, 3) := by decide +kernel
theorem dL_law_293 : decode cL_law 293 = .ok (.istore 5, 2) := by decide +kernel
theorem dL_law_295 : decode cL_law 295 = .ok (.aload_n 2, 1) := by decide +kernel
theorem dL_law_296 : decode cL_law 296 = .ok (.aload_n 0, 1) := by decide +kernel
theorem dL_law_297 : decode cL_law 297 = .ok (.iload 4, 2) := by decide +kernel
theorem dL_law_299 : decode cL_law 299 = .ok (.iconst 1, 1) := by decide +kernel
theorem dL_law_300 : decode cL_law 300 = .ok (.iadd, 1) := by decide +kernel
theorem dL_law_301 : decode cL_law 301 = .ok (.iaload, 1) := by decide +kernel
theorem dL_law_302 : decode cL_law 302 = .ok (.invokevirtual 116, 3) := by decide +kernel
theorem dL_law_305 : decode cL_law 305 = .ok (.istore 6, 2) := by decide +kernel
theorem dL_law_307 : decode cL_law 307 = .ok (.aload_n 2, 1) := by decide +kernel
theorem dL_law_308 : decode cL_law 308 = .ok (.invokevirtual 99, 3) := by decide +kernel
theorem dL_law_311 : decode cL_law 311 = .ok (.iload 5, 2) := by decide +kernel
theorem dL_law_313 : decode cL_law 313 = .ok (.if_icmp .eq 5, 3) := by decide +kernel
theorem dL_law_316 : decode cL_law 316 = .ok (.iconst 0, 1) := by decide +kernel
theorem dL_law_317 : decode cL_law 317 = .ok (.ireturn, 1) := by decide +kernel
theorem dL_law_318 : decode cL_law 318 = .ok (.iload 5, 2) := by decide +kernel
theorem dL_law_320 : decode cL_law 320 = .ok (.ifCond .ne 15, 3) := by decide +kernel
theorem dL_law_323 : decode cL_law 323 = .ok (.aload_n 3, 1) := by decide +kernel
theorem dL_law_324 : decode cL_law 324 = .ok (.iconst 0, 1) := by decide +kernel
theorem dL_law_325 : decode cL_law 325 = .ok (.laload, 1) := by decide +kernel
theorem dL_law_326 : decode cL_law 326 = .ok (.iload 6, 2) := by decide +kernel
theorem dL_law_328 : decode cL_law 328 = .ok (.i2l, 1) := by decide +kernel
theorem dL_law_329 : decode cL_law 329 = .ok (.lcmp, 1) := by decide +kernel
theorem dL_law_330 : decode cL_law 330 = .ok (.ifCond .eq 5, 3) := by decide +kernel
theorem dL_law_333 : decode cL_law 333 = .ok (.iconst 0, 1) := by decide +kernel
theorem dL_law_334 : decode cL_law 334 = .ok (.ireturn, 1) := by decide +kernel
theorem dL_law_335 : decode cL_law 335 = .ok (.goto 1344, 3) := by decide +kernel
theorem dL_law_338 : decode cL_law 338 = .ok (.aload_n 1, 1) := by decide +kernel
theorem dL_law_339 : decode cL_law 339 = .ok (.aload_n 0, 1) := by decide +kernel
theorem dL_law_340 : decode cL_law 340 = .ok (.iload 4, 2) := by decide +kernel
theorem dL_law_342 : decode cL_law 342 = .ok (.iconst 1, 1) := by decide +kernel
theorem dL_law_343 : decode cL_law 343 = .ok (.iadd, 1) := by decide +kernel
theorem dL_law_344 : decode cL_law 344 = .ok (.iaload, 1) := by decide +kernel
theorem dL_law_345 : decode cL_law 345 = .ok (.aload_n 0, 1) := by decide +kernel
theorem dL_law_346 : decode cL_law 346 = .ok (.iload 4, 2) := by decide +kernel
theorem dL_law_348 : decode cL_law 348 = .ok (.iconst 2, 1) := by decide +kernel
theorem dL_law_349 : decode cL_law 349 = .ok (.iadd, 1) := by decide +kernel
theorem dL_law_350 : decode cL_law 350 = .ok (.iaload, 1) := by decide +kernel
theorem dL_law_351 : decode cL_law 351 = .ok (.aload_n 3, 1) := by decide +kernel
theorem dL_law_352 : decode cL_law 352 = .ok (.invokestatic 117, 3) := by decide +kernel
theorem dL_law_355 : decode cL_law 355 = .ok (.istore 5, 2) := by decide +kernel
theorem dL_law_357 : decode cL_law 357 = .ok (.aload_n 2, 1) := by decide +kernel
theorem dL_law_358 : decode cL_law 358 = .ok (.aload_n 0, 1) := by decide +kernel
theorem dL_law_359 : decode cL_law 359 = .ok (.iload 4, 2) := by decide +kernel
theorem dL_law_361 : decode cL_law 361 = .ok (.iconst 1, 1) := by decide +kernel
theorem dL_law_362 : decode cL_law 362 = .ok (.iadd, 1) := by decide +kernel
theorem dL_law_363 : decode cL_law 363 = .ok (.iaload, 1) := by decide +kernel
theorem dL_law_364 : decode cL_law 364 = .ok (.aload_n 0, 1) := by decide +kernel
theorem dL_law_365 : decode cL_law 365 = .ok (.iload 4, 2) := by decide +kernel
theorem dL_law_367 : decode cL_law 367 = .ok (.iconst 2, 1) := by decide +kernel
theorem dL_law_368 : decode cL_law 368 = .ok (.iadd, 1) := by decide +kernel
theorem dL_law_369 : decode cL_law 369 = .ok (.iaload, 1) := by decide +kernel
theorem dL_law_370 : decode cL_law 370 = .ok (.invokevirtual 120, 3) := by decide +kernel
theorem dL_law_373 : decode cL_law 373 = .ok (.istore 6, 2) := by decide +kernel
theorem dL_law_375 : decode cL_law 375 = .ok (.aload_n 2, 1) := by decide +kernel
theorem dL_law_376 : decode cL_law 376 = .ok (.invokevirtual 99, 3) := by decide +kernel
theorem dL_law_379 : decode cL_law 379 = .ok (.iload 5, 2) := by decide +kernel
theorem dL_law_381 : decode cL_law 381 = .ok (.if_icmp .eq 5, 3) := by decide +kernel
theorem dL_law_384 : decode cL_law 384 = .ok (.iconst 0, 1) := by decide +kernel
theorem dL_law_385 : decode cL_law 385 = .ok (.ireturn, 1) := by decide +kernel
theorem dL_law_386 : decode cL_law 386 = .ok (.iload 5, 2) := by decide +kernel
theorem dL_law_388 : decode cL_law 388 = .ok (.ifCond .ne 15, 3) := by decide +kernel
theorem dL_law_391 : decode cL_law 391 = .ok (.aload_n 3, 1) := by decide +kernel
theorem dL_law_392 : decode cL_law 392 = .ok (.iconst 0, 1) := by decide +kernel
theorem dL_law_393 : decode cL_law 393 = .ok (.laload, 1) := by decide +kernel
theorem dL_law_394 : decode cL_law 394 = .ok (.iload 6, 2) := by decide +kernel
theorem dL_law_396 : decode cL_law 396 = .ok (.i2l, 1) := by decide +kernel
theorem dL_law_397 : decode cL_law 397 = .ok (.lcmp, 1) := by decide +kernel
theorem dL_law_398 : decode cL_law 398 = .ok (.ifCond .eq 5, 3) := by decide +kernel
theorem dL_law_401 : decode cL_law 401 = .ok (.iconst 0, 1) := by decide +kernel
theorem dL_law_402 : decode cL_law 402 = .ok (.ireturn, 1) := by decide +kernel
theorem dL_law_403 : decode cL_law 403 = .ok (.goto 1276, 3) := by decide +kernel
theorem dL_law_406 : decode cL_law 406 = .ok (.aload_n 1, 1) := by decide +kernel
theorem dL_law_407 : decode cL_law 407 = .ok (.aload_n 0, 1) := by decide +kernel
theorem dL_law_408 : decode cL_law 408 = .ok (.iload 4, 2) := by decide +kernel
theorem dL_law_410 : decode cL_law 410 = .ok (.iconst 1, 1) := by decide +kernel
theorem dL_law_411 : decode cL_law 411 = .ok (.iadd, 1) := by decide +kernel
theorem dL_law_412 : decode cL_law 412 = .ok (.iaload, 1) := by decide +kernel
theorem dL_law_413 : decode cL_law 413 = .ok (.aload_n 0, 1) := by decide +kernel
theorem dL_law_414 : decode cL_law 414 = .ok (.iload 4, 2) := by decide +kernel
theorem dL_law_416 : decode cL_law 416 = .ok (.iconst 2, 1) := by decide +kernel
theorem dL_law_417 : decode cL_law 417 = .ok (.iadd, 1) := by decide +kernel
theorem dL_law_418 : decode cL_law 418 = .ok (.iaload, 1) := by decide +kernel
theorem dL_law_419 : decode cL_law 419 = .ok (.aload_n 3, 1) := by decide +kernel
theorem dL_law_420 : decode cL_law 420 = .ok (.invokestatic 121, 3) := by decide +kernel
theorem dL_law_423 : decode cL_law 423 = .ok (.istore 5, 2) := by decide +kernel
theorem dL_law_425 : decode cL_law 425 = .ok (.aload_n 2, 1) := by decide +kernel
theorem dL_law_426 : decode cL_law 426 = .ok (.aload_n 0, 1) := by decide +kernel
theorem dL_law_427 : decode cL_law 427 = .ok (.iload 4, 2) := by decide +kernel
theorem dL_law_429 : decode cL_law 429 = .ok (.iconst 1, 1) := by decide +kernel
theorem dL_law_430 : decode cL_law 430 = .ok (.iadd, 1) := by decide +kernel
theorem dL_law_431 : decode cL_law 431 = .ok (.iaload, 1) := by decide +kernel
theorem dL_law_432 : decode cL_law 432 = .ok (.aload_n 0, 1) := by decide +kernel
theorem dL_law_433 : decode cL_law 433 = .ok (.iload 4, 2) := by decide +kernel
theorem dL_law_435 : decode cL_law 435 = .ok (.iconst 2, 1) := by decide +kernel
theorem dL_law_436 : decode cL_law 436 = .ok (.iadd, 1) := by decide +kernel
theorem dL_law_437 : decode cL_law 437 = .ok (.iaload, 1) := by decide +kernel
theorem dL_law_438 : decode cL_law 438 = .ok (.invokevirtual 123, 3) := by decide +kernel
theorem dL_law_441 : decode cL_law 441 = .ok (.istore 6, 2) := by decide +kernel
theorem dL_law_443 : decode cL_law 443 = .ok (.aload_n 2, 1) := by decide +kernel
theorem dL_law_444 : decode cL_law 444 = .ok (.invokevirtual 99, 3) := by decide +kernel
theorem dL_law_447 : decode cL_law 447 = .ok (.iload 5, 2) := by decide +kernel
theorem dL_law_449 : decode cL_law 449 = .ok (.if_icmp .eq 5, 3) := by decide +kernel
theorem dL_law_452 : decode cL_law 452 = .ok (.iconst 0, 1) := by decide +kernel
theorem dL_law_453 : decode cL_law 453 = .ok (.ireturn, 1) := by decide +kernel
theorem dL_law_454 : decode cL_law 454 = .ok (.iload 5, 2) := by decide +kernel
theorem dL_law_456 : decode cL_law 456 = .ok (.ifCond .ne 15, 3) := by decide +kernel
theorem dL_law_459 : decode cL_law 459 = .ok (.aload_n 3, 1) := by decide +kernel
theorem dL_law_460 : decode cL_law 460 = .ok (.iconst 0, 1) := by decide +kernel
theorem dL_law_461 : decode cL_law 461 = .ok (.laload, 1) := by decide +kernel
theorem dL_law_462 : decode cL_law 462 = .ok (.iload 6, 2) := by decide +kernel
theorem dL_law_464 : decode cL_law 464 = .ok (.i2l, 1) := by decide +kernel
theorem dL_law_465 : decode cL_law 465 = .ok (.lcmp, 1) := by decide +kernel
theorem dL_law_466 : decode cL_law 466 = .ok (.ifCond .eq 5, 3) := by decide +kernel
theorem dL_law_469 : decode cL_law 469 = .ok (.iconst 0, 1) := by decide +kernel
theorem dL_law_470 : decode cL_law 470 = .ok (.ireturn, 1) := by decide +kernel
theorem dL_law_471 : decode cL_law 471 = .ok (.goto 1208, 3) := by decide +kernel
theorem dL_law_474 : decode cL_law 474 = .ok (.aload_n 1, 1) := by decide +kernel
theorem dL_law_475 : decode cL_law 475 = .ok (.aload_n 0, 1) := by decide +kernel
theorem dL_law_476 : decode cL_law 476 = .ok (.iload 4, 2) := by decide +kernel
theorem dL_law_478 : decode cL_law 478 = .ok (.iconst 1, 1) := by decide +kernel
theorem dL_law_479 : decode cL_law 479 = .ok (.iadd, 1) := by decide +kernel
theorem dL_law_480 : decode cL_law 480 = .ok (.iaload, 1) := by decide +kernel
theorem dL_law_481 : decode cL_law 481 = .ok (.aload_n 0, 1) := by decide +kernel
theorem dL_law_482 : decode cL_law 482 = .ok (.iload 4, 2) := by decide +kernel
theorem dL_law_484 : decode cL_law 484 = .ok (.iconst 2, 1) := by decide +kernel
theorem dL_law_485 : decode cL_law 485 = .ok (.iadd, 1) := by decide +kernel
theorem dL_law_486 : decode cL_law 486 = .ok (.iaload, 1) := by decide +kernel
theorem dL_law_487 : decode cL_law 487 = .ok (.aload_n 3, 1) := by decide +kernel
theorem dL_law_488 : decode cL_law 488 = .ok (.invokestatic 124, 3) := by decide +kernel
theorem dL_law_491 : decode cL_law 491 = .ok (.istore 5, 2) := by decide +kernel
theorem dL_law_493 : decode cL_law 493 = .ok (.aload_n 2, 1) := by decide +kernel
theorem dL_law_494 : decode cL_law 494 = .ok (.aload_n 0, 1) := by decide +kernel
theorem dL_law_495 : decode cL_law 495 = .ok (.iload 4, 2) := by decide +kernel
theorem dL_law_497 : decode cL_law 497 = .ok (.iconst 1, 1) := by decide +kernel
theorem dL_law_498 : decode cL_law 498 = .ok (.iadd, 1) := by decide +kernel
theorem dL_law_499 : decode cL_law 499 = .ok (.iaload, 1) := by decide +kernel
theorem dL_law_500 : decode cL_law 500 = .ok (.aload_n 0, 1) := by decide +kernel
theorem dL_law_501 : decode cL_law 501 = .ok (.iload 4, 2) := by decide +kernel
theorem dL_law_503 : decode cL_law 503 = .ok (.iconst 2, 1) := by decide +kernel
theorem dL_law_504 : decode cL_law 504 = .ok (.iadd, 1) := by decide +kernel
theorem dL_law_505 : decode cL_law 505 = .ok (.iaload, 1) := by decide +kernel
theorem dL_law_506 : decode cL_law 506 = .ok (.invokevirtual 126, 3) := by decide +kernel
theorem dL_law_509 : decode cL_law 509 = .ok (.istore 6, 2) := by decide +kernel
theorem dL_law_511 : decode cL_law 511 = .ok (.aload_n 2, 1) := by decide +kernel
theorem dL_law_512 : decode cL_law 512 = .ok (.invokevirtual 99, 3) := by decide +kernel
theorem dL_law_515 : decode cL_law 515 = .ok (.iload 5, 2) := by decide +kernel
theorem dL_law_517 : decode cL_law 517 = .ok (.if_icmp .eq 5, 3) := by decide +kernel
theorem dL_law_520 : decode cL_law 520 = .ok (.iconst 0, 1) := by decide +kernel
theorem dL_law_521 : decode cL_law 521 = .ok (.ireturn, 1) := by decide +kernel
theorem dL_law_522 : decode cL_law 522 = .ok (.iload 5, 2) := by decide +kernel
theorem dL_law_524 : decode cL_law 524 = .ok (.ifCond .ne 15, 3) := by decide +kernel
theorem dL_law_527 : decode cL_law 527 = .ok (.aload_n 3, 1) := by decide +kernel
theorem dL_law_528 : decode cL_law 528 = .ok (.iconst 0, 1) := by decide +kernel
theorem dL_law_529 : decode cL_law 529 = .ok (.laload, 1) := by decide +kernel
theorem dL_law_530 : decode cL_law 530 = .ok (.iload 6, 2) := by decide +kernel
theorem dL_law_532 : decode cL_law 532 = .ok (.i2l, 1) := by decide +kernel
theorem dL_law_533 : decode cL_law 533 = .ok (.lcmp, 1) := by decide +kernel
theorem dL_law_534 : decode cL_law 534 = .ok (.ifCond .eq 5, 3) := by decide +kernel
theorem dL_law_537 : decode cL_law 537 = .ok (.iconst 0, 1) := by decide +kernel
theorem dL_law_538 : decode cL_law 538 = .ok (.ireturn, 1) := by decide +kernel
theorem dL_law_539 : decode cL_law 539 = .ok (.goto 1140, 3) := by decide +kernel
theorem dL_law_542 : decode cL_law 542 = .ok (.aload_n 1, 1) := by decide +kernel
theorem dL_law_543 : decode cL_law 543 = .ok (.aload_n 0, 1) := by decide +kernel
theorem dL_law_544 : decode cL_law 544 = .ok (.iload 4, 2) := by decide +kernel
theorem dL_law_546 : decode cL_law 546 = .ok (.iconst 1, 1) := by decide +kernel
theorem dL_law_547 : decode cL_law 547 = .ok (.iadd, 1) := by decide +kernel
theorem dL_law_548 : decode cL_law 548 = .ok (.iaload, 1) := by decide +kernel
theorem dL_law_549 : decode cL_law 549 = .ok (.aload_n 0, 1) := by decide +kernel
theorem dL_law_550 : decode cL_law 550 = .ok (.iload 4, 2) := by decide +kernel
theorem dL_law_552 : decode cL_law 552 = .ok (.iconst 2, 1) := by decide +kernel
theorem dL_law_553 : decode cL_law 553 = .ok (.iadd, 1) := by decide +kernel
theorem dL_law_554 : decode cL_law 554 = .ok (.iaload, 1) := by decide +kernel
theorem dL_law_555 : decode cL_law 555 = .ok (.aload_n 3, 1) := by decide +kernel
theorem dL_law_556 : decode cL_law 556 = .ok (.invokestatic 127, 3) := by decide +kernel
theorem dL_law_559 : decode cL_law 559 = .ok (.istore 5, 2) := by decide +kernel
theorem dL_law_561 : decode cL_law 561 = .ok (.aload_n 2, 1) := by decide +kernel
theorem dL_law_562 : decode cL_law 562 = .ok (.aload_n 0, 1) := by decide +kernel
theorem dL_law_563 : decode cL_law 563 = .ok (.iload 4, 2) := by decide +kernel
theorem dL_law_565 : decode cL_law 565 = .ok (.iconst 1, 1) := by decide +kernel
theorem dL_law_566 : decode cL_law 566 = .ok (.iadd, 1) := by decide +kernel
theorem dL_law_567 : decode cL_law 567 = .ok (.iaload, 1) := by decide +kernel
theorem dL_law_568 : decode cL_law 568 = .ok (.aload_n 0, 1) := by decide +kernel
theorem dL_law_569 : decode cL_law 569 = .ok (.iload 4, 2) := by decide +kernel
theorem dL_law_571 : decode cL_law 571 = .ok (.iconst 2, 1) := by decide +kernel
theorem dL_law_572 : decode cL_law 572 = .ok (.iadd, 1) := by decide +kernel
theorem dL_law_573 : decode cL_law 573 = .ok (.iaload, 1) := by decide +kernel
theorem dL_law_574 : decode cL_law 574 = .ok (.invokevirtual 129, 3) := by decide +kernel
theorem dL_law_577 : decode cL_law 577 = .ok (.istore 6, 2) := by decide +kernel
theorem dL_law_579 : decode cL_law 579 = .ok (.aload_n 2, 1) := by decide +kernel
theorem dL_law_580 : decode cL_law 580 = .ok (.invokevirtual 99, 3) := by decide +kernel
theorem dL_law_583 : decode cL_law 583 = .ok (.iload 5, 2) := by decide +kernel
theorem dL_law_585 : decode cL_law 585 = .ok (.if_icmp .eq 5, 3) := by decide +kernel
theorem dL_law_588 : decode cL_law 588 = .ok (.iconst 0, 1) := by decide +kernel
theorem dL_law_589 : decode cL_law 589 = .ok (.ireturn, 1) := by decide +kernel
theorem dL_law_590 : decode cL_law 590 = .ok (.iload 5, 2) := by decide +kernel
theorem dL_law_592 : decode cL_law 592 = .ok (.ifCond .ne 15, 3) := by decide +kernel
theorem dL_law_595 : decode cL_law 595 = .ok (.aload_n 3, 1) := by decide +kernel
theorem dL_law_596 : decode cL_law 596 = .ok (.iconst 0, 1) := by decide +kernel
theorem dL_law_597 : decode cL_law 597 = .ok (.laload, 1) := by decide +kernel
theorem dL_law_598 : decode cL_law 598 = .ok (.iload 6, 2) := by decide +kernel
theorem dL_law_600 : decode cL_law 600 = .ok (.i2l, 1) := by decide +kernel
theorem dL_law_601 : decode cL_law 601 = .ok (.lcmp, 1) := by decide +kernel
theorem dL_law_602 : decode cL_law 602 = .ok (.ifCond .eq 5, 3) := by decide +kernel
theorem dL_law_605 : decode cL_law 605 = .ok (.iconst 0, 1) := by decide +kernel
theorem dL_law_606 : decode cL_law 606 = .ok (.ireturn, 1) := by decide +kernel
theorem dL_law_607 : decode cL_law 607 = .ok (.goto 1072, 3) := by decide +kernel
theorem dL_law_610 : decode cL_law 610 = .ok (.aload_n 1, 1) := by decide +kernel
theorem dL_law_611 : decode cL_law 611 = .ok (.aload_n 0, 1) := by decide +kernel
theorem dL_law_612 : decode cL_law 612 = .ok (.iload 4, 2) := by decide +kernel
theorem dL_law_614 : decode cL_law 614 = .ok (.iconst 1, 1) := by decide +kernel
theorem dL_law_615 : decode cL_law 615 = .ok (.iadd, 1) := by decide +kernel
theorem dL_law_616 : decode cL_law 616 = .ok (.iaload, 1) := by decide +kernel
theorem dL_law_617 : decode cL_law 617 = .ok (.aload_n 0, 1) := by decide +kernel
theorem dL_law_618 : decode cL_law 618 = .ok (.iload 4, 2) := by decide +kernel
theorem dL_law_620 : decode cL_law 620 = .ok (.iconst 2, 1) := by decide +kernel
theorem dL_law_621 : decode cL_law 621 = .ok (.iadd, 1) := by decide +kernel
theorem dL_law_622 : decode cL_law 622 = .ok (.iaload, 1) := by decide +kernel
theorem dL_law_623 : decode cL_law 623 = .ok (.aload_n 3, 1) := by decide +kernel
theorem dL_law_624 : decode cL_law 624 = .ok (.invokestatic 130, 3) := by decide +kernel
theorem dL_law_627 : decode cL_law 627 = .ok (.istore 5, 2) := by decide +kernel
theorem dL_law_629 : decode cL_law 629 = .ok (.aload_n 2, 1) := by decide +kernel
theorem dL_law_630 : decode cL_law 630 = .ok (.aload_n 0, 1) := by decide +kernel
theorem dL_law_631 : decode cL_law 631 = .ok (.iload 4, 2) := by decide +kernel
theorem dL_law_633 : decode cL_law 633 = .ok (.iconst 1, 1) := by decide +kernel
theorem dL_law_634 : decode cL_law 634 = .ok (.iadd, 1) := by decide +kernel
theorem dL_law_635 : decode cL_law 635 = .ok (.iaload, 1) := by decide +kernel
theorem dL_law_636 : decode cL_law 636 = .ok (.aload_n 0, 1) := by decide +kernel
theorem dL_law_637 : decode cL_law 637 = .ok (.iload 4, 2) := by decide +kernel
theorem dL_law_639 : decode cL_law 639 = .ok (.iconst 2, 1) := by decide +kernel
theorem dL_law_640 : decode cL_law 640 = .ok (.iadd, 1) := by decide +kernel
theorem dL_law_641 : decode cL_law 641 = .ok (.iaload, 1) := by decide +kernel
theorem dL_law_642 : decode cL_law 642 = .ok (.invokevirtual 132, 3) := by decide +kernel
theorem dL_law_645 : decode cL_law 645 = .ok (.istore 6, 2) := by decide +kernel
theorem dL_law_647 : decode cL_law 647 = .ok (.aload_n 2, 1) := by decide +kernel
theorem dL_law_648 : decode cL_law 648 = .ok (.invokevirtual 99, 3) := by decide +kernel
theorem dL_law_651 : decode cL_law 651 = .ok (.iload 5, 2) := by decide +kernel
theorem dL_law_653 : decode cL_law 653 = .ok (.if_icmp .eq 5, 3) := by decide +kernel
theorem dL_law_656 : decode cL_law 656 = .ok (.iconst 0, 1) := by decide +kernel
theorem dL_law_657 : decode cL_law 657 = .ok (.ireturn, 1) := by decide +kernel
theorem dL_law_658 : decode cL_law 658 = .ok (.iload 5, 2) := by decide +kernel
theorem dL_law_660 : decode cL_law 660 = .ok (.ifCond .ne 15, 3) := by decide +kernel
theorem dL_law_663 : decode cL_law 663 = .ok (.aload_n 3, 1) := by decide +kernel
theorem dL_law_664 : decode cL_law 664 = .ok (.iconst 0, 1) := by decide +kernel
theorem dL_law_665 : decode cL_law 665 = .ok (.laload, 1) := by decide +kernel
theorem dL_law_666 : decode cL_law 666 = .ok (.iload 6, 2) := by decide +kernel
theorem dL_law_668 : decode cL_law 668 = .ok (.i2l, 1) := by decide +kernel
theorem dL_law_669 : decode cL_law 669 = .ok (.lcmp, 1) := by decide +kernel
theorem dL_law_670 : decode cL_law 670 = .ok (.ifCond .eq 5, 3) := by decide +kernel
theorem dL_law_673 : decode cL_law 673 = .ok (.iconst 0, 1) := by decide +kernel
theorem dL_law_674 : decode cL_law 674 = .ok (.ireturn, 1) := by decide +kernel
theorem dL_law_675 : decode cL_law 675 = .ok (.goto 1004, 3) := by decide +kernel
theorem dL_law_678 : decode cL_law 678 = .ok (.aload_n 1, 1) := by decide +kernel
theorem dL_law_679 : decode cL_law 679 = .ok (.aload_n 0, 1) := by decide +kernel
theorem dL_law_680 : decode cL_law 680 = .ok (.iload 4, 2) := by decide +kernel
theorem dL_law_682 : decode cL_law 682 = .ok (.iconst 1, 1) := by decide +kernel
theorem dL_law_683 : decode cL_law 683 = .ok (.iadd, 1) := by decide +kernel
theorem dL_law_684 : decode cL_law 684 = .ok (.iaload, 1) := by decide +kernel
theorem dL_law_685 : decode cL_law 685 = .ok (.aload_n 0, 1) := by decide +kernel
theorem dL_law_686 : decode cL_law 686 = .ok (.iload 4, 2) := by decide +kernel
theorem dL_law_688 : decode cL_law 688 = .ok (.iconst 2, 1) := by decide +kernel
theorem dL_law_689 : decode cL_law 689 = .ok (.iadd, 1) := by decide +kernel
theorem dL_law_690 : decode cL_law 690 = .ok (.iaload, 1) := by decide +kernel
theorem dL_law_691 : decode cL_law 691 = .ok (.aload_n 3, 1) := by decide +kernel
theorem dL_law_692 : decode cL_law 692 = .ok (.invokestatic 133, 3) := by decide +kernel
theorem dL_law_695 : decode cL_law 695 = .ok (.istore 5, 2) := by decide +kernel
theorem dL_law_697 : decode cL_law 697 = .ok (.aload_n 2, 1) := by decide +kernel
theorem dL_law_698 : decode cL_law 698 = .ok (.aload_n 0, 1) := by decide +kernel
theorem dL_law_699 : decode cL_law 699 = .ok (.iload 4, 2) := by decide +kernel
theorem dL_law_701 : decode cL_law 701 = .ok (.iconst 1, 1) := by decide +kernel
theorem dL_law_702 : decode cL_law 702 = .ok (.iadd, 1) := by decide +kernel
theorem dL_law_703 : decode cL_law 703 = .ok (.iaload, 1) := by decide +kernel
theorem dL_law_704 : decode cL_law 704 = .ok (.aload_n 0, 1) := by decide +kernel
theorem dL_law_705 : decode cL_law 705 = .ok (.iload 4, 2) := by decide +kernel
theorem dL_law_707 : decode cL_law 707 = .ok (.iconst 2, 1) := by decide +kernel
theorem dL_law_708 : decode cL_law 708 = .ok (.iadd, 1) := by decide +kernel
theorem dL_law_709 : decode cL_law 709 = .ok (.iaload, 1) := by decide +kernel
theorem dL_law_710 : decode cL_law 710 = .ok (.invokevirtual 135, 3) := by decide +kernel
theorem dL_law_713 : decode cL_law 713 = .ok (.istore 6, 2) := by decide +kernel
theorem dL_law_715 : decode cL_law 715 = .ok (.aload_n 2, 1) := by decide +kernel
theorem dL_law_716 : decode cL_law 716 = .ok (.invokevirtual 99, 3) := by decide +kernel
theorem dL_law_719 : decode cL_law 719 = .ok (.iload 5, 2) := by decide +kernel
theorem dL_law_721 : decode cL_law 721 = .ok (.if_icmp .eq 5, 3) := by decide +kernel
theorem dL_law_724 : decode cL_law 724 = .ok (.iconst 0, 1) := by decide +kernel
theorem dL_law_725 : decode cL_law 725 = .ok (.ireturn, 1) := by decide +kernel
theorem dL_law_726 : decode cL_law 726 = .ok (.iload 5, 2) := by decide +kernel
theorem dL_law_728 : decode cL_law 728 = .ok (.ifCond .ne 15, 3) := by decide +kernel
theorem dL_law_731 : decode cL_law 731 = .ok (.aload_n 3, 1) := by decide +kernel
theorem dL_law_732 : decode cL_law 732 = .ok (.iconst 0, 1) := by decide +kernel
theorem dL_law_733 : decode cL_law 733 = .ok (.laload, 1) := by decide +kernel
theorem dL_law_734 : decode cL_law 734 = .ok (.iload 6, 2) := by decide +kernel
theorem dL_law_736 : decode cL_law 736 = .ok (.i2l, 1) := by decide +kernel
theorem dL_law_737 : decode cL_law 737 = .ok (.lcmp, 1) := by decide +kernel
theorem dL_law_738 : decode cL_law 738 = .ok (.ifCond .eq 5, 3) := by decide +kernel
theorem dL_law_741 : decode cL_law 741 = .ok (.iconst 0, 1) := by decide +kernel
theorem dL_law_742 : decode cL_law 742 = .ok (.ireturn, 1) := by decide +kernel
theorem dL_law_743 : decode cL_law 743 = .ok (.goto 936, 3) := by decide +kernel
theorem dL_law_746 : decode cL_law 746 = .ok (.aload_n 1, 1) := by decide +kernel
theorem dL_law_747 : decode cL_law 747 = .ok (.aload_n 0, 1) := by decide +kernel
theorem dL_law_748 : decode cL_law 748 = .ok (.iload 4, 2) := by decide +kernel
theorem dL_law_750 : decode cL_law 750 = .ok (.iconst 1, 1) := by decide +kernel
theorem dL_law_751 : decode cL_law 751 = .ok (.iadd, 1) := by decide +kernel
theorem dL_law_752 : decode cL_law 752 = .ok (.iaload, 1) := by decide +kernel
theorem dL_law_753 : decode cL_law 753 = .ok (.aload_n 0, 1) := by decide +kernel
theorem dL_law_754 : decode cL_law 754 = .ok (.iload 4, 2) := by decide +kernel
theorem dL_law_756 : decode cL_law 756 = .ok (.iconst 2, 1) := by decide +kernel
theorem dL_law_757 : decode cL_law 757 = .ok (.iadd, 1) := by decide +kernel
theorem dL_law_758 : decode cL_law 758 = .ok (.iaload, 1) := by decide +kernel
theorem dL_law_759 : decode cL_law 759 = .ok (.aload_n 3, 1) := by decide +kernel
theorem dL_law_760 : decode cL_law 760 = .ok (.invokestatic 136, 3) := by decide +kernel
theorem dL_law_763 : decode cL_law 763 = .ok (.istore 5, 2) := by decide +kernel
theorem dL_law_765 : decode cL_law 765 = .ok (.aload_n 2, 1) := by decide +kernel
theorem dL_law_766 : decode cL_law 766 = .ok (.aload_n 0, 1) := by decide +kernel
theorem dL_law_767 : decode cL_law 767 = .ok (.iload 4, 2) := by decide +kernel
theorem dL_law_769 : decode cL_law 769 = .ok (.iconst 1, 1) := by decide +kernel
theorem dL_law_770 : decode cL_law 770 = .ok (.iadd, 1) := by decide +kernel
theorem dL_law_771 : decode cL_law 771 = .ok (.iaload, 1) := by decide +kernel
theorem dL_law_772 : decode cL_law 772 = .ok (.aload_n 0, 1) := by decide +kernel
theorem dL_law_773 : decode cL_law 773 = .ok (.iload 4, 2) := by decide +kernel
theorem dL_law_775 : decode cL_law 775 = .ok (.iconst 2, 1) := by decide +kernel
theorem dL_law_776 : decode cL_law 776 = .ok (.iadd, 1) := by decide +kernel
theorem dL_law_777 : decode cL_law 777 = .ok (.iaload, 1) := by decide +kernel
theorem dL_law_778 : decode cL_law 778 = .ok (.invokevirtual 138, 3) := by decide +kernel
theorem dL_law_781 : decode cL_law 781 = .ok (.istore 6, 2) := by decide +kernel
theorem dL_law_783 : decode cL_law 783 = .ok (.aload_n 2, 1) := by decide +kernel
theorem dL_law_784 : decode cL_law 784 = .ok (.invokevirtual 99, 3) := by decide +kernel
theorem dL_law_787 : decode cL_law 787 = .ok (.iload 5, 2) := by decide +kernel
theorem dL_law_789 : decode cL_law 789 = .ok (.if_icmp .eq 5, 3) := by decide +kernel
theorem dL_law_792 : decode cL_law 792 = .ok (.iconst 0, 1) := by decide +kernel
theorem dL_law_793 : decode cL_law 793 = .ok (.ireturn, 1) := by decide +kernel
theorem dL_law_794 : decode cL_law 794 = .ok (.iload 5, 2) := by decide +kernel
theorem dL_law_796 : decode cL_law 796 = .ok (.ifCond .ne 15, 3) := by decide +kernel
theorem dL_law_799 : decode cL_law 799 = .ok (.aload_n 3, 1) := by decide +kernel
theorem dL_law_800 : decode cL_law 800 = .ok (.iconst 0, 1) := by decide +kernel
theorem dL_law_801 : decode cL_law 801 = .ok (.laload, 1) := by decide +kernel
theorem dL_law_802 : decode cL_law 802 = .ok (.iload 6, 2) := by decide +kernel
theorem dL_law_804 : decode cL_law 804 = .ok (.i2l, 1) := by decide +kernel
theorem dL_law_805 : decode cL_law 805 = .ok (.lcmp, 1) := by decide +kernel
theorem dL_law_806 : decode cL_law 806 = .ok (.ifCond .eq 5, 3) := by decide +kernel
theorem dL_law_809 : decode cL_law 809 = .ok (.iconst 0, 1) := by decide +kernel
theorem dL_law_810 : decode cL_law 810 = .ok (.ireturn, 1) := by decide +kernel
theorem dL_law_811 : decode cL_law 811 = .ok (.goto 868, 3) := by decide +kernel
theorem dL_law_814 : decode cL_law 814 = .ok (.aload_n 1, 1) := by decide +kernel
theorem dL_law_815 : decode cL_law 815 = .ok (.aload_n 0, 1) := by decide +kernel
theorem dL_law_816 : decode cL_law 816 = .ok (.iload 4, 2) := by decide +kernel
theorem dL_law_818 : decode cL_law 818 = .ok (.iconst 1, 1) := by decide +kernel
theorem dL_law_819 : decode cL_law 819 = .ok (.iadd, 1) := by decide +kernel
theorem dL_law_820 : decode cL_law 820 = .ok (.iaload, 1) := by decide +kernel
theorem dL_law_821 : decode cL_law 821 = .ok (.aload_n 0, 1) := by decide +kernel
theorem dL_law_822 : decode cL_law 822 = .ok (.iload 4, 2) := by decide +kernel
theorem dL_law_824 : decode cL_law 824 = .ok (.iconst 2, 1) := by decide +kernel
theorem dL_law_825 : decode cL_law 825 = .ok (.iadd, 1) := by decide +kernel
theorem dL_law_826 : decode cL_law 826 = .ok (.iaload, 1) := by decide +kernel
theorem dL_law_827 : decode cL_law 827 = .ok (.aload_n 3, 1) := by decide +kernel
theorem dL_law_828 : decode cL_law 828 = .ok (.invokestatic 139, 3) := by decide +kernel
theorem dL_law_831 : decode cL_law 831 = .ok (.istore 5, 2) := by decide +kernel
theorem dL_law_833 : decode cL_law 833 = .ok (.aload_n 2, 1) := by decide +kernel
theorem dL_law_834 : decode cL_law 834 = .ok (.aload_n 0, 1) := by decide +kernel
theorem dL_law_835 : decode cL_law 835 = .ok (.iload 4, 2) := by decide +kernel
theorem dL_law_837 : decode cL_law 837 = .ok (.iconst 1, 1) := by decide +kernel
theorem dL_law_838 : decode cL_law 838 = .ok (.iadd, 1) := by decide +kernel
theorem dL_law_839 : decode cL_law 839 = .ok (.iaload, 1) := by decide +kernel
theorem dL_law_840 : decode cL_law 840 = .ok (.aload_n 0, 1) := by decide +kernel
theorem dL_law_841 : decode cL_law 841 = .ok (.iload 4, 2) := by decide +kernel
theorem dL_law_843 : decode cL_law 843 = .ok (.iconst 2, 1) := by decide +kernel
theorem dL_law_844 : decode cL_law 844 = .ok (.iadd, 1) := by decide +kernel
theorem dL_law_845 : decode cL_law 845 = .ok (.iaload, 1) := by decide +kernel
theorem dL_law_846 : decode cL_law 846 = .ok (.invokevirtual 141, 3) := by decide +kernel
theorem dL_law_849 : decode cL_law 849 = .ok (.istore 6, 2) := by decide +kernel
theorem dL_law_851 : decode cL_law 851 = .ok (.aload_n 2, 1) := by decide +kernel
theorem dL_law_852 : decode cL_law 852 = .ok (.invokevirtual 99, 3) := by decide +kernel
theorem dL_law_855 : decode cL_law 855 = .ok (.iload 5, 2) := by decide +kernel
theorem dL_law_857 : decode cL_law 857 = .ok (.if_icmp .eq 5, 3) := by decide +kernel
theorem dL_law_860 : decode cL_law 860 = .ok (.iconst 0, 1) := by decide +kernel
theorem dL_law_861 : decode cL_law 861 = .ok (.ireturn, 1) := by decide +kernel
theorem dL_law_862 : decode cL_law 862 = .ok (.iload 5, 2) := by decide +kernel
theorem dL_law_864 : decode cL_law 864 = .ok (.ifCond .ne 15, 3) := by decide +kernel
theorem dL_law_867 : decode cL_law 867 = .ok (.aload_n 3, 1) := by decide +kernel
theorem dL_law_868 : decode cL_law 868 = .ok (.iconst 0, 1) := by decide +kernel
theorem dL_law_869 : decode cL_law 869 = .ok (.laload, 1) := by decide +kernel
theorem dL_law_870 : decode cL_law 870 = .ok (.iload 6, 2) := by decide +kernel
theorem dL_law_872 : decode cL_law 872 = .ok (.i2l, 1) := by decide +kernel
theorem dL_law_873 : decode cL_law 873 = .ok (.lcmp, 1) := by decide +kernel
theorem dL_law_874 : decode cL_law 874 = .ok (.ifCond .eq 5, 3) := by decide +kernel
theorem dL_law_877 : decode cL_law 877 = .ok (.iconst 0, 1) := by decide +kernel
theorem dL_law_878 : decode cL_law 878 = .ok (.ireturn, 1) := by decide +kernel
theorem dL_law_879 : decode cL_law 879 = .ok (.goto 800, 3) := by decide +kernel
theorem dL_law_882 : decode cL_law 882 = .ok (.aload_n 1, 1) := by decide +kernel
theorem dL_law_883 : decode cL_law 883 = .ok (.aload_n 0, 1) := by decide +kernel
theorem dL_law_884 : decode cL_law 884 = .ok (.iload 4, 2) := by decide +kernel
theorem dL_law_886 : decode cL_law 886 = .ok (.iconst 1, 1) := by decide +kernel
theorem dL_law_887 : decode cL_law 887 = .ok (.iadd, 1) := by decide +kernel
theorem dL_law_888 : decode cL_law 888 = .ok (.iaload, 1) := by decide +kernel
theorem dL_law_889 : decode cL_law 889 = .ok (.aload_n 0, 1) := by decide +kernel
theorem dL_law_890 : decode cL_law 890 = .ok (.iload 4, 2) := by decide +kernel
theorem dL_law_892 : decode cL_law 892 = .ok (.iconst 2, 1) := by decide +kernel
theorem dL_law_893 : decode cL_law 893 = .ok (.iadd, 1) := by decide +kernel
theorem dL_law_894 : decode cL_law 894 = .ok (.iaload, 1) := by decide +kernel
theorem dL_law_895 : decode cL_law 895 = .ok (.aload_n 3, 1) := by decide +kernel
theorem dL_law_896 : decode cL_law 896 = .ok (.invokestatic 142, 3) := by decide +kernel
theorem dL_law_899 : decode cL_law 899 = .ok (.istore 5, 2) := by decide +kernel
theorem dL_law_901 : decode cL_law 901 = .ok (.aload_n 2, 1) := by decide +kernel
theorem dL_law_902 : decode cL_law 902 = .ok (.aload_n 0, 1) := by decide +kernel
theorem dL_law_903 : decode cL_law 903 = .ok (.iload 4, 2) := by decide +kernel
theorem dL_law_905 : decode cL_law 905 = .ok (.iconst 1, 1) := by decide +kernel
theorem dL_law_906 : decode cL_law 906 = .ok (.iadd, 1) := by decide +kernel
theorem dL_law_907 : decode cL_law 907 = .ok (.iaload, 1) := by decide +kernel
theorem dL_law_908 : decode cL_law 908 = .ok (.aload_n 0, 1) := by decide +kernel
theorem dL_law_909 : decode cL_law 909 = .ok (.iload 4, 2) := by decide +kernel
theorem dL_law_911 : decode cL_law 911 = .ok (.iconst 2, 1) := by decide +kernel
theorem dL_law_912 : decode cL_law 912 = .ok (.iadd, 1) := by decide +kernel
theorem dL_law_913 : decode cL_law 913 = .ok (.iaload, 1) := by decide +kernel
theorem dL_law_914 : decode cL_law 914 = .ok (.invokevirtual 144, 3) := by decide +kernel
theorem dL_law_917 : decode cL_law 917 = .ok (.istore 6, 2) := by decide +kernel
theorem dL_law_919 : decode cL_law 919 = .ok (.aload_n 2, 1) := by decide +kernel
theorem dL_law_920 : decode cL_law 920 = .ok (.invokevirtual 99, 3) := by decide +kernel
theorem dL_law_923 : decode cL_law 923 = .ok (.iload 5, 2) := by decide +kernel
theorem dL_law_925 : decode cL_law 925 = .ok (.if_icmp .eq 5, 3) := by decide +kernel
theorem dL_law_928 : decode cL_law 928 = .ok (.iconst 0, 1) := by decide +kernel
theorem dL_law_929 : decode cL_law 929 = .ok (.ireturn, 1) := by decide +kernel
theorem dL_law_930 : decode cL_law 930 = .ok (.iload 5, 2) := by decide +kernel
theorem dL_law_932 : decode cL_law 932 = .ok (.ifCond .ne 15, 3) := by decide +kernel
theorem dL_law_935 : decode cL_law 935 = .ok (.aload_n 3, 1) := by decide +kernel
theorem dL_law_936 : decode cL_law 936 = .ok (.iconst 0, 1) := by decide +kernel
theorem dL_law_937 : decode cL_law 937 = .ok (.laload, 1) := by decide +kernel
theorem dL_law_938 : decode cL_law 938 = .ok (.iload 6, 2) := by decide +kernel
theorem dL_law_940 : decode cL_law 940 = .ok (.i2l, 1) := by decide +kernel
theorem dL_law_941 : decode cL_law 941 = .ok (.lcmp, 1) := by decide +kernel
theorem dL_law_942 : decode cL_law 942 = .ok (.ifCond .eq 5, 3) := by decide +kernel
theorem dL_law_945 : decode cL_law 945 = .ok (.iconst 0, 1) := by decide +kernel
theorem dL_law_946 : decode cL_law 946 = .ok (.ireturn, 1) := by decide +kernel
theorem dL_law_947 : decode cL_law 947 = .ok (.goto 732, 3) := by decide +kernel
theorem dL_law_950 : decode cL_law 950 = .ok (.aload_n 1, 1) := by decide +kernel
theorem dL_law_951 : decode cL_law 951 = .ok (.aload_n 3, 1) := by decide +kernel
theorem dL_law_952 : decode cL_law 952 = .ok (.invokestatic 145, 3) := by decide +kernel
theorem dL_law_955 : decode cL_law 955 = .ok (.istore 5, 2) := by decide +kernel
theorem dL_law_957 : decode cL_law 957 = .ok (.aload_n 2, 1) := by decide +kernel
theorem dL_law_958 : decode cL_law 958 = .ok (.invokevirtual 147, 3) := by decide +kernel
theorem dL_law_961 : decode cL_law 961 = .ok (.istore 6, 2) := by decide +kernel
theorem dL_law_963 : decode cL_law 963 = .ok (.aload_n 2, 1) := by decide +kernel
theorem dL_law_964 : decode cL_law 964 = .ok (.invokevirtual 99, 3) := by decide +kernel
theorem dL_law_967 : decode cL_law 967 = .ok (.iload 5, 2) := by decide +kernel
theorem dL_law_969 : decode cL_law 969 = .ok (.if_icmp .eq 5, 3) := by decide +kernel
theorem dL_law_972 : decode cL_law 972 = .ok (.iconst 0, 1) := by decide +kernel
theorem dL_law_973 : decode cL_law 973 = .ok (.ireturn, 1) := by decide +kernel
theorem dL_law_974 : decode cL_law 974 = .ok (.iload 5, 2) := by decide +kernel
theorem dL_law_976 : decode cL_law 976 = .ok (.ifCond .ne 15, 3) := by decide +kernel
theorem dL_law_979 : decode cL_law 979 = .ok (.aload_n 3, 1) := by decide +kernel
theorem dL_law_980 : decode cL_law 980 = .ok (.iconst 0, 1) := by decide +kernel
theorem dL_law_981 : decode cL_law 981 = .ok (.laload, 1) := by decide +kernel
theorem dL_law_982 : decode cL_law 982 = .ok (.iload 6, 2) := by decide +kernel
theorem dL_law_984 : decode cL_law 984 = .ok (.i2l, 1) := by decide +kernel
theorem dL_law_985 : decode cL_law 985 = .ok (.lcmp, 1) := by decide +kernel
theorem dL_law_986 : decode cL_law 986 = .ok (.ifCond .eq 5, 3) := by decide +kernel
theorem dL_law_989 : decode cL_law 989 = .ok (.iconst 0, 1) := by decide +kernel
theorem dL_law_990 : decode cL_law 990 = .ok (.ireturn, 1) := by decide +kernel
theorem dL_law_991 : decode cL_law 991 = .ok (.goto 688, 3) := by decide +kernel
theorem dL_law_994 : decode cL_law 994 = .ok (.aload_n 1, 1) := by decide +kernel
theorem dL_law_995 : decode cL_law 995 = .ok (.aload_n 0, 1) := by decide +kernel
theorem dL_law_996 : decode cL_law 996 = .ok (.iload 4, 2) := by decide +kernel
theorem dL_law_998 : decode cL_law 998 = .ok (.iconst 1, 1) := by decide +kernel
theorem dL_law_999 : decode cL_law 999 = .ok (.iadd, 1) := by decide +kernel
theorem dL_law_1000 : decode cL_law 1000 = .ok (.iaload, 1) := by decide +kernel
theorem dL_law_1001 : decode cL_law 1001 = .ok (.aload_n 0, 1) := by decide +kernel
theorem dL_law_1002 : decode cL_law 1002 = .ok (.iload 4, 2) := by decide +kernel
theorem dL_law_1004 : decode cL_law 1004 = .ok (.iconst 2, 1) := by decide +kernel
theorem dL_law_1005 : decode cL_law 1005 = .ok (.iadd, 1) := by decide +kernel
theorem dL_law_1006 : decode cL_law 1006 = .ok (.iaload, 1) := by decide +kernel
theorem dL_law_1007 : decode cL_law 1007 = .ok (.aload_n 3, 1) := by decide +kernel
theorem dL_law_1008 : decode cL_law 1008 = .ok (.invokestatic 148, 3) := by decide +kernel
theorem dL_law_1011 : decode cL_law 1011 = .ok (.istore 5, 2) := by decide +kernel
theorem dL_law_1013 : decode cL_law 1013 = .ok (.aload_n 2, 1) := by decide +kernel
theorem dL_law_1014 : decode cL_law 1014 = .ok (.aload_n 0, 1) := by decide +kernel
theorem dL_law_1015 : decode cL_law 1015 = .ok (.iload 4, 2) := by decide +kernel
theorem dL_law_1017 : decode cL_law 1017 = .ok (.iconst 1, 1) := by decide +kernel
theorem dL_law_1018 : decode cL_law 1018 = .ok (.iadd, 1) := by decide +kernel
theorem dL_law_1019 : decode cL_law 1019 = .ok (.iaload, 1) := by decide +kernel
theorem dL_law_1020 : decode cL_law 1020 = .ok (.aload_n 0, 1) := by decide +kernel
theorem dL_law_1021 : decode cL_law 1021 = .ok (.iload 4, 2) := by decide +kernel
theorem dL_law_1023 : decode cL_law 1023 = .ok (.iconst 2, 1) := by decide +kernel
theorem dL_law_1024 : decode cL_law 1024 = .ok (.iadd, 1) := by decide +kernel
theorem dL_law_1025 : decode cL_law 1025 = .ok (.iaload, 1) := by decide +kernel
theorem dL_law_1026 : decode cL_law 1026 = .ok (.invokevirtual 150, 3) := by decide +kernel
theorem dL_law_1029 : decode cL_law 1029 = .ok (.istore 6, 2) := by decide +kernel
theorem dL_law_1031 : decode cL_law 1031 = .ok (.aload_n 2, 1) := by decide +kernel
theorem dL_law_1032 : decode cL_law 1032 = .ok (.invokevirtual 99, 3) := by decide +kernel
theorem dL_law_1035 : decode cL_law 1035 = .ok (.iload 5, 2) := by decide +kernel
theorem dL_law_1037 : decode cL_law 1037 = .ok (.if_icmp .eq 5, 3) := by decide +kernel
theorem dL_law_1040 : decode cL_law 1040 = .ok (.iconst 0, 1) := by decide +kernel
theorem dL_law_1041 : decode cL_law 1041 = .ok (.ireturn, 1) := by decide +kernel
theorem dL_law_1042 : decode cL_law 1042 = .ok (.iload 5, 2) := by decide +kernel
theorem dL_law_1044 : decode cL_law 1044 = .ok (.ifCond .ne 15, 3) := by decide +kernel
theorem dL_law_1047 : decode cL_law 1047 = .ok (.aload_n 3, 1) := by decide +kernel
theorem dL_law_1048 : decode cL_law 1048 = .ok (.iconst 0, 1) := by decide +kernel
theorem dL_law_1049 : decode cL_law 1049 = .ok (.laload, 1) := by decide +kernel
theorem dL_law_1050 : decode cL_law 1050 = .ok (.iload 6, 2) := by decide +kernel
theorem dL_law_1052 : decode cL_law 1052 = .ok (.i2l, 1) := by decide +kernel
theorem dL_law_1053 : decode cL_law 1053 = .ok (.lcmp, 1) := by decide +kernel
theorem dL_law_1054 : decode cL_law 1054 = .ok (.ifCond .eq 5, 3) := by decide +kernel
theorem dL_law_1057 : decode cL_law 1057 = .ok (.iconst 0, 1) := by decide +kernel
theorem dL_law_1058 : decode cL_law 1058 = .ok (.ireturn, 1) := by decide +kernel
theorem dL_law_1059 : decode cL_law 1059 = .ok (.goto 620, 3) := by decide +kernel
theorem dL_law_1062 : decode cL_law 1062 = .ok (.aload_n 1, 1) := by decide +kernel
theorem dL_law_1063 : decode cL_law 1063 = .ok (.aload_n 0, 1) := by decide +kernel
theorem dL_law_1064 : decode cL_law 1064 = .ok (.iload 4, 2) := by decide +kernel
theorem dL_law_1066 : decode cL_law 1066 = .ok (.iconst 1, 1) := by decide +kernel
theorem dL_law_1067 : decode cL_law 1067 = .ok (.iadd, 1) := by decide +kernel
theorem dL_law_1068 : decode cL_law 1068 = .ok (.iaload, 1) := by decide +kernel
theorem dL_law_1069 : decode cL_law 1069 = .ok (.aload_n 3, 1) := by decide +kernel
theorem dL_law_1070 : decode cL_law 1070 = .ok (.invokestatic 151, 3) := by decide +kernel
theorem dL_law_1073 : decode cL_law 1073 = .ok (.istore 5, 2) := by decide +kernel
theorem dL_law_1075 : decode cL_law 1075 = .ok (.aload_n 2, 1) := by decide +kernel
theorem dL_law_1076 : decode cL_law 1076 = .ok (.aload_n 0, 1) := by decide +kernel
theorem dL_law_1077 : decode cL_law 1077 = .ok (.iload 4, 2) := by decide +kernel
theorem dL_law_1079 : decode cL_law 1079 = .ok (.iconst 1, 1) := by decide +kernel
theorem dL_law_1080 : decode cL_law 1080 = .ok (.iadd, 1) := by decide +kernel
theorem dL_law_1081 : decode cL_law 1081 = .ok (.iaload, 1) := by decide +kernel
theorem dL_law_1082 : decode cL_law 1082 = .ok (.invokevirtual 153, 3) := by decide +kernel
theorem dL_law_1085 : decode cL_law 1085 = .ok (.istore 6, 2) := by decide +kernel
theorem dL_law_1087 : decode cL_law 1087 = .ok (.aload_n 2, 1) := by decide +kernel
theorem dL_law_1088 : decode cL_law 1088 = .ok (.invokevirtual 99, 3) := by decide +kernel
theorem dL_law_1091 : decode cL_law 1091 = .ok (.iload 5, 2) := by decide +kernel
theorem dL_law_1093 : decode cL_law 1093 = .ok (.if_icmp .eq 5, 3) := by decide +kernel
theorem dL_law_1096 : decode cL_law 1096 = .ok (.iconst 0, 1) := by decide +kernel
theorem dL_law_1097 : decode cL_law 1097 = .ok (.ireturn, 1) := by decide +kernel
theorem dL_law_1098 : decode cL_law 1098 = .ok (.iload 5, 2) := by decide +kernel
theorem dL_law_1100 : decode cL_law 1100 = .ok (.ifCond .ne 15, 3) := by decide +kernel
theorem dL_law_1103 : decode cL_law 1103 = .ok (.aload_n 3, 1) := by decide +kernel
theorem dL_law_1104 : decode cL_law 1104 = .ok (.iconst 0, 1) := by decide +kernel
theorem dL_law_1105 : decode cL_law 1105 = .ok (.laload, 1) := by decide +kernel
theorem dL_law_1106 : decode cL_law 1106 = .ok (.iload 6, 2) := by decide +kernel
theorem dL_law_1108 : decode cL_law 1108 = .ok (.i2l, 1) := by decide +kernel
theorem dL_law_1109 : decode cL_law 1109 = .ok (.lcmp, 1) := by decide +kernel
theorem dL_law_1110 : decode cL_law 1110 = .ok (.ifCond .eq 5, 3) := by decide +kernel
theorem dL_law_1113 : decode cL_law 1113 = .ok (.iconst 0, 1) := by decide +kernel
theorem dL_law_1114 : decode cL_law 1114 = .ok (.ireturn, 1) := by decide +kernel
theorem dL_law_1115 : decode cL_law 1115 = .ok (.goto 564, 3) := by decide +kernel
theorem dL_law_1118 : decode cL_law 1118 = .ok (.aload_n 1, 1) := by decide +kernel
theorem dL_law_1119 : decode cL_law 1119 = .ok (.aload_n 0, 1) := by decide +kernel
theorem dL_law_1120 : decode cL_law 1120 = .ok (.iload 4, 2) := by decide +kernel
theorem dL_law_1122 : decode cL_law 1122 = .ok (.iconst 1, 1) := by decide +kernel
theorem dL_law_1123 : decode cL_law 1123 = .ok (.iadd, 1) := by decide +kernel
theorem dL_law_1124 : decode cL_law 1124 = .ok (.iaload, 1) := by decide +kernel
theorem dL_law_1125 : decode cL_law 1125 = .ok (.aload_n 0, 1) := by decide +kernel
theorem dL_law_1126 : decode cL_law 1126 = .ok (.iload 4, 2) := by decide +kernel
theorem dL_law_1128 : decode cL_law 1128 = .ok (.iconst 2, 1) := by decide +kernel
theorem dL_law_1129 : decode cL_law 1129 = .ok (.iadd, 1) := by decide +kernel
theorem dL_law_1130 : decode cL_law 1130 = .ok (.iaload, 1) := by decide +kernel
theorem dL_law_1131 : decode cL_law 1131 = .ok (.aload_n 3, 1) := by decide +kernel
theorem dL_law_1132 : decode cL_law 1132 = .ok (.invokestatic 154, 3) := by decide +kernel
theorem dL_law_1135 : decode cL_law 1135 = .ok (.istore 5, 2) := by decide +kernel
theorem dL_law_1137 : decode cL_law 1137 = .ok (.aload_n 2, 1) := by decide +kernel
theorem dL_law_1138 : decode cL_law 1138 = .ok (.aload_n 0, 1) := by decide +kernel
theorem dL_law_1139 : decode cL_law 1139 = .ok (.iload 4, 2) := by decide +kernel
theorem dL_law_1141 : decode cL_law 1141 = .ok (.iconst 1, 1) := by decide +kernel
theorem dL_law_1142 : decode cL_law 1142 = .ok (.iadd, 1) := by decide +kernel
theorem dL_law_1143 : decode cL_law 1143 = .ok (.iaload, 1) := by decide +kernel
theorem dL_law_1144 : decode cL_law 1144 = .ok (.aload_n 0, 1) := by decide +kernel
theorem dL_law_1145 : decode cL_law 1145 = .ok (.iload 4, 2) := by decide +kernel
theorem dL_law_1147 : decode cL_law 1147 = .ok (.iconst 2, 1) := by decide +kernel
theorem dL_law_1148 : decode cL_law 1148 = .ok (.iadd, 1) := by decide +kernel
theorem dL_law_1149 : decode cL_law 1149 = .ok (.iaload, 1) := by decide +kernel
theorem dL_law_1150 : decode cL_law 1150 = .ok (.invokevirtual 156, 3) := by decide +kernel
theorem dL_law_1153 : decode cL_law 1153 = .ok (.istore 6, 2) := by decide +kernel
theorem dL_law_1155 : decode cL_law 1155 = .ok (.aload_n 2, 1) := by decide +kernel
theorem dL_law_1156 : decode cL_law 1156 = .ok (.invokevirtual 99, 3) := by decide +kernel
theorem dL_law_1159 : decode cL_law 1159 = .ok (.iload 5, 2) := by decide +kernel
theorem dL_law_1161 : decode cL_law 1161 = .ok (.if_icmp .eq 5, 3) := by decide +kernel
theorem dL_law_1164 : decode cL_law 1164 = .ok (.iconst 0, 1) := by decide +kernel
theorem dL_law_1165 : decode cL_law 1165 = .ok (.ireturn, 1) := by decide +kernel
theorem dL_law_1166 : decode cL_law 1166 = .ok (.iload 5, 2) := by decide +kernel
theorem dL_law_1168 : decode cL_law 1168 = .ok (.ifCond .ne 15, 3) := by decide +kernel
theorem dL_law_1171 : decode cL_law 1171 = .ok (.aload_n 3, 1) := by decide +kernel
theorem dL_law_1172 : decode cL_law 1172 = .ok (.iconst 0, 1) := by decide +kernel
theorem dL_law_1173 : decode cL_law 1173 = .ok (.laload, 1) := by decide +kernel
theorem dL_law_1174 : decode cL_law 1174 = .ok (.iload 6, 2) := by decide +kernel
theorem dL_law_1176 : decode cL_law 1176 = .ok (.i2l, 1) := by decide +kernel
theorem dL_law_1177 : decode cL_law 1177 = .ok (.lcmp, 1) := by decide +kernel
theorem dL_law_1178 : decode cL_law 1178 = .ok (.ifCond .eq 5, 3) := by decide +kernel
theorem dL_law_1181 : decode cL_law 1181 = .ok (.iconst 0, 1) := by decide +kernel
theorem dL_law_1182 : decode cL_law 1182 = .ok (.ireturn, 1) := by decide +kernel
theorem dL_law_1183 : decode cL_law 1183 = .ok (.goto 496, 3) := by decide +kernel
theorem dL_law_1186 : decode cL_law 1186 = .ok (.aload_n 1, 1) := by decide +kernel
theorem dL_law_1187 : decode cL_law 1187 = .ok (.aload_n 0, 1) := by decide +kernel
theorem dL_law_1188 : decode cL_law 1188 = .ok (.iload 4, 2) := by decide +kernel
theorem dL_law_1190 : decode cL_law 1190 = .ok (.iconst 1, 1) := by decide +kernel
theorem dL_law_1191 : decode cL_law 1191 = .ok (.iadd, 1) := by decide +kernel
theorem dL_law_1192 : decode cL_law 1192 = .ok (.iaload, 1) := by decide +kernel
theorem dL_law_1193 : decode cL_law 1193 = .ok (.aload_n 3, 1) := by decide +kernel
theorem dL_law_1194 : decode cL_law 1194 = .ok (.invokestatic 157, 3) := by decide +kernel
theorem dL_law_1197 : decode cL_law 1197 = .ok (.istore 5, 2) := by decide +kernel
theorem dL_law_1199 : decode cL_law 1199 = .ok (.aload_n 2, 1) := by decide +kernel
theorem dL_law_1200 : decode cL_law 1200 = .ok (.aload_n 0, 1) := by decide +kernel
theorem dL_law_1201 : decode cL_law 1201 = .ok (.iload 4, 2) := by decide +kernel
theorem dL_law_1203 : decode cL_law 1203 = .ok (.iconst 1, 1) := by decide +kernel
theorem dL_law_1204 : decode cL_law 1204 = .ok (.iadd, 1) := by decide +kernel
theorem dL_law_1205 : decode cL_law 1205 = .ok (.iaload, 1) := by decide +kernel
theorem dL_law_1206 : decode cL_law 1206 = .ok (.invokevirtual 159, 3) := by decide +kernel
theorem dL_law_1209 : decode cL_law 1209 = .ok (.istore 6, 2) := by decide +kernel
theorem dL_law_1211 : decode cL_law 1211 = .ok (.aload_n 2, 1) := by decide +kernel
theorem dL_law_1212 : decode cL_law 1212 = .ok (.invokevirtual 99, 3) := by decide +kernel
theorem dL_law_1215 : decode cL_law 1215 = .ok (.iload 5, 2) := by decide +kernel
theorem dL_law_1217 : decode cL_law 1217 = .ok (.if_icmp .eq 5, 3) := by decide +kernel
theorem dL_law_1220 : decode cL_law 1220 = .ok (.iconst 0, 1) := by decide +kernel
theorem dL_law_1221 : decode cL_law 1221 = .ok (.ireturn, 1) := by decide +kernel
theorem dL_law_1222 : decode cL_law 1222 = .ok (.iload 5, 2) := by decide +kernel
theorem dL_law_1224 : decode cL_law 1224 = .ok (.ifCond .ne 15, 3) := by decide +kernel
theorem dL_law_1227 : decode cL_law 1227 = .ok (.aload_n 3, 1) := by decide +kernel
theorem dL_law_1228 : decode cL_law 1228 = .ok (.iconst 0, 1) := by decide +kernel
theorem dL_law_1229 : decode cL_law 1229 = .ok (.laload, 1) := by decide +kernel
theorem dL_law_1230 : decode cL_law 1230 = .ok (.iload 6, 2) := by decide +kernel
theorem dL_law_1232 : decode cL_law 1232 = .ok (.i2l, 1) := by decide +kernel
theorem dL_law_1233 : decode cL_law 1233 = .ok (.lcmp, 1) := by decide +kernel
theorem dL_law_1234 : decode cL_law 1234 = .ok (.ifCond .eq 5, 3) := by decide +kernel
theorem dL_law_1237 : decode cL_law 1237 = .ok (.iconst 0, 1) := by decide +kernel
theorem dL_law_1238 : decode cL_law 1238 = .ok (.ireturn, 1) := by decide +kernel
theorem dL_law_1239 : decode cL_law 1239 = .ok (.goto 440, 3) := by decide +kernel
theorem dL_law_1242 : decode cL_law 1242 = .ok (.aload_n 1, 1) := by decide +kernel
theorem dL_law_1243 : decode cL_law 1243 = .ok (.invokevirtual 160, 3) := by decide +kernel
theorem dL_law_1246 : decode cL_law 1246 = .ok (.aload_n 2, 1) := by decide +kernel
theorem dL_law_1247 : decode cL_law 1247 = .ok (.invokevirtual 163, 3) := by decide +kernel
theorem dL_law_1250 : decode cL_law 1250 = .ok (.if_icmp .eq 429, 3) := by decide +kernel
theorem dL_law_1253 : decode cL_law 1253 = .ok (.iconst 0, 1) := by decide +kernel
theorem dL_law_1254 : decode cL_law 1254 = .ok (.ireturn, 1) := by decide +kernel
theorem dL_law_1255 : decode cL_law 1255 = .ok (.aload_n 1, 1) := by decide +kernel
theorem dL_law_1256 : decode cL_law 1256 = .ok (.aload_n 0, 1) := by decide +kernel
theorem dL_law_1257 : decode cL_law 1257 = .ok (.iload 4, 2) := by decide +kernel
theorem dL_law_1259 : decode cL_law 1259 = .ok (.iconst 1, 1) := by decide +kernel
theorem dL_law_1260 : decode cL_law 1260 = .ok (.iadd, 1) := by decide +kernel
theorem dL_law_1261 : decode cL_law 1261 = .ok (.iaload, 1) := by decide +kernel
theorem dL_law_1262 : decode cL_law 1262 = .ok (.aload_n 3, 1) := by decide +kernel
theorem dL_law_1263 : decode cL_law 1263 = .ok (.invokestatic 164, 3) := by decide +kernel
theorem dL_law_1266 : decode cL_law 1266 = .ok (.istore 5, 2) := by decide +kernel
theorem dL_law_1268 : decode cL_law 1268 = .ok (.aload_n 2, 1) := by decide +kernel
theorem dL_law_1269 : decode cL_law 1269 = .ok (.aload_n 0, 1) := by decide +kernel
theorem dL_law_1270 : decode cL_law 1270 = .ok (.iload 4, 2) := by decide +kernel
theorem dL_law_1272 : decode cL_law 1272 = .ok (.iconst 1, 1) := by decide +kernel
theorem dL_law_1273 : decode cL_law 1273 = .ok (.iadd, 1) := by decide +kernel
theorem dL_law_1274 : decode cL_law 1274 = .ok (.iaload, 1) := by decide +kernel
theorem dL_law_1275 : decode cL_law 1275 = .ok (.invokevirtual 166, 3) := by decide +kernel
theorem dL_law_1278 : decode cL_law 1278 = .ok (.istore 6, 2) := by decide +kernel
theorem dL_law_1280 : decode cL_law 1280 = .ok (.aload_n 2, 1) := by decide +kernel
theorem dL_law_1281 : decode cL_law 1281 = .ok (.invokevirtual 99, 3) := by decide +kernel
theorem dL_law_1284 : decode cL_law 1284 = .ok (.iload 5, 2) := by decide +kernel
theorem dL_law_1286 : decode cL_law 1286 = .ok (.if_icmp .eq 5, 3) := by decide +kernel
theorem dL_law_1289 : decode cL_law 1289 = .ok (.iconst 0, 1) := by decide +kernel
theorem dL_law_1290 : decode cL_law 1290 = .ok (.ireturn, 1) := by decide +kernel
theorem dL_law_1291 : decode cL_law 1291 = .ok (.iload 5, 2) := by decide +kernel
theorem dL_law_1293 : decode cL_law 1293 = .ok (.ifCond .ne 15, 3) := by decide +kernel
theorem dL_law_1296 : decode cL_law 1296 = .ok (.aload_n 3, 1) := by decide +kernel
theorem dL_law_1297 : decode cL_law 1297 = .ok (.iconst 0, 1) := by decide +kernel
theorem dL_law_1298 : decode cL_law 1298 = .ok (.laload, 1) := by decide +kernel
theorem dL_law_1299 : decode cL_law 1299 = .ok (.iload 6, 2) := by decide +kernel
theorem dL_law_1301 : decode cL_law 1301 = .ok (.i2l, 1) := by decide +kernel
theorem dL_law_1302 : decode cL_law 1302 = .ok (.lcmp, 1) := by decide +kernel
theorem dL_law_1303 : decode cL_law 1303 = .ok (.ifCond .eq 5, 3) := by decide +kernel
theorem dL_law_1306 : decode cL_law 1306 = .ok (.iconst 0, 1) := by decide +kernel
theorem dL_law_1307 : decode cL_law 1307 = .ok (.ireturn, 1) := by decide +kernel
theorem dL_law_1308 : decode cL_law 1308 = .ok (.goto 371, 3) := by decide +kernel
theorem dL_law_1311 : decode cL_law 1311 = .ok (.aload_n 1, 1) := by decide +kernel
theorem dL_law_1312 : decode cL_law 1312 = .ok (.aload_n 0, 1) := by decide +kernel
theorem dL_law_1313 : decode cL_law 1313 = .ok (.iload 4, 2) := by decide +kernel
theorem dL_law_1315 : decode cL_law 1315 = .ok (.iconst 1, 1) := by decide +kernel
theorem dL_law_1316 : decode cL_law 1316 = .ok (.iadd, 1) := by decide +kernel
theorem dL_law_1317 : decode cL_law 1317 = .ok (.iaload, 1) := by decide +kernel
theorem dL_law_1318 : decode cL_law 1318 = .ok (.aload_n 3, 1) := by decide +kernel
theorem dL_law_1319 : decode cL_law 1319 = .ok (.invokestatic 167, 3) := by decide +kernel
theorem dL_law_1322 : decode cL_law 1322 = .ok (.istore 5, 2) := by decide +kernel
theorem dL_law_1324 : decode cL_law 1324 = .ok (.aload_n 2, 1) := by decide +kernel
theorem dL_law_1325 : decode cL_law 1325 = .ok (.aload_n 0, 1) := by decide +kernel
theorem dL_law_1326 : decode cL_law 1326 = .ok (.iload 4, 2) := by decide +kernel
theorem dL_law_1328 : decode cL_law 1328 = .ok (.iconst 1, 1) := by decide +kernel
theorem dL_law_1329 : decode cL_law 1329 = .ok (.iadd, 1) := by decide +kernel
theorem dL_law_1330 : decode cL_law 1330 = .ok (.iaload, 1) := by decide +kernel
theorem dL_law_1331 : decode cL_law 1331 = .ok (.invokevirtual 169, 3) := by decide +kernel
theorem dL_law_1334 : decode cL_law 1334 = .ok (.istore 6, 2) := by decide +kernel
theorem dL_law_1336 : decode cL_law 1336 = .ok (.aload_n 2, 1) := by decide +kernel
theorem dL_law_1337 : decode cL_law 1337 = .ok (.invokevirtual 99, 3) := by decide +kernel
theorem dL_law_1340 : decode cL_law 1340 = .ok (.iload 5, 2) := by decide +kernel
theorem dL_law_1342 : decode cL_law 1342 = .ok (.if_icmp .eq 5, 3) := by decide +kernel
theorem dL_law_1345 : decode cL_law 1345 = .ok (.iconst 0, 1) := by decide +kernel
theorem dL_law_1346 : decode cL_law 1346 = .ok (.ireturn, 1) := by decide +kernel
theorem dL_law_1347 : decode cL_law 1347 = .ok (.iload 5, 2) := by decide +kernel
theorem dL_law_1349 : decode cL_law 1349 = .ok (.ifCond .ne 15, 3) := by decide +kernel
theorem dL_law_1352 : decode cL_law 1352 = .ok (.aload_n 3, 1) := by decide +kernel
theorem dL_law_1353 : decode cL_law 1353 = .ok (.iconst 0, 1) := by decide +kernel
theorem dL_law_1354 : decode cL_law 1354 = .ok (.laload, 1) := by decide +kernel
theorem dL_law_1355 : decode cL_law 1355 = .ok (.iload 6, 2) := by decide +kernel
theorem dL_law_1357 : decode cL_law 1357 = .ok (.i2l, 1) := by decide +kernel
theorem dL_law_1358 : decode cL_law 1358 = .ok (.lcmp, 1) := by decide +kernel
theorem dL_law_1359 : decode cL_law 1359 = .ok (.ifCond .eq 5, 3) := by decide +kernel
theorem dL_law_1362 : decode cL_law 1362 = .ok (.iconst 0, 1) := by decide +kernel
theorem dL_law_1363 : decode cL_law 1363 = .ok (.ireturn, 1) := by decide +kernel
theorem dL_law_1364 : decode cL_law 1364 = .ok (.goto 315, 3) := by decide +kernel
theorem dL_law_1367 : decode cL_law 1367 = .ok (.aload_n 1, 1) := by decide +kernel
theorem dL_law_1368 : decode cL_law 1368 = .ok (.aload_n 0, 1) := by decide +kernel
theorem dL_law_1369 : decode cL_law 1369 = .ok (.iload 4, 2) := by decide +kernel
theorem dL_law_1371 : decode cL_law 1371 = .ok (.iconst 1, 1) := by decide +kernel
theorem dL_law_1372 : decode cL_law 1372 = .ok (.iadd, 1) := by decide +kernel
theorem dL_law_1373 : decode cL_law 1373 = .ok (.iaload, 1) := by decide +kernel
theorem dL_law_1374 : decode cL_law 1374 = .ok (.aload_n 0, 1) := by decide +kernel
theorem dL_law_1375 : decode cL_law 1375 = .ok (.iload 4, 2) := by decide +kernel
theorem dL_law_1377 : decode cL_law 1377 = .ok (.iconst 2, 1) := by decide +kernel
theorem dL_law_1378 : decode cL_law 1378 = .ok (.iadd, 1) := by decide +kernel
theorem dL_law_1379 : decode cL_law 1379 = .ok (.iaload, 1) := by decide +kernel
theorem dL_law_1380 : decode cL_law 1380 = .ok (.i2l, 1) := by decide +kernel
theorem dL_law_1381 : decode cL_law 1381 = .ok (.bipush 32, 2) := by decide +kernel
theorem dL_law_1383 : decode cL_law 1383 = .ok (.lshl, 1) := by decide +kernel
theorem dL_law_1384 : decode cL_law 1384 = .ok (.aload_n 0, 1) := by decide +kernel
theorem dL_law_1385 : decode cL_law 1385 = .ok (.iload 4, 2) := by decide +kernel
theorem dL_law_1387 : decode cL_law 1387 = .ok (.iconst 3, 1) := by decide +kernel
theorem dL_law_1388 : decode cL_law 1388 = .ok (.iadd, 1) := by decide +kernel
theorem dL_law_1389 : decode cL_law 1389 = .ok (.iaload, 1) := by decide +kernel
theorem dL_law_1390 : decode cL_law 1390 = .ok (.i2l, 1) := by decide +kernel
theorem dL_law_1391 : decode cL_law 1391 = .ok (.ldc2_w 170, 3) := by decide +kernel
theorem dL_law_1394 : decode cL_law 1394 = .ok (.land, 1) := by decide +kernel
theorem dL_law_1395 : decode cL_law 1395 = .ok (.lor, 1) := by decide +kernel
theorem dL_law_1396 : decode cL_law 1396 = .ok (.aload_n 3, 1) := by decide +kernel
theorem dL_law_1397 : decode cL_law 1397 = .ok (.invokestatic 172, 3) := by decide +kernel
theorem dL_law_1400 : decode cL_law 1400 = .ok (.istore 5, 2) := by decide +kernel
theorem dL_law_1402 : decode cL_law 1402 = .ok (.aload_n 2, 1) := by decide +kernel
theorem dL_law_1403 : decode cL_law 1403 = .ok (.aload_n 0, 1) := by decide +kernel
theorem dL_law_1404 : decode cL_law 1404 = .ok (.iload 4, 2) := by decide +kernel
theorem dL_law_1406 : decode cL_law 1406 = .ok (.iconst 1, 1) := by decide +kernel
theorem dL_law_1407 : decode cL_law 1407 = .ok (.iadd, 1) := by decide +kernel
theorem dL_law_1408 : decode cL_law 1408 = .ok (.iaload, 1) := by decide +kernel
theorem dL_law_1409 : decode cL_law 1409 = .ok (.aload_n 0, 1) := by decide +kernel
theorem dL_law_1410 : decode cL_law 1410 = .ok (.iload 4, 2) := by decide +kernel
theorem dL_law_1412 : decode cL_law 1412 = .ok (.iconst 2, 1) := by decide +kernel
theorem dL_law_1413 : decode cL_law 1413 = .ok (.iadd, 1) := by decide +kernel
theorem dL_law_1414 : decode cL_law 1414 = .ok (.iaload, 1) := by decide +kernel
theorem dL_law_1415 : decode cL_law 1415 = .ok (.i2l, 1) := by decide +kernel
theorem dL_law_1416 : decode cL_law 1416 = .ok (.bipush 32, 2) := by decide +kernel
theorem dL_law_1418 : decode cL_law 1418 = .ok (.lshl, 1) := by decide +kernel
theorem dL_law_1419 : decode cL_law 1419 = .ok (.aload_n 0, 1) := by decide +kernel
theorem dL_law_1420 : decode cL_law 1420 = .ok (.iload 4, 2) := by decide +kernel
theorem dL_law_1422 : decode cL_law 1422 = .ok (.iconst 3, 1) := by decide +kernel
theorem dL_law_1423 : decode cL_law 1423 = .ok (.iadd, 1) := by decide +kernel
theorem dL_law_1424 : decode cL_law 1424 = .ok (.iaload, 1) := by decide +kernel
theorem dL_law_1425 : decode cL_law 1425 = .ok (.i2l, 1) := by decide +kernel
theorem dL_law_1426 : decode cL_law 1426 = .ok (.ldc2_w 170, 3) := by decide +kernel
theorem dL_law_1429 : decode cL_law 1429 = .ok (.land, 1) := by decide +kernel
theorem dL_law_1430 : decode cL_law 1430 = .ok (.lor, 1) := by decide +kernel
theorem dL_law_1431 : decode cL_law 1431 = .ok (.invokevirtual 175, 3) := by decide +kernel
theorem dL_law_1434 : decode cL_law 1434 = .ok (.istore 6, 2) := by decide +kernel
theorem dL_law_1436 : decode cL_law 1436 = .ok (.aload_n 2, 1) := by decide +kernel
theorem dL_law_1437 : decode cL_law 1437 = .ok (.invokevirtual 99, 3) := by decide +kernel
theorem dL_law_1440 : decode cL_law 1440 = .ok (.iload 5, 2) := by decide +kernel
theorem dL_law_1442 : decode cL_law 1442 = .ok (.if_icmp .eq 5, 3) := by decide +kernel
theorem dL_law_1445 : decode cL_law 1445 = .ok (.iconst 0, 1) := by decide +kernel
theorem dL_law_1446 : decode cL_law 1446 = .ok (.ireturn, 1) := by decide +kernel
theorem dL_law_1447 : decode cL_law 1447 = .ok (.iload 5, 2) := by decide +kernel
theorem dL_law_1449 : decode cL_law 1449 = .ok (.ifCond .ne 15, 3) := by decide +kernel
theorem dL_law_1452 : decode cL_law 1452 = .ok (.aload_n 3, 1) := by decide +kernel
theorem dL_law_1453 : decode cL_law 1453 = .ok (.iconst 0, 1) := by decide +kernel
theorem dL_law_1454 : decode cL_law 1454 = .ok (.laload, 1) := by decide +kernel
theorem dL_law_1455 : decode cL_law 1455 = .ok (.iload 6, 2) := by decide +kernel
theorem dL_law_1457 : decode cL_law 1457 = .ok (.i2l, 1) := by decide +kernel
theorem dL_law_1458 : decode cL_law 1458 = .ok (.lcmp, 1) := by decide +kernel
theorem dL_law_1459 : decode cL_law 1459 = .ok (.ifCond .eq 5, 3) := by decide +kernel
theorem dL_law_1462 : decode cL_law 1462 = .ok (.iconst 0, 1) := by decide +kernel
theorem dL_law_1463 : decode cL_law 1463 = .ok (.ireturn, 1) := by decide +kernel
theorem dL_law_1464 : decode cL_law 1464 = .ok (.goto 215, 3) := by decide +kernel
theorem dL_law_1467 : decode cL_law 1467 = .ok (.aload_n 1, 1) := by decide +kernel
theorem dL_law_1468 : decode cL_law 1468 = .ok (.aload_n 0, 1) := by decide +kernel
theorem dL_law_1469 : decode cL_law 1469 = .ok (.iload 4, 2) := by decide +kernel
theorem dL_law_1471 : decode cL_law 1471 = .ok (.iconst 1, 1) := by decide +kernel
theorem dL_law_1472 : decode cL_law 1472 = .ok (.iadd, 1) := by decide +kernel
theorem dL_law_1473 : decode cL_law 1473 = .ok (.iaload, 1) := by decide +kernel
theorem dL_law_1474 : decode cL_law 1474 = .ok (.i2l, 1) := by decide +kernel
theorem dL_law_1475 : decode cL_law 1475 = .ok (.bipush 32, 2) := by decide +kernel
theorem dL_law_1477 : decode cL_law 1477 = .ok (.lshl, 1) := by decide +kernel
theorem dL_law_1478 : decode cL_law 1478 = .ok (.aload_n 0, 1) := by decide +kernel
theorem dL_law_1479 : decode cL_law 1479 = .ok (.iload 4, 2) := by decide +kernel
theorem dL_law_1481 : decode cL_law 1481 = .ok (.iconst 2, 1) := by decide +kernel
theorem dL_law_1482 : decode cL_law 1482 = .ok (.iadd, 1) := by decide +kernel
theorem dL_law_1483 : decode cL_law 1483 = .ok (.iaload, 1) := by decide +kernel
theorem dL_law_1484 : decode cL_law 1484 = .ok (.i2l, 1) := by decide +kernel
theorem dL_law_1485 : decode cL_law 1485 = .ok (.ldc2_w 170, 3) := by decide +kernel
theorem dL_law_1488 : decode cL_law 1488 = .ok (.land, 1) := by decide +kernel
theorem dL_law_1489 : decode cL_law 1489 = .ok (.lor, 1) := by decide +kernel
theorem dL_law_1490 : decode cL_law 1490 = .ok (.aload_n 0, 1) := by decide +kernel
theorem dL_law_1491 : decode cL_law 1491 = .ok (.iload 4, 2) := by decide +kernel
theorem dL_law_1493 : decode cL_law 1493 = .ok (.iconst 3, 1) := by decide +kernel
theorem dL_law_1494 : decode cL_law 1494 = .ok (.iadd, 1) := by decide +kernel
theorem dL_law_1495 : decode cL_law 1495 = .ok (.iaload, 1) := by decide +kernel
theorem dL_law_1496 : decode cL_law 1496 = .ok (.aload_n 3, 1) := by decide +kernel
theorem dL_law_1497 : decode cL_law 1497 = .ok (.invokestatic 176, 3) := by decide +kernel
theorem dL_law_1500 : decode cL_law 1500 = .ok (.istore 5, 2) := by decide +kernel
theorem dL_law_1502 : decode cL_law 1502 = .ok (.aload_n 2, 1) := by decide +kernel
theorem dL_law_1503 : decode cL_law 1503 = .ok (.aload_n 0, 1) := by decide +kernel
theorem dL_law_1504 : decode cL_law 1504 = .ok (.iload 4, 2) := by decide +kernel
theorem dL_law_1506 : decode cL_law 1506 = .ok (.iconst 1, 1) := by decide +kernel
theorem dL_law_1507 : decode cL_law 1507 = .ok (.iadd, 1) := by decide +kernel
theorem dL_law_1508 : decode cL_law 1508 = .ok (.iaload, 1) := by decide +kernel
theorem dL_law_1509 : decode cL_law 1509 = .ok (.i2l, 1) := by decide +kernel
theorem dL_law_1510 : decode cL_law 1510 = .ok (.bipush 32, 2) := by decide +kernel
theorem dL_law_1512 : decode cL_law 1512 = .ok (.lshl, 1) := by decide +kernel
theorem dL_law_1513 : decode cL_law 1513 = .ok (.aload_n 0, 1) := by decide +kernel
theorem dL_law_1514 : decode cL_law 1514 = .ok (.iload 4, 2) := by decide +kernel
theorem dL_law_1516 : decode cL_law 1516 = .ok (.iconst 2, 1) := by decide +kernel
theorem dL_law_1517 : decode cL_law 1517 = .ok (.iadd, 1) := by decide +kernel
theorem dL_law_1518 : decode cL_law 1518 = .ok (.iaload, 1) := by decide +kernel
theorem dL_law_1519 : decode cL_law 1519 = .ok (.i2l, 1) := by decide +kernel
theorem dL_law_1520 : decode cL_law 1520 = .ok (.ldc2_w 170, 3) := by decide +kernel
theorem dL_law_1523 : decode cL_law 1523 = .ok (.land, 1) := by decide +kernel
theorem dL_law_1524 : decode cL_law 1524 = .ok (.lor, 1) := by decide +kernel
theorem dL_law_1525 : decode cL_law 1525 = .ok (.aload_n 0, 1) := by decide +kernel
theorem dL_law_1526 : decode cL_law 1526 = .ok (.iload 4, 2) := by decide +kernel
theorem dL_law_1528 : decode cL_law 1528 = .ok (.iconst 3, 1) := by decide +kernel
theorem dL_law_1529 : decode cL_law 1529 = .ok (.iadd, 1) := by decide +kernel
theorem dL_law_1530 : decode cL_law 1530 = .ok (.iaload, 1) := by decide +kernel
theorem dL_law_1531 : decode cL_law 1531 = .ok (.invokevirtual 179, 3) := by decide +kernel
theorem dL_law_1534 : decode cL_law 1534 = .ok (.istore 6, 2) := by decide +kernel
theorem dL_law_1536 : decode cL_law 1536 = .ok (.aload_n 2, 1) := by decide +kernel
theorem dL_law_1537 : decode cL_law 1537 = .ok (.invokevirtual 99, 3) := by decide +kernel
theorem dL_law_1540 : decode cL_law 1540 = .ok (.iload 5, 2) := by decide +kernel
theorem dL_law_1542 : decode cL_law 1542 = .ok (.if_icmp .eq 5, 3) := by decide +kernel
theorem dL_law_1545 : decode cL_law 1545 = .ok (.iconst 0, 1) := by decide +kernel
theorem dL_law_1546 : decode cL_law 1546 = .ok (.ireturn, 1) := by decide +kernel
theorem dL_law_1547 : decode cL_law 1547 = .ok (.iload 5, 2) := by decide +kernel
theorem dL_law_1549 : decode cL_law 1549 = .ok (.ifCond .ne 15, 3) := by decide +kernel
theorem dL_law_1552 : decode cL_law 1552 = .ok (.aload_n 3, 1) := by decide +kernel
theorem dL_law_1553 : decode cL_law 1553 = .ok (.iconst 0, 1) := by decide +kernel
theorem dL_law_1554 : decode cL_law 1554 = .ok (.laload, 1) := by decide +kernel
theorem dL_law_1555 : decode cL_law 1555 = .ok (.iload 6, 2) := by decide +kernel
theorem dL_law_1557 : decode cL_law 1557 = .ok (.i2l, 1) := by decide +kernel
theorem dL_law_1558 : decode cL_law 1558 = .ok (.lcmp, 1) := by decide +kernel
theorem dL_law_1559 : decode cL_law 1559 = .ok (.ifCond .eq 5, 3) := by decide +kernel
theorem dL_law_1562 : decode cL_law 1562 = .ok (.iconst 0, 1) := by decide +kernel
theorem dL_law_1563 : decode cL_law 1563 = .ok (.ireturn, 1) := by decide +kernel
theorem dL_law_1564 : decode cL_law 1564 = .ok (.goto 115, 3) := by decide +kernel
theorem dL_law_1567 : decode cL_law 1567 = .ok (.aload_n 1, 1) := by decide +kernel
theorem dL_law_1568 : decode cL_law 1568 = .ok (.aload_n 0, 1) := by decide +kernel
theorem dL_law_1569 : decode cL_law 1569 = .ok (.iload 4, 2) := by decide +kernel
theorem dL_law_1571 : decode cL_law 1571 = .ok (.iconst 1, 1) := by decide +kernel
theorem dL_law_1572 : decode cL_law 1572 = .ok (.iadd, 1) := by decide +kernel
theorem dL_law_1573 : decode cL_law 1573 = .ok (.iaload, 1) := by decide +kernel
theorem dL_law_1574 : decode cL_law 1574 = .ok (.aload_n 3, 1) := by decide +kernel
theorem dL_law_1575 : decode cL_law 1575 = .ok (.invokestatic 180, 3) := by decide +kernel
theorem dL_law_1578 : decode cL_law 1578 = .ok (.istore 5, 2) := by decide +kernel
theorem dL_law_1580 : decode cL_law 1580 = .ok (.aload_n 2, 1) := by decide +kernel
theorem dL_law_1581 : decode cL_law 1581 = .ok (.aload_n 0, 1) := by decide +kernel
theorem dL_law_1582 : decode cL_law 1582 = .ok (.iload 4, 2) := by decide +kernel
theorem dL_law_1584 : decode cL_law 1584 = .ok (.iconst 1, 1) := by decide +kernel
theorem dL_law_1585 : decode cL_law 1585 = .ok (.iadd, 1) := by decide +kernel
theorem dL_law_1586 : decode cL_law 1586 = .ok (.iaload, 1) := by decide +kernel
theorem dL_law_1587 : decode cL_law 1587 = .ok (.invokevirtual 182, 3) := by decide +kernel
theorem dL_law_1590 : decode cL_law 1590 = .ok (.istore 6, 2) := by decide +kernel
theorem dL_law_1592 : decode cL_law 1592 = .ok (.aload_n 2, 1) := by decide +kernel
theorem dL_law_1593 : decode cL_law 1593 = .ok (.invokevirtual 99, 3) := by decide +kernel
theorem dL_law_1596 : decode cL_law 1596 = .ok (.iload 5, 2) := by decide +kernel
theorem dL_law_1598 : decode cL_law 1598 = .ok (.if_icmp .eq 5, 3) := by decide +kernel
theorem dL_law_1601 : decode cL_law 1601 = .ok (.iconst 0, 1) := by decide +kernel
theorem dL_law_1602 : decode cL_law 1602 = .ok (.ireturn, 1) := by decide +kernel
theorem dL_law_1603 : decode cL_law 1603 = .ok (.iload 5, 2) := by decide +kernel
theorem dL_law_1605 : decode cL_law 1605 = .ok (.ifCond .ne 15, 3) := by decide +kernel
theorem dL_law_1608 : decode cL_law 1608 = .ok (.aload_n 3, 1) := by decide +kernel
theorem dL_law_1609 : decode cL_law 1609 = .ok (.iconst 0, 1) := by decide +kernel
theorem dL_law_1610 : decode cL_law 1610 = .ok (.laload, 1) := by decide +kernel
theorem dL_law_1611 : decode cL_law 1611 = .ok (.iload 6, 2) := by decide +kernel
theorem dL_law_1613 : decode cL_law 1613 = .ok (.i2l, 1) := by decide +kernel
theorem dL_law_1614 : decode cL_law 1614 = .ok (.lcmp, 1) := by decide +kernel
theorem dL_law_1615 : decode cL_law 1615 = .ok (.ifCond .eq 5, 3) := by decide +kernel
theorem dL_law_1618 : decode cL_law 1618 = .ok (.iconst 0, 1) := by decide +kernel
theorem dL_law_1619 : decode cL_law 1619 = .ok (.ireturn, 1) := by decide +kernel
theorem dL_law_1620 : decode cL_law 1620 = .ok (.goto 59, 3) := by decide +kernel
theorem dL_law_1623 : decode cL_law 1623 = .ok (.aload_n 1, 1) := by decide +kernel
theorem dL_law_1624 : decode cL_law 1624 = .ok (.aload_n 0, 1) := by decide +kernel
theorem dL_law_1625 : decode cL_law 1625 = .ok (.iload 4, 2) := by decide +kernel
theorem dL_law_1627 : decode cL_law 1627 = .ok (.iconst 1, 1) := by decide +kernel
theorem dL_law_1628 : decode cL_law 1628 = .ok (.iadd, 1) := by decide +kernel
theorem dL_law_1629 : decode cL_law 1629 = .ok (.iaload, 1) := by decide +kernel
theorem dL_law_1630 : decode cL_law 1630 = .ok (.aload_n 3, 1) := by decide +kernel
theorem dL_law_1631 : decode cL_law 1631 = .ok (.invokestatic 183, 3) := by decide +kernel
theorem dL_law_1634 : decode cL_law 1634 = .ok (.istore 5, 2) := by decide +kernel
theorem dL_law_1636 : decode cL_law 1636 = .ok (.aload_n 2, 1) := by decide +kernel
theorem dL_law_1637 : decode cL_law 1637 = .ok (.aload_n 0, 1) := by decide +kernel
theorem dL_law_1638 : decode cL_law 1638 = .ok (.iload 4, 2) := by decide +kernel
theorem dL_law_1640 : decode cL_law 1640 = .ok (.iconst 1, 1) := by decide +kernel
theorem dL_law_1641 : decode cL_law 1641 = .ok (.iadd, 1) := by decide +kernel
theorem dL_law_1642 : decode cL_law 1642 = .ok (.iaload, 1) := by decide +kernel
theorem dL_law_1643 : decode cL_law 1643 = .ok (.invokevirtual 185, 3) := by decide +kernel
theorem dL_law_1646 : decode cL_law 1646 = .ok (.istore 6, 2) := by decide +kernel
theorem dL_law_1648 : decode cL_law 1648 = .ok (.aload_n 2, 1) := by decide +kernel
theorem dL_law_1649 : decode cL_law 1649 = .ok (.invokevirtual 99, 3) := by decide +kernel
theorem dL_law_1652 : decode cL_law 1652 = .ok (.iload 5, 2) := by decide +kernel
theorem dL_law_1654 : decode cL_law 1654 = .ok (.if_icmp .eq 5, 3) := by decide +kernel
theorem dL_law_1657 : decode cL_law 1657 = .ok (.iconst 0, 1) := by decide +kernel
theorem dL_law_1658 : decode cL_law 1658 = .ok (.ireturn, 1) := by decide +kernel
theorem dL_law_1659 : decode cL_law 1659 = .ok (.iload 5, 2) := by decide +kernel
theorem dL_law_1661 : decode cL_law 1661 = .ok (.ifCond .ne 15, 3) := by decide +kernel
theorem dL_law_1664 : decode cL_law 1664 = .ok (.aload_n 3, 1) := by decide +kernel
theorem dL_law_1665 : decode cL_law 1665 = .ok (.iconst 0, 1) := by decide +kernel
theorem dL_law_1666 : decode cL_law 1666 = .ok (.laload, 1) := by decide +kernel
theorem dL_law_1667 : decode cL_law 1667 = .ok (.iload 6, 2) := by decide +kernel
theorem dL_law_1669 : decode cL_law 1669 = .ok (.i2l, 1) := by decide +kernel
theorem dL_law_1670 : decode cL_law 1670 = .ok (.lcmp, 1) := by decide +kernel
theorem dL_law_1671 : decode cL_law 1671 = .ok (.ifCond .eq 5, 3) := by decide +kernel
theorem dL_law_1674 : decode cL_law 1674 = .ok (.iconst 0, 1) := by decide +kernel
theorem dL_law_1675 : decode cL_law 1675 = .ok (.ireturn, 1) := by decide +kernel
theorem dL_law_1676 : decode cL_law 1676 = .ok (.goto 3, 3) := by decide +kernel
theorem dL_law_1679 : decode cL_law 1679 = .ok (.iinc 4 4, 3) := by decide +kernel
theorem dL_law_1682 : decode cL_law 1682 = .ok (.goto (-1659), 3) := by decide +kernel
theorem dL_law_1685 : decode cL_law 1685 = .ok (.iconst 1, 1) := by decide +kernel
theorem dL_law_1686 : decode cL_law 1686 = .ok (.ireturn, 1) := by decide +kernel
end
section
/-! ===== whole numbers as Int, machine ints as iI of them ===== -/
abbrev Rg (x : Int) : Prop := -2147483648 ≤ x ∧ x < 2147483648
abbrev RgL (x : Int) : Prop := -9223372036854775808 ≤ x ∧ x < 9223372036854775808
def iI (x : Int) : Int32 := Int32.ofInt x
def iL (x : Int) : Int64 := Int64.ofInt x
theorem bm32 {z : Int} (h : Rg z) : z.bmod (2 ^ 32) = z := by
  rw [Int.bmod_def]
  obtain ⟨h1, h2⟩ := h
  split <;> omega
theorem bm64 {z : Int} (h : RgL z) : z.bmod (2 ^ 64) = z := by
  rw [Int.bmod_def]
  obtain ⟨h1, h2⟩ := h
  split <;> omega
theorem iI_toInt {x : Int} (h : Rg x) : (iI x).toInt = x := by
  unfold iI
  rw [Int32.toInt_ofInt]
  exact bm32 h
theorem iL_toInt {x : Int} (h : RgL x) : (iL x).toInt = x := by
  unfold iL
  rw [Int64.toInt_ofInt]
  exact bm64 h
theorem iI_of (x : Int32) : iI x.toInt = x := Int32.ofInt_toInt x
theorem iL_of (x : Int64) : iL x.toInt = x := Int64.ofInt_toInt x
theorem rg_of (x : Int32) : Rg x.toInt := ⟨by have := Int32.le_toInt x; omega, by have := Int32.toInt_lt x; omega⟩
theorem rg_ofL (x : Int64) : RgL x.toInt := ⟨by have := Int64.le_toInt x; omega, by have := Int64.toInt_lt x; omega⟩
theorem iI_add (a b : Int) : iI a + iI b = iI (a + b) := (Int32.ofInt_add a b).symm
theorem iI_sub (a b : Int) : iI a - iI b = iI (a - b) := (Int32.ofInt_sub a b).symm
theorem iI_mul (a b : Int) : iI a * iI b = iI (a * b) := (Int32.ofInt_mul a b).symm
theorem iI_neg (a : Int) : -iI a = iI (-a) := (Int32.ofInt_neg a).symm
theorem iL_add (a b : Int) : iL a + iL b = iL (a + b) := (Int64.ofInt_add a b).symm
theorem iL_sub (a b : Int) : iL a - iL b = iL (a - b) := (Int64.ofInt_sub a b).symm
theorem iL_mul (a b : Int) : iL a * iL b = iL (a * b) := (Int64.ofInt_mul a b).symm
theorem iI_lt {a b : Int} (ha : Rg a) (hb : Rg b) : iI a < iI b ↔ a < b := by rw [Int32.lt_iff_toInt_lt, iI_toInt ha, iI_toInt hb]
theorem iI_le {a b : Int} (ha : Rg a) (hb : Rg b) : iI a ≤ iI b ↔ a ≤ b := by rw [Int32.le_iff_toInt_le, iI_toInt ha, iI_toInt hb]
theorem iI_eq {a b : Int} (ha : Rg a) (hb : Rg b) : iI a = iI b ↔ a = b := ⟨fun h => by rw [← iI_toInt ha, ← iI_toInt hb, h], fun h => by rw [h]⟩
theorem iL_lt {a b : Int} (ha : RgL a) (hb : RgL b) : iL a < iL b ↔ a < b := by rw [Int64.lt_iff_toInt_lt, iL_toInt ha, iL_toInt hb]
theorem iL_le {a b : Int} (ha : RgL a) (hb : RgL b) : iL a ≤ iL b ↔ a ≤ b := by rw [Int64.le_iff_toInt_le, iL_toInt ha, iL_toInt hb]
theorem iL_eq {a b : Int} (ha : RgL a) (hb : RgL b) : iL a = iL b ↔ a = b := ⟨fun h => by rw [← iL_toInt ha, ← iL_toInt hb, h], fun h => by rw [h]⟩
theorem iI_l {a : Int} (h : Rg a) : (iI a).toInt64 = iL a := by
  apply Int64.toInt.inj
  rw [Int32.toInt_toInt64, iI_toInt h, iL_toInt (by obtain ⟨h1, h2⟩ := h; omega)]
theorem iL_i {a : Int} (h : Rg a) : (iL a).toInt32 = iI a := by
  apply Int32.toInt.inj
  rw [Int64.toInt_toInt32, iI_toInt h, iL_toInt (by obtain ⟨h1, h2⟩ := h; omega)]
  exact bm32 h
theorem rg0 : Rg 0 := by decide
theorem z_iI : (0 : Int32) = iI 0 := by decide
theorem z_iL : (0 : Int64) = iL 0 := by decide
theorem iI_nat {k : Nat} (h : k < 2147483648) : (iI (k : Int)).toNatClampNeg = k := by
  show (iI (k : Int)).toInt.toNat = k
  rw [iI_toInt (by omega)]
  exact Int.toNat_natCast k
theorem iI_in {k n : Nat} (h : k < n) (hn : n < 2147483648) : vp_in (iI (k : Int)) n := by
  rintro (h1 | h1)
  · rw [z_iI, iI_lt (by omega) (by omega)] at h1
    omega
  · rw [iI_nat (by omega)] at h1
    omega
theorem iI_nI (n : Nat) : iI (n : Int) = nI n := rfl
theorem iI_div {a b : Int} (ha : 0 ≤ a ∧ a < 2147483648) (hb : 0 < b ∧ b < 2147483648) : iI a / iI b = iI (a / b) := by
  obtain ⟨x, rfl⟩ := Int.eq_ofNat_of_zero_le ha.1
  obtain ⟨y, rfl⟩ := Int.eq_ofNat_of_zero_le (Int.le_of_lt hb.1)
  show nI x / nI y = iI _
  rw [pk_div (by omega) (by omega) (by omega)]
  rfl
theorem iI_rem {a b : Int} (ha : 0 ≤ a ∧ a < 2147483648) (hb : 0 < b ∧ b < 2147483648) : iI a - iI a / iI b * iI b = iI (a % b) := by
  obtain ⟨x, rfl⟩ := Int.eq_ofNat_of_zero_le ha.1
  obtain ⟨y, rfl⟩ := Int.eq_ofNat_of_zero_le (Int.le_of_lt hb.1)
  show nI x - nI x / nI y * nI y = iI _
  rw [pk_rem (by omega) (by omega) (by omega)]
  rfl
theorem iL_lN (n : Nat) : iL (n : Int) = lN n := rfl
theorem iL_div {a b : Int} (ha : 0 ≤ a ∧ a < 9223372036854775808) (hb : 0 < b ∧ b < 9223372036854775808) : iL a / iL b = iL (a / b) := by
  obtain ⟨x, rfl⟩ := Int.eq_ofNat_of_zero_le ha.1
  obtain ⟨y, rfl⟩ := Int.eq_ofNat_of_zero_le (Int.le_of_lt hb.1)
  show lN x / lN y = iL _
  rw [pk_lDiv (by omega) (by omega) (by omega)]
  rfl
theorem iL_rem {a b : Int} (ha : 0 ≤ a ∧ a < 9223372036854775808) (hb : 0 < b ∧ b < 9223372036854775808) : iL a - iL a / iL b * iL b = iL (a % b) := by
  obtain ⟨x, rfl⟩ := Int.eq_ofNat_of_zero_le ha.1
  obtain ⟨y, rfl⟩ := Int.eq_ofNat_of_zero_le (Int.le_of_lt hb.1)
  show lN x - lN x / lN y * lN y = iL _
  rw [pk_lRem (by omega) (by omega) (by omega)]
  rfl
def pI (P : Prop) [Decidable P] : Int := if P then 1 else 0
theorem pI_t {P : Prop} [Decidable P] (h : P) : pI P = 1 := if_pos h
theorem pI_f {P : Prop} [Decidable P] (h : ¬ P) : pI P = 0 := if_neg h
theorem pI_rg (P : Prop) [Decidable P] : 0 ≤ pI P ∧ pI P ≤ 1 := by unfold pI; split <;> omega
theorem pI_0 {P : Prop} [Decidable P] : pI P = 0 ↔ ¬ P := by unfold pI; split <;> simp [*]
theorem pI_c {P Q : Prop} [Decidable P] [Decidable Q] (h : P ↔ Q) : pI P = pI Q := by unfold pI; simp [h]
def up (F : Nat → Int) (k : Nat) (x : Int) : Nat → Int := fun j => if j = k then x else F j
theorem up_s (F : Nat → Int) (k : Nat) (x : Int) : up F k x k = x := if_pos rfl
theorem up_n (F : Nat → Int) {k j : Nat} (x : Int) (h : j ≠ k) : up F k x j = F j := if_neg h
theorem up_e (F : Nat → Int) {k j : Nat} (x : Int) (h : j = k) : up F k x j = x := if_pos h
/-! ===== the world: cells by their addresses ===== -/
/-- classes and slots; the arrays' classes: int, char, boolean, Device[], int[][], long -/
abbrev Gt : Type := va_G × ClassId × ClassId × ClassId × ClassId × ClassId × ClassId
def TYS (g : Gt) : List (ClassId × FieldType) := [(g.2.1, .int), (g.2.2.1, .char), (g.2.2.2.1, .boolean), (g.2.2.2.2.1, .object "LentRoom$Device"), (g.2.2.2.2.2.1, .array .int), (g.2.2.2.2.2.2, .long)]
def KK (g : Gt) (U : State) : Prop := va_K g.1 vwCl (TYS g) U
def oAt (g : Gt) (a ci : Nat) (fs : List Value) (H : Heap) : Prop := va_at g.1 vwCl (a, .inr (ci, fs)) H
def aAt (g : Gt) (a n : Nat) (f : Nat → Int) (H : Heap) : Prop := H[a]? = some (vp_cell g.2.1 (n, .inl (fun k => iI (f k))))
def cAt (g : Gt) (a n : Nat) (f : Nat → Int) (H : Heap) : Prop := H[a]? = some (vp_cell g.2.2.1 (n, .inl (fun k => iI (f k))))
def zAt (g : Gt) (a n : Nat) (f : Nat → Int) (H : Heap) : Prop := H[a]? = some (vp_cell g.2.2.2.1 (n, .inl (fun k => iI (f k))))
def qAt (g : Gt) (a n : Nat) (f : Nat → Option Nat) (H : Heap) : Prop := H[a]? = some (vp_cell g.2.2.2.2.1 (n, .inr (.inr (.inr (.inr f)))))
def rAt (g : Gt) (a n : Nat) (f : Nat → Option Nat) (H : Heap) : Prop := H[a]? = some (vp_cell g.2.2.2.2.2.1 (n, .inr (.inr (.inr (.inr f)))))
def lAt (g : Gt) (a n : Nat) (f : Nat → Int64) (H : Heap) : Prop := H[a]? = some (vp_cell g.2.2.2.2.2.2 (n, .inr (.inl f)))
theorem oAt.kept {g : Gt} {a ci : Nat} {fs : List Value} {H H1 : Heap} (h : oAt g a ci fs H) (hq : H1[a]? = H[a]?) : oAt g a ci fs H1 := va_at.kept h hq
theorem aAt.kept {g : Gt} {a n : Nat} {f : Nat → Int} {H H1 : Heap} (h : aAt g a n f H) (hq : H1[a]? = H[a]?) : aAt g a n f H1 := hq.trans h
theorem cAt.kept {g : Gt} {a n : Nat} {f : Nat → Int} {H H1 : Heap} (h : cAt g a n f H) (hq : H1[a]? = H[a]?) : cAt g a n f H1 := hq.trans h
theorem zAt.kept {g : Gt} {a n : Nat} {f : Nat → Int} {H H1 : Heap} (h : zAt g a n f H) (hq : H1[a]? = H[a]?) : zAt g a n f H1 := hq.trans h
theorem qAt.kept {g : Gt} {a n : Nat} {f : Nat → Option Nat} {H H1 : Heap} (h : qAt g a n f H) (hq : H1[a]? = H[a]?) : qAt g a n f H1 := hq.trans h
theorem rAt.kept {g : Gt} {a n : Nat} {f : Nat → Option Nat} {H H1 : Heap} (h : rAt g a n f H) (hq : H1[a]? = H[a]?) : rAt g a n f H1 := hq.trans h
theorem lAt.kept {g : Gt} {a n : Nat} {f : Nat → Int64} {H H1 : Heap} (h : lAt g a n f H) (hq : H1[a]? = H[a]?) : lAt g a n f H1 := hq.trans h
theorem arrV_cg {c : ClassId} {n : Nat} {f f' : Nat → Value} (h : ∀ k, k < n → f k = f' k) : arrV c n f = arrV c n f' := by
  unfold arrV
  congr 1
  apply Array.ext
  · simp
  · intro i h1 h2
    simp only [Array.size_ofFn] at h1
    simp [h i h1]
theorem aAt.cg {g : Gt} {a n : Nat} {f f' : Nat → Int} {H : Heap} (h : aAt g a n f H) (hf : ∀ k, k < n → f k = f' k) : aAt g a n f' H := by
  unfold aAt at *
  rw [h, vp_cell_i, vp_cell_i, arrV_cg (fun k hk => by rw [hf k hk])]
theorem zAt.cg {g : Gt} {a n : Nat} {f f' : Nat → Int} {H : Heap} (h : zAt g a n f H) (hf : ∀ k, k < n → f k = f' k) : zAt g a n f' H := by
  unfold zAt at *
  rw [h, vp_cell_i, vp_cell_i, arrV_cg (fun k hk => by rw [hf k hk])]
theorem cAt.cg {g : Gt} {a n : Nat} {f f' : Nat → Int} {H : Heap} (h : cAt g a n f H) (hf : ∀ k, k < n → f k = f' k) : cAt g a n f' H := by
  unfold cAt at *
  rw [h, vp_cell_i, vp_cell_i, arrV_cg (fun k hk => by rw [hf k hk])]
theorem qAt.cg {g : Gt} {a n : Nat} {f f' : Nat → Option Nat} {H : Heap} (h : qAt g a n f H) (hf : ∀ k, k < n → f k = f' k) : qAt g a n f' H := by
  unfold qAt at *
  rw [h, vp_cell_q, vp_cell_q, arrV_cg (fun k hk => by rw [hf k hk])]
theorem aAt.lt {g : Gt} {a n : Nat} {f : Nat → Int} {H : Heap} (h : aAt g a n f H) : a < H.size := (Array.getElem?_eq_some_iff.mp h).1
theorem oAt.lt {g : Gt} {a ci : Nat} {fs : List Value} {H : Heap} (h : oAt g a ci fs H) : a < H.size := va_at.lt h
/-! ===== what a method changed ===== -/
def Fr (A : Nat → Prop) (H0 H : Heap) (locs : List Loc) : Prop := H.size = H0.size ∧ (∀ q : Nat, ¬ A q → H[q]? = H0[q]?) ∧ ∀ x ∈ locs, A x.base
theorem Fr.rf {A : Nat → Prop} {H0 : Heap} : Fr A H0 H0 [] := ⟨rfl, fun _ _ => rfl, fun _ h => by cases h⟩
theorem Fr.put {A : Nat → Prop} {H0 H H1 : Heap} {locs : List Loc} {a k : Nat} (h : Fr A H0 H locs) (z : H1.size = H.size) (oq : ∀ q : Nat, q ≠ a → H1[q]? = H[q]?) (ha : A a) : Fr A H0 H1 (locs ++ [⟨a, k⟩]) := by
  refine ⟨z.trans h.1, fun q hq => (oq q (fun e => hq (e ▸ ha))).trans (h.2.1 q hq), fun x hx => ?_⟩
  rcases List.mem_append.mp hx with h1 | h1
  · exact h.2.2 x h1
  · rw [List.mem_singleton.mp h1]
    exact ha
theorem Fr.call {A A' : Nat → Prop} {H0 H H1 : Heap} {locs L : List Loc} (h : Fr A H0 H locs) (hA : ∀ q, A' q → A q) (z : H1.size = H.size) (oq : ∀ q : Nat, ¬ A' q → H1[q]? = H[q]?) (hL : ∀ x ∈ L, A' x.base) : Fr A H0 H1 (locs ++ L) := by
  refine ⟨z.trans h.1, fun q hq => (oq q (fun e => hq (hA q e))).trans (h.2.1 q hq), fun x hx => ?_⟩
  rcases List.mem_append.mp hx with h1 | h1
  · exact h.2.2 x h1
  · exact hA _ (hL x h1)
/-! ===== contracts ===== -/
def Pcc (As : List Value) (P : Heap → Prop) (g : Gt) : Array Value → State → Prop := va_Pc As (fun U => P U.heap ∧ KK g U)
def PQ (v : Option Value) : Array Value → State → Outcome → State → Prop := fun _ st o t => o = .returned v ∧ t.heap = st.heap
def HQ (v : Option Value) (A : Nat → Prop) (P' : Heap → Prop) : Array Value → State → Outcome → State → Prop := fun _ st o t => o = .returned v ∧ P' t.heap ∧ t.heap.size = st.heap.size ∧ ∀ q : Nat, ¬ A q → t.heap[q]? = st.heap[q]?
abbrev rmc (f lo : Nat) : Room := { frames := f, cells := 0, slots := 0, locals := lo }
/-- returns v, changes nothing -/
def CP (l : Launch) (y : MethodName) (cc : ByteArray) (maxL : Nat) (ret : Option FieldType) (f lo : Nat) (g : Gt) (As : List Value) (P : Heap → Prop) (v : Option Value) : Prop :=
  Met l y (.code y cc maxL ret :: AL) (rmc f lo) (Pcc As P g) (PQ v) 0 0 (fun _ => False)
/-- returns v, changes cells of A alone, makes none; then P' -/
def CH (l : Launch) (y : MethodName) (cc : ByteArray) (maxL : Nat) (ret : Option FieldType) (f lo : Nat) (g : Gt) (As : List Value) (P : Heap → Prop) (v : Option Value) (A : Nat → Prop) (P' : Heap → Prop) : Prop :=
  Met l y (.code y cc maxL ret :: AL) (rmc f lo) (Pcc As P g) (HQ v A P') 0 0 A
def Cx (p : Program) (s : State) (m : MethodId) (args : Array Value) (meth : Method) (c : Code) (cc : ByteArray) (nL : Nat) (own : String) (ret : Option FieldType) (x : Cond) (g : Gt) : Prop :=
  p.tables.exec = Jvm.exec ∧ c.code = cc ∧ c.maxLocals = nL ∧ s.vm.findClass own = some m.cls ∧ (∀ w ∈ x :: AL, w.before args s = true) ∧ meth.sig.returnType = ret ∧ meth.locks = false ∧ KK g s
theorem cp_of {l : Launch} {y : MethodName} {cc : ByteArray} {maxL : Nat} {ret : Option FieldType} {f lo : Nat} {g : Gt} {As : List Value} {P : Heap → Prop} {v : Option Value} (own : String) (hy : plainName y.cls = true) (hown : y.cls = own) (hn : (lg_sl As).length ≤ maxL)
    (body : ∀ (p : Program) (e : Env) (s : State) (m : MethodId) (args : Array Value) (below : List Frame) (meth : Method) (c : Code) (ls : Array Slot), Cx p s m args meth c cc maxL own ret (.code y cc maxL ret) g → P s.heap → lv_has ls maxL (lv_args 0 As) → W p l e (rmc f lo) s m args below meth c s.heap [] 0 0 (MQ below (PQ v) args s 0 0 (fun _ => False)) (F0 m 0 ls [])) : CP l y cc maxL ret f lo g As P v := by
  refine Met.ofW (cc := cc) (maxL := maxL) (ret := ret) hy rfl ?_
  intro p e s m args below meth c s₁ B hml hv
  obtain ⟨rfl, hP, hK⟩ := hv
  rw [lg_entry_eq]
  exact body p e s m _ below meth c _ ⟨B.exec, B.bytes, hml, hown ▸ findClass_of_methodNamed B.named, atoms_spec (ws := .code y cc maxL ret :: AL) B.pre, B.returns, B.notSynchronized, hK⟩ hP (lv_entry As hn)
theorem ch_of {l : Launch} {y : MethodName} {cc : ByteArray} {maxL : Nat} {ret : Option FieldType} {f lo : Nat} {g : Gt} {As : List Value} {P : Heap → Prop} {v : Option Value} {A : Nat → Prop} {P' : Heap → Prop} (own : String) (hy : plainName y.cls = true) (hown : y.cls = own) (hn : (lg_sl As).length ≤ maxL)
    (body : ∀ (p : Program) (e : Env) (s : State) (m : MethodId) (args : Array Value) (below : List Frame) (meth : Method) (c : Code) (ls : Array Slot), Cx p s m args meth c cc maxL own ret (.code y cc maxL ret) g → P s.heap → Fr A s.heap s.heap [] → lv_has ls maxL (lv_args 0 As) → W p l e (rmc f lo) s m args below meth c s.heap [] 0 0 (MQ below (HQ v A P') args s 0 0 A) (F0 m 0 ls [])) : CH l y cc maxL ret f lo g As P v A P' := by
  refine Met.ofW (cc := cc) (maxL := maxL) (ret := ret) hy rfl ?_
  intro p e s m args below meth c s₁ B hml hv
  obtain ⟨rfl, hP, hK⟩ := hv
  rw [lg_entry_eq]
  exact body p e s m _ below meth c _ ⟨B.exec, B.bytes, hml, hown ▸ findClass_of_methodNamed B.named, atoms_spec (ws := .code y cc maxL ret :: AL) B.pre, B.returns, B.notSynchronized, hK⟩ hP Fr.rf (lv_entry As hn)
end
section
section ROWS
variable {p : Program} {l : Launch} {e : Env} {R : Room} {s : State} {m : MethodId} {args : Array Value} {below : List Frame} {meth : Method} {c : Code} {H : Heap} {locs : List Loc} {cells slots : Nat} {Q : State → Prop}
variable {cc : ByteArray} {nL : Nat} {own : String} {ret : Option FieldType} {x : Cond} {g : Gt} {pc : Nat} {ls : Array Slot} {rest : List Value}
theorem r_iconst (C : Cx p s m args meth c cc nL own ret x g) {n : Int} (d : decode cc pc = .ok (.iconst n, 1)) (k : W p l e R s m args below meth c H locs cells slots Q (F0 m (pc + 1) ls (.int (iI n) :: rest))) : W p l e R s m args below meth c H locs cells slots Q (F0 m pc ls rest) :=
  lv_iconst C.1 C.2.1 d rfl k
theorem r_bipush (C : Cx p s m args meth c cc nL own ret x g) {n : Int} (h : (Int8.ofInt n).toInt32 = iI n) (d : decode cc pc = .ok (.bipush n, 2)) (k : W p l e R s m args below meth c H locs cells slots Q (F0 m (pc + 2) ls (.int (iI n) :: rest))) : W p l e R s m args below meth c H locs cells slots Q (F0 m pc ls rest) :=
  lv_bipush C.1 C.2.1 d h k
theorem r_sipush (C : Cx p s m args meth c cc nL own ret x g) {n : Int} (h : (Int16.ofInt n).toInt32 = iI n) (d : decode cc pc = .ok (.sipush n, 3)) (k : W p l e R s m args below meth c H locs cells slots Q (F0 m (pc + 3) ls (.int (iI n) :: rest))) : W p l e R s m args below meth c H locs cells slots Q (F0 m pc ls rest) :=
  lv_sipush C.1 C.2.1 d h k
theorem r_lconst (C : Cx p s m args meth c cc nL own ret x g) {j : Fin 2} (n : Int) (h : n = (j.val : Int)) (d : decode cc pc = .ok (.lconst j, 1)) (k : W p l e R s m args below meth c H locs cells slots Q (F0 m (pc + 1) ls (.long (iL n) :: rest))) : W p l e R s m args below meth c H locs cells slots Q (F0 m pc ls rest) :=
  by subst h; exact lv_lconst C.1 C.2.1 d rfl k
theorem r_iload_n (C : Cx p s m args meth c cc nL own ret x g) {j : Fin 4} {i : Nat} {v : Int32} (hi : (j : Nat) = i) (hl : ls[i]? = some (.val (.int v))) (d : decode cc pc = .ok (.iload_n j, 1)) (k : W p l e R s m args below meth c H locs cells slots Q (F0 m (pc + 1) ls (.int v :: rest))) : W p l e R s m args below meth c H locs cells slots Q (F0 m pc ls rest) :=
  lv_iload_n C.1 C.2.1 d hi hl k
theorem r_iload (C : Cx p s m args meth c cc nL own ret x g) {i : Nat} {v : Int32} (hl : ls[i]? = some (.val (.int v))) (d : decode cc pc = .ok (.iload i, 2)) (k : W p l e R s m args below meth c H locs cells slots Q (F0 m (pc + 2) ls (.int v :: rest))) : W p l e R s m args below meth c H locs cells slots Q (F0 m pc ls rest) :=
  lv_iload C.1 C.2.1 d hl k
theorem r_aload_n (C : Cx p s m args meth c cc nL own ret x g) {j : Fin 4} {i : Nat} {v : Nat} (hi : (j : Nat) = i) (hl : ls[i]? = some (.val (.ref v))) (d : decode cc pc = .ok (.aload_n j, 1)) (k : W p l e R s m args below meth c H locs cells slots Q (F0 m (pc + 1) ls (.ref v :: rest))) : W p l e R s m args below meth c H locs cells slots Q (F0 m pc ls rest) :=
  lv_aload_n C.1 C.2.1 d hi hl k
theorem r_aload (C : Cx p s m args meth c cc nL own ret x g) {i : Nat} {v : Nat} (hl : ls[i]? = some (.val (.ref v))) (d : decode cc pc = .ok (.aload i, 2)) (k : W p l e R s m args below meth c H locs cells slots Q (F0 m (pc + 2) ls (.ref v :: rest))) : W p l e R s m args below meth c H locs cells slots Q (F0 m pc ls rest) :=
  lv_aload C.1 C.2.1 d hl k
theorem r_lload_n (C : Cx p s m args meth c cc nL own ret x g) {j : Fin 4} {i : Nat} {v : Int64} (hi : (j : Nat) = i) (hl : ls[i]? = some (.val (.long v))) (d : decode cc pc = .ok (.lload_n j, 1)) (k : W p l e R s m args below meth c H locs cells slots Q (F0 m (pc + 1) ls (.long v :: rest))) : W p l e R s m args below meth c H locs cells slots Q (F0 m pc ls rest) :=
  lv_lload_n C.1 C.2.1 d hi hl k
theorem r_lload (C : Cx p s m args meth c cc nL own ret x g) {i : Nat} {v : Int64} (hl : ls[i]? = some (.val (.long v))) (d : decode cc pc = .ok (.lload i, 2)) (k : W p l e R s m args below meth c H locs cells slots Q (F0 m (pc + 2) ls (.long v :: rest))) : W p l e R s m args below meth c H locs cells slots Q (F0 m pc ls rest) :=
  lv_lload C.1 C.2.1 d hl k
theorem r_istore_n (C : Cx p s m args meth c cc nL own ret x g) {j : Fin 4} {i : Nat} {v : Int32} {lv lv' : List (Nat × Value)} (hi : (j : Nat) = i) (h : lv_has ls nL lv) (hn : i < nL) (hl : (i, Value.int v) :: lv.filter (fun q => !(q.1 == i) && !(q.1 + 1 == i && q.2.category == 2)) = lv') (d : decode cc pc = .ok (.istore_n j, 1)) (k : ∀ ls : Array Slot, lv_has ls nL lv' → W p l e R s m args below meth c H locs cells slots Q (F0 m (pc + 1) ls rest)) : W p l e R s m args below meth c H locs cells slots Q (F0 m pc ls (.int v :: rest)) :=
  lv_istore_n C.1 C.2.1 d hi h hn hl k
theorem r_istore (C : Cx p s m args meth c cc nL own ret x g) {i : Nat} {v : Int32} {lv lv' : List (Nat × Value)} (h : lv_has ls nL lv) (hn : i < nL) (hl : (i, Value.int v) :: lv.filter (fun q => !(q.1 == i) && !(q.1 + 1 == i && q.2.category == 2)) = lv') (d : decode cc pc = .ok (.istore i, 2)) (k : ∀ ls : Array Slot, lv_has ls nL lv' → W p l e R s m args below meth c H locs cells slots Q (F0 m (pc + 2) ls rest)) : W p l e R s m args below meth c H locs cells slots Q (F0 m pc ls (.int v :: rest)) :=
  lv_istore C.1 C.2.1 d h hn hl k
theorem r_lstore_n (C : Cx p s m args meth c cc nL own ret x g) {j : Fin 4} {i : Nat} {v : Int64} {lv lv' : List (Nat × Value)} (hi : (j : Nat) = i) (h : lv_has ls nL lv) (hn : i + 1 < nL) (hl : (i, Value.long v) :: lv.filter (fun q => !(q.1 == i) && (!(q.1 == i + 1) && !(q.1 + 1 == i && q.2.category == 2))) = lv') (d : decode cc pc = .ok (.lstore_n j, 1)) (k : ∀ ls : Array Slot, lv_has ls nL lv' → W p l e R s m args below meth c H locs cells slots Q (F0 m (pc + 1) ls rest)) : W p l e R s m args below meth c H locs cells slots Q (F0 m pc ls (.long v :: rest)) :=
  lv_lstore_n C.1 C.2.1 d hi h hn hl k
theorem r_lstore (C : Cx p s m args meth c cc nL own ret x g) {i : Nat} {v : Int64} {lv lv' : List (Nat × Value)} (h : lv_has ls nL lv) (hn : i + 1 < nL) (hl : (i, Value.long v) :: lv.filter (fun q => !(q.1 == i) && (!(q.1 == i + 1) && !(q.1 + 1 == i && q.2.category == 2))) = lv') (d : decode cc pc = .ok (.lstore i, 2)) (k : ∀ ls : Array Slot, lv_has ls nL lv' → W p l e R s m args below meth c H locs cells slots Q (F0 m (pc + 2) ls rest)) : W p l e R s m args below meth c H locs cells slots Q (F0 m pc ls (.long v :: rest)) :=
  lv_lstore C.1 C.2.1 d h hn hl k
theorem r_astore_n (C : Cx p s m args meth c cc nL own ret x g) {j : Fin 4} {i : Nat} {v : Nat} {lv lv' : List (Nat × Value)} (hi : (j : Nat) = i) (h : lv_has ls nL lv) (hn : i < nL) (hl : (i, Value.ref v) :: lv.filter (fun q => !(q.1 == i) && !(q.1 + 1 == i && q.2.category == 2)) = lv') (d : decode cc pc = .ok (.astore_n j, 1)) (k : ∀ ls : Array Slot, lv_has ls nL lv' → W p l e R s m args below meth c H locs cells slots Q (F0 m (pc + 1) ls rest)) : W p l e R s m args below meth c H locs cells slots Q (F0 m pc ls (.ref v :: rest)) :=
  lv_astore_n C.1 C.2.1 d hi h hn hl k
theorem r_astore (C : Cx p s m args meth c cc nL own ret x g) {i : Nat} {v : Nat} {lv lv' : List (Nat × Value)} (h : lv_has ls nL lv) (hn : i < nL) (hl : (i, Value.ref v) :: lv.filter (fun q => !(q.1 == i) && !(q.1 + 1 == i && q.2.category == 2)) = lv') (d : decode cc pc = .ok (.astore i, 2)) (k : ∀ ls : Array Slot, lv_has ls nL lv' → W p l e R s m args below meth c H locs cells slots Q (F0 m (pc + 2) ls rest)) : W p l e R s m args below meth c H locs cells slots Q (F0 m pc ls (.ref v :: rest)) :=
  lv_astore C.1 C.2.1 d h hn hl k
theorem r_iinc (C : Cx p s m args meth c cc nL own ret x g) {i q : Nat} {n a : Int} {lv lv' : List (Nat × Value)} (h : lv_has ls nL lv) (hk : lv[q]? = some (i, .int (iI a))) (hn : i < nL) (hl : (i, Value.int (iI (a + n))) :: lv.filter (fun q => !(q.1 == i) && !(q.1 + 1 == i && q.2.category == 2)) = lv') (d : decode cc pc = .ok (.iinc i n, 3)) (k : ∀ ls : Array Slot, lv_has ls nL lv' → W p l e R s m args below meth c H locs cells slots Q (F0 m (pc + 3) ls rest)) : W p l e R s m args below meth c H locs cells slots Q (F0 m pc ls rest) :=
  lv_iinc C.1 C.2.1 d h hk (iI_add a n) hn hl k
theorem r_iadd (C : Cx p s m args meth c cc nL own ret x g) {a b : Int} (d : decode cc pc = .ok (.iadd, 1)) (k : W p l e R s m args below meth c H locs cells slots Q (F0 m (pc + 1) ls (.int (iI (a + b)) :: rest))) : W p l e R s m args below meth c H locs cells slots Q (F0 m pc ls (.int (iI b) :: .int (iI a) :: rest)) :=
  lv_iadd C.1 C.2.1 d (by rw [iI_add]; exact k)
theorem r_isub (C : Cx p s m args meth c cc nL own ret x g) {a b : Int} (d : decode cc pc = .ok (.isub, 1)) (k : W p l e R s m args below meth c H locs cells slots Q (F0 m (pc + 1) ls (.int (iI (a - b)) :: rest))) : W p l e R s m args below meth c H locs cells slots Q (F0 m pc ls (.int (iI b) :: .int (iI a) :: rest)) :=
  lv_isub C.1 C.2.1 d (by rw [iI_sub]; exact k)
theorem r_imul (C : Cx p s m args meth c cc nL own ret x g) {a b : Int} (d : decode cc pc = .ok (.imul, 1)) (k : W p l e R s m args below meth c H locs cells slots Q (F0 m (pc + 1) ls (.int (iI (a * b)) :: rest))) : W p l e R s m args below meth c H locs cells slots Q (F0 m pc ls (.int (iI b) :: .int (iI a) :: rest)) :=
  lv_imul C.1 C.2.1 d (by rw [iI_mul]; exact k)
theorem r_ladd (C : Cx p s m args meth c cc nL own ret x g) {a b : Int} (d : decode cc pc = .ok (.ladd, 1)) (k : W p l e R s m args below meth c H locs cells slots Q (F0 m (pc + 1) ls (.long (iL (a + b)) :: rest))) : W p l e R s m args below meth c H locs cells slots Q (F0 m pc ls (.long (iL b) :: .long (iL a) :: rest)) :=
  lv_ladd C.1 C.2.1 d (by rw [iL_add]; exact k)
theorem r_lsub (C : Cx p s m args meth c cc nL own ret x g) {a b : Int} (d : decode cc pc = .ok (.lsub, 1)) (k : W p l e R s m args below meth c H locs cells slots Q (F0 m (pc + 1) ls (.long (iL (a - b)) :: rest))) : W p l e R s m args below meth c H locs cells slots Q (F0 m pc ls (.long (iL b) :: .long (iL a) :: rest)) :=
  lv_lsub C.1 C.2.1 d (by rw [iL_sub]; exact k)
theorem r_lmul (C : Cx p s m args meth c cc nL own ret x g) {a b : Int} (d : decode cc pc = .ok (.lmul, 1)) (k : W p l e R s m args below meth c H locs cells slots Q (F0 m (pc + 1) ls (.long (iL (a * b)) :: rest))) : W p l e R s m args below meth c H locs cells slots Q (F0 m pc ls (.long (iL b) :: .long (iL a) :: rest)) :=
  lv_lmul C.1 C.2.1 d (by rw [iL_mul]; exact k)
theorem r_idiv (C : Cx p s m args meth c cc nL own ret x g) {a b : Int} (ha : 0 ≤ a ∧ a < 2147483648) (hb : 0 < b ∧ b < 2147483648) (d : decode cc pc = .ok (.idiv, 1)) (k : W p l e R s m args below meth c H locs cells slots Q (F0 m (pc + 1) ls (.int (iI (a / b)) :: rest))) : W p l e R s m args below meth c H locs cells slots Q (F0 m pc ls (.int (iI b) :: .int (iI a) :: rest)) :=
  lv_idiv C.1 C.2.1 d (by rw [z_iI, iI_eq (by omega) (by omega)]; omega) (by rw [iI_div ha hb]; exact k)
theorem r_irem (C : Cx p s m args meth c cc nL own ret x g) {a b : Int} (ha : 0 ≤ a ∧ a < 2147483648) (hb : 0 < b ∧ b < 2147483648) (d : decode cc pc = .ok (.irem, 1)) (k : W p l e R s m args below meth c H locs cells slots Q (F0 m (pc + 1) ls (.int (iI (a % b)) :: rest))) : W p l e R s m args below meth c H locs cells slots Q (F0 m pc ls (.int (iI b) :: .int (iI a) :: rest)) :=
  lv_irem C.1 C.2.1 d (by rw [z_iI, iI_eq (by omega) (by omega)]; omega) (by rw [iI_rem ha hb]; exact k)
theorem r_ldiv (C : Cx p s m args meth c cc nL own ret x g) {a b : Int} (ha : 0 ≤ a ∧ a < 9223372036854775808) (hb : 0 < b ∧ b < 9223372036854775808) (d : decode cc pc = .ok (.ldiv, 1)) (k : W p l e R s m args below meth c H locs cells slots Q (F0 m (pc + 1) ls (.long (iL (a / b)) :: rest))) : W p l e R s m args below meth c H locs cells slots Q (F0 m pc ls (.long (iL b) :: .long (iL a) :: rest)) :=
  lv_ldiv C.1 C.2.1 d (by rw [z_iL, iL_eq (by omega) (by omega)]; omega) (by rw [iL_div ha hb]; exact k)
theorem r_lrem (C : Cx p s m args meth c cc nL own ret x g) {a b : Int} (ha : 0 ≤ a ∧ a < 9223372036854775808) (hb : 0 < b ∧ b < 9223372036854775808) (d : decode cc pc = .ok (.lrem, 1)) (k : W p l e R s m args below meth c H locs cells slots Q (F0 m (pc + 1) ls (.long (iL (a % b)) :: rest))) : W p l e R s m args below meth c H locs cells slots Q (F0 m pc ls (.long (iL b) :: .long (iL a) :: rest)) :=
  lv_lrem C.1 C.2.1 d (by rw [z_iL, iL_eq (by omega) (by omega)]; omega) (by rw [iL_rem ha hb]; exact k)
theorem r_i2l (C : Cx p s m args meth c cc nL own ret x g) {a : Int} (ha : Rg a) (d : decode cc pc = .ok (.i2l, 1)) (k : W p l e R s m args below meth c H locs cells slots Q (F0 m (pc + 1) ls (.long (iL a) :: rest))) : W p l e R s m args below meth c H locs cells slots Q (F0 m pc ls (.int (iI a) :: rest)) :=
  lv_i2l C.1 C.2.1 d (iI_l ha) k
theorem r_l2i (C : Cx p s m args meth c cc nL own ret x g) {a : Int} (ha : Rg a) (d : decode cc pc = .ok (.l2i, 1)) (k : W p l e R s m args below meth c H locs cells slots Q (F0 m (pc + 1) ls (.int (iI a) :: rest))) : W p l e R s m args below meth c H locs cells slots Q (F0 m pc ls (.long (iL a) :: rest)) :=
  lv_l2i C.1 C.2.1 d (iL_i ha) k
theorem r_dup (C : Cx p s m args meth c cc nL own ret x g) {v : Value} (hv : v.category = 1) (d : decode cc pc = .ok (.dup, 1)) (k : W p l e R s m args below meth c H locs cells slots Q (F0 m (pc + 1) ls (v :: v :: rest))) : W p l e R s m args below meth c H locs cells slots Q (F0 m pc ls (v :: rest)) :=
  lv_dup C.1 C.2.1 d hv k
theorem r_dup2 (C : Cx p s m args meth c cc nL own ret x g) {v u : Value} (hv : v.category = 1) (hu : u.category = 1) (d : decode cc pc = .ok (.dup2, 1)) (k : W p l e R s m args below meth c H locs cells slots Q (F0 m (pc + 1) ls (v :: u :: v :: u :: rest))) : W p l e R s m args below meth c H locs cells slots Q (F0 m pc ls (v :: u :: rest)) :=
  lv_dup2_11 C.1 C.2.1 d hv hu k
theorem r_pop (C : Cx p s m args meth c cc nL own ret x g) {v : Value} (hv : v.category = 1) (d : decode cc pc = .ok (.pop, 1)) (k : W p l e R s m args below meth c H locs cells slots Q (F0 m (pc + 1) ls rest)) : W p l e R s m args below meth c H locs cells slots Q (F0 m pc ls (v :: rest)) :=
  lv_pop C.1 C.2.1 d hv k
theorem r_goto (C : Cx p s m args meth c cc nL own ret x g) {off : Int} {tgt : Nat} (ht : (pc : Int) + off = (tgt : Int)) (d : decode cc pc = .ok (.goto off, 3)) (k : W p l e R s m args below meth c H locs cells slots Q (F0 m tgt ls rest)) : W p l e R s m args below meth c H locs cells slots Q (F0 m pc ls rest) :=
  lv_goto C.1 C.2.1 d ht k
theorem r_ldc2 (C : Cx p s m args meth c cc nL own ret x g) {idx : Nat} {v : Int64} (hc : Cond.constantLong own idx v ∈ AL) (d : decode cc pc = .ok (.ldc2_w idx, 3)) (k : W p l e R s m args below meth c H locs cells slots Q (F0 m (pc + 3) ls (.long v :: rest))) : W p l e R s m args below meth c H locs cells slots Q (F0 m pc ls rest) :=
  lv_ldc2 C.1 C.2.1 C.2.2.2.1 (C.2.2.2.2.1 _ (List.mem_cons_of_mem _ hc)) d k
theorem r_icmp_lt (C : Cx p s m args meth c cc nL own ret x g) {a b : Int} {off : Int} {tgt : Nat} (ht : (pc : Int) + off = (tgt : Int)) (ha : Rg a) (hb : Rg b) (d : decode cc pc = .ok (.if_icmp .lt off, 3)) (kt : a < b → W p l e R s m args below meth c H locs cells slots Q (F0 m tgt ls rest)) (kf : b ≤ a → W p l e R s m args below meth c H locs cells slots Q (F0 m (pc + 3) ls rest)) : W p l e R s m args below meth c H locs cells slots Q (F0 m pc ls (.int (iI b) :: .int (iI a) :: rest)) :=
  lv_icmp_lt C.1 C.2.1 d ht (fun h => kt ((iI_lt ha hb).mp h)) (fun h => kf (Int.not_lt.mp (fun q => h ((iI_lt ha hb).mpr q))))
theorem r_icmp_ge (C : Cx p s m args meth c cc nL own ret x g) {a b : Int} {off : Int} {tgt : Nat} (ht : (pc : Int) + off = (tgt : Int)) (ha : Rg a) (hb : Rg b) (d : decode cc pc = .ok (.if_icmp .ge off, 3)) (kt : b ≤ a → W p l e R s m args below meth c H locs cells slots Q (F0 m tgt ls rest)) (kf : a < b → W p l e R s m args below meth c H locs cells slots Q (F0 m (pc + 3) ls rest)) : W p l e R s m args below meth c H locs cells slots Q (F0 m pc ls (.int (iI b) :: .int (iI a) :: rest)) :=
  lv_icmp_ge C.1 C.2.1 d ht (fun h => kt ((iI_le hb ha).mp h)) (fun h => kf (Int.not_le.mp (fun q => h ((iI_le hb ha).mpr q))))
theorem r_icmp_gt (C : Cx p s m args meth c cc nL own ret x g) {a b : Int} {off : Int} {tgt : Nat} (ht : (pc : Int) + off = (tgt : Int)) (ha : Rg a) (hb : Rg b) (d : decode cc pc = .ok (.if_icmp .gt off, 3)) (kt : b < a → W p l e R s m args below meth c H locs cells slots Q (F0 m tgt ls rest)) (kf : a ≤ b → W p l e R s m args below meth c H locs cells slots Q (F0 m (pc + 3) ls rest)) : W p l e R s m args below meth c H locs cells slots Q (F0 m pc ls (.int (iI b) :: .int (iI a) :: rest)) :=
  lv_icmp_gt C.1 C.2.1 d ht (fun h => kt ((iI_lt hb ha).mp h)) (fun h => kf (Int.not_lt.mp (fun q => h ((iI_lt hb ha).mpr q))))
theorem r_icmp_le (C : Cx p s m args meth c cc nL own ret x g) {a b : Int} {off : Int} {tgt : Nat} (ht : (pc : Int) + off = (tgt : Int)) (ha : Rg a) (hb : Rg b) (d : decode cc pc = .ok (.if_icmp .le off, 3)) (kt : a ≤ b → W p l e R s m args below meth c H locs cells slots Q (F0 m tgt ls rest)) (kf : b < a → W p l e R s m args below meth c H locs cells slots Q (F0 m (pc + 3) ls rest)) : W p l e R s m args below meth c H locs cells slots Q (F0 m pc ls (.int (iI b) :: .int (iI a) :: rest)) :=
  lv_icmp_le C.1 C.2.1 d ht (fun h => kt ((iI_le ha hb).mp h)) (fun h => kf (Int.not_le.mp (fun q => h ((iI_le ha hb).mpr q))))
theorem r_icmp_eq (C : Cx p s m args meth c cc nL own ret x g) {a b : Int} {off : Int} {tgt : Nat} (ht : (pc : Int) + off = (tgt : Int)) (ha : Rg a) (hb : Rg b) (d : decode cc pc = .ok (.if_icmp .eq off, 3)) (kt : a = b → W p l e R s m args below meth c H locs cells slots Q (F0 m tgt ls rest)) (kf : a ≠ b → W p l e R s m args below meth c H locs cells slots Q (F0 m (pc + 3) ls rest)) : W p l e R s m args below meth c H locs cells slots Q (F0 m pc ls (.int (iI b) :: .int (iI a) :: rest)) :=
  lv_icmp_eq C.1 C.2.1 d ht (fun h => kt ((iI_eq ha hb).mp h)) (fun h => kf (id (fun q => h ((iI_eq ha hb).mpr q))))
theorem r_icmp_ne (C : Cx p s m args meth c cc nL own ret x g) {a b : Int} {off : Int} {tgt : Nat} (ht : (pc : Int) + off = (tgt : Int)) (ha : Rg a) (hb : Rg b) (d : decode cc pc = .ok (.if_icmp .ne off, 3)) (kt : a ≠ b → W p l e R s m args below meth c H locs cells slots Q (F0 m tgt ls rest)) (kf : a = b → W p l e R s m args below meth c H locs cells slots Q (F0 m (pc + 3) ls rest)) : W p l e R s m args below meth c H locs cells slots Q (F0 m pc ls (.int (iI b) :: .int (iI a) :: rest)) :=
  lv_icmp_ne C.1 C.2.1 d ht (fun h => kt (fun q => h ((iI_eq ha hb).mpr q))) (fun h => kf ((iI_eq ha hb).mp h))
theorem r_if_lt (C : Cx p s m args meth c cc nL own ret x g) {a : Int} {off : Int} {tgt : Nat} (ht : (pc : Int) + off = (tgt : Int)) (ha : Rg a) (d : decode cc pc = .ok (.ifCond .lt off, 3)) (kt : a < 0 → W p l e R s m args below meth c H locs cells slots Q (F0 m tgt ls rest)) (kf : 0 ≤ a → W p l e R s m args below meth c H locs cells slots Q (F0 m (pc + 3) ls rest)) : W p l e R s m args below meth c H locs cells slots Q (F0 m pc ls (.int (iI a) :: rest)) :=
  lv_if_lt C.1 C.2.1 d ht (fun h => kt ((iI_lt ha rg0).mp h)) (fun h => kf (Int.not_lt.mp (fun q => h ((iI_lt ha rg0).mpr q))))
theorem r_if_ge (C : Cx p s m args meth c cc nL own ret x g) {a : Int} {off : Int} {tgt : Nat} (ht : (pc : Int) + off = (tgt : Int)) (ha : Rg a) (d : decode cc pc = .ok (.ifCond .ge off, 3)) (kt : 0 ≤ a → W p l e R s m args below meth c H locs cells slots Q (F0 m tgt ls rest)) (kf : a < 0 → W p l e R s m args below meth c H locs cells slots Q (F0 m (pc + 3) ls rest)) : W p l e R s m args below meth c H locs cells slots Q (F0 m pc ls (.int (iI a) :: rest)) :=
  lv_if_ge C.1 C.2.1 d ht (fun h => kt ((iI_le rg0 ha).mp h)) (fun h => kf (Int.not_le.mp (fun q => h ((iI_le rg0 ha).mpr q))))
theorem r_if_gt (C : Cx p s m args meth c cc nL own ret x g) {a : Int} {off : Int} {tgt : Nat} (ht : (pc : Int) + off = (tgt : Int)) (ha : Rg a) (d : decode cc pc = .ok (.ifCond .gt off, 3)) (kt : 0 < a → W p l e R s m args below meth c H locs cells slots Q (F0 m tgt ls rest)) (kf : a ≤ 0 → W p l e R s m args below meth c H locs cells slots Q (F0 m (pc + 3) ls rest)) : W p l e R s m args below meth c H locs cells slots Q (F0 m pc ls (.int (iI a) :: rest)) :=
  lv_if_gt C.1 C.2.1 d ht (fun h => kt ((iI_lt rg0 ha).mp h)) (fun h => kf (Int.not_lt.mp (fun q => h ((iI_lt rg0 ha).mpr q))))
theorem r_if_le (C : Cx p s m args meth c cc nL own ret x g) {a : Int} {off : Int} {tgt : Nat} (ht : (pc : Int) + off = (tgt : Int)) (ha : Rg a) (d : decode cc pc = .ok (.ifCond .le off, 3)) (kt : a ≤ 0 → W p l e R s m args below meth c H locs cells slots Q (F0 m tgt ls rest)) (kf : 0 < a → W p l e R s m args below meth c H locs cells slots Q (F0 m (pc + 3) ls rest)) : W p l e R s m args below meth c H locs cells slots Q (F0 m pc ls (.int (iI a) :: rest)) :=
  lv_if_le C.1 C.2.1 d ht (fun h => kt ((iI_le ha rg0).mp h)) (fun h => kf (Int.not_le.mp (fun q => h ((iI_le ha rg0).mpr q))))
theorem r_if_eq (C : Cx p s m args meth c cc nL own ret x g) {a : Int} {off : Int} {tgt : Nat} (ht : (pc : Int) + off = (tgt : Int)) (ha : Rg a) (d : decode cc pc = .ok (.ifCond .eq off, 3)) (kt : a = 0 → W p l e R s m args below meth c H locs cells slots Q (F0 m tgt ls rest)) (kf : a ≠ 0 → W p l e R s m args below meth c H locs cells slots Q (F0 m (pc + 3) ls rest)) : W p l e R s m args below meth c H locs cells slots Q (F0 m pc ls (.int (iI a) :: rest)) :=
  lv_if_eq C.1 C.2.1 d ht (fun h => kt ((iI_eq ha rg0).mp h)) (fun h => kf (id (fun q => h ((iI_eq ha rg0).mpr q))))
theorem r_if_ne (C : Cx p s m args meth c cc nL own ret x g) {a : Int} {off : Int} {tgt : Nat} (ht : (pc : Int) + off = (tgt : Int)) (ha : Rg a) (d : decode cc pc = .ok (.ifCond .ne off, 3)) (kt : a ≠ 0 → W p l e R s m args below meth c H locs cells slots Q (F0 m tgt ls rest)) (kf : a = 0 → W p l e R s m args below meth c H locs cells slots Q (F0 m (pc + 3) ls rest)) : W p l e R s m args below meth c H locs cells slots Q (F0 m pc ls (.int (iI a) :: rest)) :=
  lv_if_ne C.1 C.2.1 d ht (fun h => kt (fun q => h ((iI_eq ha rg0).mpr q))) (fun h => kf ((iI_eq ha rg0).mp h))
theorem r_ifP_eq (C : Cx p s m args meth c cc nL own ret x g) {P : Prop} [Decidable P] {off : Int} {tgt : Nat} (ht : (pc : Int) + off = (tgt : Int)) (d : decode cc pc = .ok (.ifCond .eq off, 3)) (kt : ¬ P → W p l e R s m args below meth c H locs cells slots Q (F0 m tgt ls rest)) (kf : P → W p l e R s m args below meth c H locs cells slots Q (F0 m (pc + 3) ls rest)) : W p l e R s m args below meth c H locs cells slots Q (F0 m pc ls (.int (iI (pI P)) :: rest)) :=
  r_if_eq C ht ⟨by have := pI_rg P; omega, by have := pI_rg P; omega⟩ d (fun h => kt (pI_0.mp h)) (fun h => kf (Decidable.not_not.mp (fun q => h (pI_0.mpr q))))
theorem r_ifP_ne (C : Cx p s m args meth c cc nL own ret x g) {P : Prop} [Decidable P] {off : Int} {tgt : Nat} (ht : (pc : Int) + off = (tgt : Int)) (d : decode cc pc = .ok (.ifCond .ne off, 3)) (kt : P → W p l e R s m args below meth c H locs cells slots Q (F0 m tgt ls rest)) (kf : ¬ P → W p l e R s m args below meth c H locs cells slots Q (F0 m (pc + 3) ls rest)) : W p l e R s m args below meth c H locs cells slots Q (F0 m pc ls (.int (iI (pI P)) :: rest)) :=
  r_if_ne C ht ⟨by have := pI_rg P; omega, by have := pI_rg P; omega⟩ d (fun h => kt (Decidable.not_not.mp (fun q => h (pI_0.mpr q)))) (fun h => kf (pI_0.mp h))
theorem r_iald (C : Cx p s m args meth c cc nL own ret x g) {a n : Nat} {f : Nat → Int} {i v : Int} (h : aAt g a n f H) (q : Nat) (hi : i = (q : Int)) (hq : q < n) (hn : n < 2147483648) (hv : f q = v) (d : decode cc pc = .ok (.iaload, 1)) (k : W p l e R s m args below meth c H locs cells slots Q (F0 m (pc + 1) ls (.int (iI v) :: rest))) : W p l e R s m args below meth c H locs cells slots Q (F0 m pc ls (.int (iI i) :: .ref a :: rest)) := by
  subst hi hv
  refine W.iald (v := .int (iI (f q))) C.1 C.2.1 h ((C.2.2.2.2.2.2.2.2 0 _ rfl).1 n (fun j => .int (iI (f j)))) (fun q => by cases q) ?_ ?_ rfl rfl d k
  · show ¬ (_ < 0 ∨ (arrV _ _ _).slots.size ≤ _)
    rw [arrV_size]
    exact iI_in hq hn
  · show (arrV _ _ _).slots[_]? = _
    rw [iI_nat (by omega), arrV_read _ _ hq]
theorem r_cald (C : Cx p s m args meth c cc nL own ret x g) {a n : Nat} {f : Nat → Int} {i v : Int} (h : cAt g a n f H) (q : Nat) (hi : i = (q : Int)) (hq : q < n) (hn : n < 2147483648) (hv : f q = v) (d : decode cc pc = .ok (.caload, 1)) (k : W p l e R s m args below meth c H locs cells slots Q (F0 m (pc + 1) ls (.int (iI v) :: rest))) : W p l e R s m args below meth c H locs cells slots Q (F0 m pc ls (.int (iI i) :: .ref a :: rest)) := by
  subst hi hv
  refine W.cald (v := .int (iI (f q))) C.1 C.2.1 h ((C.2.2.2.2.2.2.2.2 1 _ rfl).1 n (fun j => .int (iI (f j)))) (fun q => by cases q) ?_ ?_ rfl rfl d k
  · show ¬ (_ < 0 ∨ (arrV _ _ _).slots.size ≤ _)
    rw [arrV_size]
    exact iI_in hq hn
  · show (arrV _ _ _).slots[_]? = _
    rw [iI_nat (by omega), arrV_read _ _ hq]
theorem r_zald (C : Cx p s m args meth c cc nL own ret x g) {a n : Nat} {f : Nat → Int} {i v : Int} (h : zAt g a n f H) (q : Nat) (hi : i = (q : Int)) (hq : q < n) (hn : n < 2147483648) (hv : f q = v) (d : decode cc pc = .ok (.baload, 1)) (k : W p l e R s m args below meth c H locs cells slots Q (F0 m (pc + 1) ls (.int (iI v) :: rest))) : W p l e R s m args below meth c H locs cells slots Q (F0 m pc ls (.int (iI i) :: .ref a :: rest)) := by
  subst hi hv
  refine W.zald (v := .int (iI (f q))) C.1 C.2.1 h ((C.2.2.2.2.2.2.2.2 2 _ rfl).1 n (fun j => .int (iI (f j)))) (fun q => by cases q) ?_ ?_ rfl rfl d k
  · show ¬ (_ < 0 ∨ (arrV _ _ _).slots.size ≤ _)
    rw [arrV_size]
    exact iI_in hq hn
  · show (arrV _ _ _).slots[_]? = _
    rw [iI_nat (by omega), arrV_read _ _ hq]
theorem r_iast (C : Cx p s m args meth c cc nL own ret x g) {a n : Nat} {f : Nat → Int} {i y : Int} {A : Nat → Prop} {H0 : Heap} (h : aAt g a n f H) (hF : Fr A H0 H locs) (hA : A a) (q : Nat) (hi : i = (q : Int)) (hq : q < n) (hn : n < 2147483648) (d : decode cc pc = .ok (.iastore, 1)) (k : ∀ (H1 : Heap) (locs1 : List Loc), aAt g a n (up f q y) H1 → (∀ b : Nat, b ≠ a → H1[b]? = H[b]?) → H1.size = H.size → Fr A H0 H1 locs1 → W p l e R s m args below meth c H1 locs1 cells slots Q (F0 m (pc + 1) ls rest)) : W p l e R s m args below meth c H locs cells slots Q (F0 m pc ls (.int (iI y) :: .int (iI i) :: .ref a :: rest)) := by
  subst hi
  refine W.iast C.1 C.2.1 h ((C.2.2.2.2.2.2.2.2 0 _ rfl).1 n (fun j => .int (iI (f j)))) (fun q => by cases q) ?_ rfl rfl d (fun H1 e z oq => k H1 _ ?_ oq z (hF.put z oq hA))
  · show ¬ (_ < 0 ∨ (arrV _ _ _).slots.size ≤ _)
    rw [arrV_size]
    exact iI_in hq hn
  · unfold aAt
    rw [e, iI_nat (by omega)]
    rw [vp_cell_i, vp_cell_i, arrV_store]
    refine congrArg some (arrV_cg (fun j _ => ?_))
    by_cases hj : j = q
    · subst hj
      simp [updV, up]
    · simp [updV, up, hj]
theorem r_cast (C : Cx p s m args meth c cc nL own ret x g) {a n : Nat} {f : Nat → Int} {i y : Int} {A : Nat → Prop} {H0 : Heap} (h : cAt g a n f H) (hF : Fr A H0 H locs) (hA : A a) (q : Nat) (hi : i = (q : Int)) (hq : q < n) (hn : n < 2147483648) (hw : narrow .char (.int (iI y)) = .int (iI y)) (d : decode cc pc = .ok (.castore, 1)) (k : ∀ (H1 : Heap) (locs1 : List Loc), cAt g a n (up f q y) H1 → (∀ b : Nat, b ≠ a → H1[b]? = H[b]?) → H1.size = H.size → Fr A H0 H1 locs1 → W p l e R s m args below meth c H1 locs1 cells slots Q (F0 m (pc + 1) ls rest)) : W p l e R s m args below meth c H locs cells slots Q (F0 m pc ls (.int (iI y) :: .int (iI i) :: .ref a :: rest)) := by
  subst hi
  refine W.cast C.1 C.2.1 h ((C.2.2.2.2.2.2.2.2 1 _ rfl).1 n (fun j => .int (iI (f j)))) (fun q => by cases q) ?_ rfl rfl d (fun H1 e z oq => k H1 _ ?_ oq z (hF.put z oq hA))
  · show ¬ (_ < 0 ∨ (arrV _ _ _).slots.size ≤ _)
    rw [arrV_size]
    exact iI_in hq hn
  · unfold cAt
    rw [e, iI_nat (by omega), hw]
    rw [vp_cell_i, vp_cell_i, arrV_store]
    refine congrArg some (arrV_cg (fun j _ => ?_))
    by_cases hj : j = q
    · subst hj
      simp [updV, up]
    · simp [updV, up, hj]
theorem r_zast (C : Cx p s m args meth c cc nL own ret x g) {a n : Nat} {f : Nat → Int} {i y : Int} {A : Nat → Prop} {H0 : Heap} (h : zAt g a n f H) (hF : Fr A H0 H locs) (hA : A a) (q : Nat) (hi : i = (q : Int)) (hq : q < n) (hn : n < 2147483648) (hw : narrow .boolean (.int (iI y)) = .int (iI y)) (d : decode cc pc = .ok (.bastore, 1)) (k : ∀ (H1 : Heap) (locs1 : List Loc), zAt g a n (up f q y) H1 → (∀ b : Nat, b ≠ a → H1[b]? = H[b]?) → H1.size = H.size → Fr A H0 H1 locs1 → W p l e R s m args below meth c H1 locs1 cells slots Q (F0 m (pc + 1) ls rest)) : W p l e R s m args below meth c H locs cells slots Q (F0 m pc ls (.int (iI y) :: .int (iI i) :: .ref a :: rest)) := by
  subst hi
  refine W.zast C.1 C.2.1 h ((C.2.2.2.2.2.2.2.2 2 _ rfl).1 n (fun j => .int (iI (f j)))) (fun q => by cases q) ?_ rfl rfl d (fun H1 e z oq => k H1 _ ?_ oq z (hF.put z oq hA))
  · show ¬ (_ < 0 ∨ (arrV _ _ _).slots.size ≤ _)
    rw [arrV_size]
    exact iI_in hq hn
  · unfold zAt
    rw [e, iI_nat (by omega), hw]
    rw [vp_cell_i, vp_cell_i, arrV_store]
    refine congrArg some (arrV_cg (fun j _ => ?_))
    by_cases hj : j = q
    · subst hj
      simp [updV, up]
    · simp [updV, up, hj]
theorem r_aaldq (C : Cx p s m args meth c cc nL own ret x g) {a n v : Nat} {f : Nat → Option Nat} {i : Int} (h : qAt g a n f H) (q : Nat) (hi : i = (q : Int)) (hq : q < n) (hn : n < 2147483648) (hv : f q = some v) (d : decode cc pc = .ok (.aaload, 1)) (k : W p l e R s m args below meth c H locs cells slots Q (F0 m (pc + 1) ls (.ref v :: rest))) : W p l e R s m args below meth c H locs cells slots Q (F0 m pc ls (.int (iI i) :: .ref a :: rest)) := by
  subst hi
  refine W.aald (v := .ref v) C.1 C.2.1 h ((C.2.2.2.2.2.2.2.2 3 _ rfl).1 n (fun j => va_rf (f j))) rfl (fun q => by cases q) ?_ ?_ rfl rfl d k
  · show ¬ (_ < 0 ∨ (arrV _ _ _).slots.size ≤ _)
    rw [arrV_size]
    exact iI_in hq hn
  · show (arrV _ _ _).slots[_]? = _
    rw [iI_nat (by omega), arrV_read _ _ hq, hv]
    rfl
theorem r_aaldr (C : Cx p s m args meth c cc nL own ret x g) {a n v : Nat} {f : Nat → Option Nat} {i : Int} (h : rAt g a n f H) (q : Nat) (hi : i = (q : Int)) (hq : q < n) (hn : n < 2147483648) (hv : f q = some v) (d : decode cc pc = .ok (.aaload, 1)) (k : W p l e R s m args below meth c H locs cells slots Q (F0 m (pc + 1) ls (.ref v :: rest))) : W p l e R s m args below meth c H locs cells slots Q (F0 m pc ls (.int (iI i) :: .ref a :: rest)) := by
  subst hi
  refine W.aald (v := .ref v) C.1 C.2.1 h ((C.2.2.2.2.2.2.2.2 4 _ rfl).1 n (fun j => va_rf (f j))) rfl (fun q => by cases q) ?_ ?_ rfl rfl d k
  · show ¬ (_ < 0 ∨ (arrV _ _ _).slots.size ≤ _)
    rw [arrV_size]
    exact iI_in hq hn
  · show (arrV _ _ _).slots[_]? = _
    rw [iI_nat (by omega), arrV_read _ _ hq, hv]
    rfl
theorem r_alen (C : Cx p s m args meth c cc nL own ret x g) {a n : Nat} {f : Nat → Int} (h : aAt g a n f H) (d : decode cc pc = .ok (.arraylength, 1)) (k : W p l e R s m args below meth c H locs cells slots Q (F0 m (pc + 1) ls (.int (iI (n : Int)) :: rest))) : W p l e R s m args below meth c H locs cells slots Q (F0 m pc ls (.ref a :: rest)) := by
  refine W.alen (n := iI (n : Int)) C.1 C.2.1 h ((C.2.2.2.2.2.2.2.2 0 _ rfl).1 n (fun j => .int (iI (f j)))) ?_ rfl rfl d k
  show (arrV _ _ _).slots.size.toInt32 = _
  rw [arrV_size]
  rfl
theorem r_get (C : Cx p s m args meth c cc nL own ret x g) {a ci idx : Nat} {fs : List Value} {cls ref : String} {T : u_T} {N : Nat} (hc : vwCl[ci]? = some (cls, T, N)) (hin : ∀ w ∈ u_ws cls T N, w ∈ AL) (h : oAt g a ci fs H) (q : Nat) (hq : q < N) (hl : Cond.fieldLink own idx ref (T q).2.1 (T q).2.2.1 ∈ AL) (hr : (T q).1 = ref) {v : Value} (hv : fs[q]? = some v) (d : decode cc pc = .ok (.getfield idx, 3)) (k : W p l e R s m args below meth c H locs cells slots Q (F0 m (pc + 3) ls (v :: rest))) : W p l e R s m args below meth c H locs cells slots Q (F0 m pc ls (.ref a :: rest)) :=
  va_get (D := g.1) (cl := vwCl) (tys := TYS g) (ws := [(a, .inr (ci, fs))]) (Ts := x :: AL) C.1 C.2.1 C.2.2.2.2.1 (fun w hw => List.mem_cons_of_mem _ (hin w hw)) C.2.2.2.1 C.2.2.2.2.2.2.2 (fun k q hk => by cases k with
    | zero => cases hk; exact h
    | succ k => simp at hk) 0 rfl hc q hq (C.2.2.2.2.1 _ (List.mem_cons_of_mem _ hl)) (fun z hz => hr ▸ hz) hv d k
theorem r_put (C : Cx p s m args meth c cc nL own ret x g) {a ci idx : Nat} {fs : List Value} {cls ref : String} {T : u_T} {N : Nat} {ty0 : Nat → FieldType} {A : Nat → Prop} {H0 : Heap} (hc : vwCl[ci]? = some (cls, T, N)) (hin : ∀ w ∈ u_ws cls T N, w ∈ AL) (hty : ∀ k, k < N → parseFieldDescriptor (T k).2.2.1 = some (ty0 k)) (hnm : ∀ a, a < N → ∀ b, b < N → a ≠ b → (T a).2.1 ≠ (T b).2.1) (h : oAt g a ci fs H) (hF : Fr A H0 H locs) (hA : A a) (q : Nat) (hq : q < N) (hl : Cond.fieldLink own idx ref (T q).2.1 (T q).2.2.1 ∈ AL) (hr : (T q).1 = ref) (hfin : (T q).2.2.2 = false) {v : Value} (hn : narrow (ty0 q) v = v) (hfit : fits (ty0 q) v = true) (hlen : q < fs.length) (d : decode cc pc = .ok (.putfield idx, 3))
    (k : ∀ (H1 : Heap) (locs1 : List Loc), oAt g a ci (fs.set q v) H1 → (∀ b : Nat, b ≠ a → H1[b]? = H[b]?) → H1.size = H.size → Fr A H0 H1 locs1 → W p l e R s m args below meth c H1 locs1 cells slots Q (F0 m (pc + 3) ls rest)) : W p l e R s m args below meth c H locs cells slots Q (F0 m pc ls (v :: .ref a :: rest)) := by
  have hK : va_K g.1 vwCl (TYS g) s := C.2.2.2.2.2.2.2
  have hts := C.2.2.2.2.1
  have hinx : ∀ w ∈ u_ws cls T N, w ∈ x :: AL := fun w hw => List.mem_cons_of_mem _ (hin w hw)
  have hap := va_apart (own := own) hts hinx ty0 hty hnm hK hc
  obtain ⟨r, h1, cell, q1, q2, q3, q4⟩ := h
  have hr' : r = (cls, T, N) := Option.some.inj (h1.symm.trans hc)
  subst hr'
  obtain ⟨hS, hfc, kC, hkC, hkind⟩ := hK.1 ci _ hc
  obtain ⟨cf, kf, fi, f, hi, hsl⟩ := hS q hq
  have hlay := hts _ (hinx _ (u_in_lay hq))
  unfold u_lay at hlay
  rw [if_neg (by rw [hfin]; decide)] at hlay
  have hst := (u_facts hfc hkC (u_lays hts hinx hq) hi).1
  have h6 := u_store hfc hkC hkind hlay hi (hty q hq) hn hfit
  refine W.putK C.1 C.2.1 (f := f) ⟨C.2.2.2.1, hts _ (List.mem_cons_of_mem _ hl), ⟨_, _, _, hr ▸ hi⟩, hst⟩ (by rw [q2]; exact h6) q1 q3 (by rw [hsl]; exact k2_hasslot (q4 q hq)) rfl rfl d fun H' e1 e2 e3 => ?_
  rw [hsl] at e1 ⊢
  exact k H' _ ⟨_, hc, t_OB.to (V := updV (vp_V fs) q v) ⟨_, e1, q2, q3, t_set q4 hap hq v⟩ (fun j _ => vp_updV_set hlen v j)⟩ e3 e2 (hF.put e2 e3 hA)
theorem r_iretP (C : Cx p s m args meth c cc nL own ret x g) {v r : Int32} {ty : FieldType} (hret : ret = some ty) (hn : narrow ty (.int v) = .int v) (hv : v = r) (d : decode cc pc = .ok (.ireturn, 1)) : W p l e R s m args below meth c s.heap [] 0 0 (MQ below (PQ (some (.int r))) args s 0 0 (fun _ => False)) (F0 m pc ls [.int v]) := by
  subst hv
  have hl : meth.locks = false := C.2.2.2.2.2.2.1
  exact W.zret (ty := ty) C.1 C.2.1 (C.2.2.2.2.2.1.trans hret) hn (fun t ht _ => ⟨rfl, ht⟩) (fun q hq => by cases hq) d hl
theorem r_iretH (C : Cx p s m args meth c cc nL own ret x g) {v r : Int32} {ty : FieldType} {A : Nat → Prop} {P' : Heap → Prop} (hret : ret = some ty) (hn : narrow ty (.int v) = .int v) (hv : v = r) (hF : Fr A s.heap H locs) (hP : P' H) (d : decode cc pc = .ok (.ireturn, 1)) : W p l e R s m args below meth c H locs cells slots (MQ below (HQ (some (.int r)) A P') args s cells slots A) (F0 m pc ls [.int v]) := by
  subst hv
  have hl : meth.locks = false := C.2.2.2.2.2.2.1
  exact W.zret (ty := ty) C.1 C.2.1 (C.2.2.2.2.2.1.trans hret) hn (fun t ht _ => ⟨rfl, ht ▸ hP, by rw [ht]; exact hF.1, fun q hq => by rw [ht]; exact hF.2.1 q hq⟩) hF.2.2 d hl
theorem r_vretH (C : Cx p s m args meth c cc nL own ret x g) {A : Nat → Prop} {P' : Heap → Prop} (hret : ret = none) (hF : Fr A s.heap H locs) (hP : P' H) (d : decode cc pc = .ok (.return_, 1)) : W p l e R s m args below meth c H locs cells slots (MQ below (HQ none A P') args s cells slots A) (F0 m pc ls []) := by
  have hl : meth.locks = false := C.2.2.2.2.2.2.1
  exact W.vret C.1 C.2.1 (C.2.2.2.2.2.1.trans hret) (fun t ht _ => ⟨rfl, ht ▸ hP, by rw [ht]; exact hF.1, fun q hq => by rw [ht]; exact hF.2.1 q hq⟩) hF.2.2 d hl
theorem cr_P {v : Option Value} {a : Array Value} {j : JFrame} (hr : CallRun p l e R s m args below meth c H locs cells slots 0 0 j rest (PQ v a) (fun _ => False)) (k : W p l e R s m args below meth c H locs cells slots Q { j with pc := j.pc + 3, stack := v.toList ++ rest }) : W p l e R s m args below meth c H locs cells slots Q j := by
  intro T hT X
  obtain ⟨v', st₀, t, T', L, h0, X', hL, e1, ⟨hv, hh⟩, st⟩ := hr T hT X
  cases hv
  obtain ⟨t2, a1, b1⟩ := k T' (by rw [e1, hh, h0]) (Stand.forget X' (fun q h => (hL q h).elim))
  exact ⟨t2, st t2 a1, b1⟩
theorem cr_H {v : Option Value} {a : Array Value} {j : JFrame} {A' : Nat → Prop} {P' : Heap → Prop} (hr : CallRun p l e R s m args below meth c H locs cells slots 0 0 j rest (HQ v A' P' a) A') (k : ∀ (H1 : Heap) (L : List Loc), P' H1 → (∀ q : Nat, ¬ A' q → H1[q]? = H[q]?) → H1.size = H.size → (∀ y ∈ L, A' y.base) → W p l e R s m args below meth c H1 (locs ++ L) cells slots Q { j with pc := j.pc + 3, stack := v.toList ++ rest }) : W p l e R s m args below meth c H locs cells slots Q j := by
  intro T hT X
  obtain ⟨v', st₀, t, T', L, h0, X', hL, e1, ⟨hv, hp, hz, hk⟩, st⟩ := hr T hT X
  cases hv
  subst h0
  obtain ⟨t2, a1, b1⟩ := k t.heap L hp hk hz hL T' e1 X'
  exact ⟨t2, st t2 a1, b1⟩
end ROWS
def SiteV (own : String) (idx : Nat) (C : String) (y : MethodName) (bytes : ByteArray) (maxL : Nat) (ret : Option FieldType) (n : Nat) : Prop :=
  (Cond.methodLink own idx y ∈ AL ∧ Cond.instanceMethod y ∈ AL ∧ Cond.selects C y y ∈ AL ∧ Cond.initialized C ∈ AL ∧ Cond.code y bytes maxL ret ∈ AL) ∧ y.cls = C ∧ (y.cls ≠ "java/lang/invoke/MethodHandle" ∧ y.cls ≠ "java/lang/invoke/VarHandle" ∧ (parseMethodDescriptor y.desc).map (fun d => d.parameters.length) = some n)
def SiteS (own : String) (idx : Nat) (y : MethodName) (bytes : ByteArray) (maxL : Nat) (ret : Option FieldType) (n : Nat) : Prop :=
  (Cond.methodLink own idx y ∈ AL ∧ Cond.static y ∈ AL ∧ Cond.initialized y.cls ∈ AL ∧ Cond.code y bytes maxL ret ∈ AL) ∧ (y.cls ≠ "java/lang/invoke/MethodHandle" ∧ y.cls ≠ "java/lang/invoke/VarHandle" ∧ (parseMethodDescriptor y.desc).map (fun d => d.parameters.length) = some n)
theorem good_ws {x w0 : Cond} (h : w0 ∈ AL) : GoodIn (x :: AL) (w0 :: AL) := fun w hw => by
  rcases List.mem_cons.mp hw with rfl | hw
  · exact ⟨List.mem_cons_of_mem _ h, al_good h⟩
  · exact ⟨List.mem_cons_of_mem _ hw, al_good hw⟩
section CALLS
variable {p : Program} {l : Launch} {e : Env} {R : Room} {s : State} {m : MethodId} {args : Array Value} {below : List Frame} {meth : Method} {c : Code} {H : Heap} {locs : List Loc} {cells slots : Nat} {Q : State → Prop}
variable {cc : ByteArray} {nL : Nat} {own : String} {ret : Option FieldType} {x : Cond} {g : Gt} {pc : Nat} {ls : Array Slot} {rest st : List Value}
variable {y : MethodName} {bytes : ByteArray} {maxL idx n f lo : Nat} {ret' : Option FieldType} {As : List Value} {P : Heap → Prop} {v : Option Value} {A A' : Nat → Prop} {P' : Heap → Prop} {b : Nat} {cls : String} {H0 : Heap}
theorem cw_V (C : Cx p s m args meth c cc nL own ret x g) (S : SiteV own idx cls y bytes maxL ret' n) (hR : f + 1 ≤ R.frames ∧ 8 + (maxL + 11) + lo ≤ R.locals) : CallW R s args own cls idx y bytes maxL ret' (.code y bytes maxL ret' :: AL) (rmc f lo) 0 0 n := by
  have hts := C.2.2.2.2.1
  obtain ⟨⟨h1, h2, h3, h4, h5⟩, h6, h7⟩ := S
  have ok : ∀ w, w ∈ AL → w.before args s = true := fun w hw => hts w (List.mem_cons_of_mem _ hw)
  subst h6
  exact ⟨callB_of n hts (good_ws h5) rfl rfl rfl (ok _ h4) (ok _ h1) h7 hR, ok _ h2, ok _ h3⟩
theorem cw_S (C : Cx p s m args meth c cc nL own ret x g) (S : SiteS own idx y bytes maxL ret' n) (hR : f + 1 ≤ R.frames ∧ 8 + (maxL + 11) + lo ≤ R.locals) : CallB R s args own idx y bytes maxL ret' (.code y bytes maxL ret' :: AL) (rmc f lo) 0 0 n ∧ (Cond.static y).before args s = true := by
  have hts := C.2.2.2.2.1
  obtain ⟨⟨h1, h2, h4, h5⟩, h7⟩ := S
  have ok : ∀ w, w ∈ AL → w.before args s = true := fun w hw => hts w (List.mem_cons_of_mem _ hw)
  exact ⟨callB_of n hts (good_ws h5) rfl rfl rfl (ok _ h4) (ok _ h1) h7 hR, ok _ h2⟩
theorem pcc_blind : FrameBlind (Pcc As P g) := fun a U j mk q => ⟨q.1, q.2.1, va_K.moved (u := U) (U := U.calling j mk a) (Vm.Alike.refl U.vm) q.2.2⟩
theorem pcc_pre (C : Cx p s m args meth c cc nL own ret x g) (hP : P H) : ∀ U : State, U.heap = H → s.WarmedH U.vm → Pcc As P g As.toArray U := fun U hU hW => ⟨rfl, by rw [hU]; exact hP, va_K.moved hW.alike C.2.2.2.2.2.2.2⟩
theorem recv (C : Cx p s m args meth c cc nL own ret x g) {ci : Nat} {fs : List Value} {q : vw_C} (hc : vwCl[ci]? = some q) (h : oAt g b ci fs H) : ∃ cell : Cell, H[b]? = some cell ∧ cell.vm.isStatics = false ∧ s.vm.findClass q.1 = some cell.cls :=
  va_recv (D := g.1) (cl := vwCl) (tys := TYS g) (ws := [(b, .inr (ci, fs))]) (q0 := 0) C.2.2.2.2.2.2.2 (fun k z hk => by cases k with
    | zero => cases hk; exact h
    | succ k => simp at hk) hc rfl
abbrev RM (f lo maxL : Nat) (R : Room) : Prop := f + 1 ≤ R.frames ∧ 8 + (maxL + 11) + lo ≤ R.locals
theorem r_vP (C : Cx p s m args meth c cc nL own ret x g) (hM : CP l y bytes maxL ret' f lo g (.ref b :: As) P v) (S : SiteV own idx cls y bytes maxL ret' n) (hP : P H) (hrec : ∃ cell : Cell, H[b]? = some cell ∧ cell.vm.isStatics = false ∧ s.vm.findClass cls = some cell.cls) (hz : ls.size = nL) (hn : As.length = n) (hR : RM f lo maxL R) (hst : st = As.reverse ++ .ref b :: rest) (hw : (rest.map fun v => v.category).sum ≤ 8) (hf : cells + 0 ≤ R.cells ∧ slots + 0 ≤ R.slots) (d : decode cc pc = .ok (.invokevirtual idx, 3)) (k : W p l e R s m args below meth c H locs cells slots Q (F0 m (pc + 3) ls (v.toList ++ rest))) : W p l e R s m args below meth c H locs cells slots Q (F0 m pc ls st) :=
  cr_P (W.runV (C := cls) (n := n) (rest := rest) ⟨C.1, C.2.1, C.2.2.1, C.2.2.2.1, C.2.2.2.2.1⟩ hM (cw_V C S hR) ⟨pcc_blind, hrec, pcc_pre C hP⟩ rfl hn hz hst (lv_room hw) d hf) k
theorem r_vH (C : Cx p s m args meth c cc nL own ret x g) (hM : CH l y bytes maxL ret' f lo g (.ref b :: As) P v A' P') (S : SiteV own idx cls y bytes maxL ret' n) (hP : P H) (hF : Fr A H0 H locs) (hA : ∀ q, A' q → A q) (hrec : ∃ cell : Cell, H[b]? = some cell ∧ cell.vm.isStatics = false ∧ s.vm.findClass cls = some cell.cls) (hz : ls.size = nL) (hn : As.length = n) (hR : RM f lo maxL R) (hst : st = As.reverse ++ .ref b :: rest) (hw : (rest.map fun v => v.category).sum ≤ 8) (hf : cells + 0 ≤ R.cells ∧ slots + 0 ≤ R.slots) (d : decode cc pc = .ok (.invokevirtual idx, 3)) (k : ∀ (H1 : Heap) (locs1 : List Loc), P' H1 → (∀ q : Nat, ¬ A' q → H1[q]? = H[q]?) → H1.size = H.size → Fr A H0 H1 locs1 → W p l e R s m args below meth c H1 locs1 cells slots Q (F0 m (pc + 3) ls (v.toList ++ rest))) : W p l e R s m args below meth c H locs cells slots Q (F0 m pc ls st) :=
  cr_H (W.runV (C := cls) (n := n) (rest := rest) ⟨C.1, C.2.1, C.2.2.1, C.2.2.2.1, C.2.2.2.2.1⟩ hM (cw_V C S hR) ⟨pcc_blind, hrec, pcc_pre C hP⟩ rfl hn hz hst (lv_room hw) d hf) (fun H1 L h1 h2 h3 h4 => k H1 _ h1 h2 h3 (hF.call hA h3 h2 h4))
theorem r_sP (C : Cx p s m args meth c cc nL own ret x g) (hM : CP l y bytes maxL ret' f lo g As P v) (S : SiteS own idx y bytes maxL ret' n) (hP : P H) (hz : ls.size = nL) (hn : As.length = n) (hR : RM f lo maxL R) (hst : st = As.reverse ++ rest) (hw : (rest.map fun v => v.category).sum ≤ 8) (hf : cells + 0 ≤ R.cells ∧ slots + 0 ≤ R.slots) (d : decode cc pc = .ok (.invokestatic idx, 3)) (k : W p l e R s m args below meth c H locs cells slots Q (F0 m (pc + 3) ls (v.toList ++ rest))) : W p l e R s m args below meth c H locs cells slots Q (F0 m pc ls st) :=
  cr_P (W.runS (n := n) (rest := rest) ⟨C.1, C.2.1, C.2.2.1, C.2.2.2.1, C.2.2.2.2.1⟩ hM (cw_S C S hR) ⟨pcc_blind, pcc_pre C hP⟩ rfl hn hz hst (lv_room hw) d hf) k
theorem r_sH (C : Cx p s m args meth c cc nL own ret x g) (hM : CH l y bytes maxL ret' f lo g As P v A' P') (S : SiteS own idx y bytes maxL ret' n) (hP : P H) (hF : Fr A H0 H locs) (hA : ∀ q, A' q → A q) (hz : ls.size = nL) (hn : As.length = n) (hR : RM f lo maxL R) (hst : st = As.reverse ++ rest) (hw : (rest.map fun v => v.category).sum ≤ 8) (hf : cells + 0 ≤ R.cells ∧ slots + 0 ≤ R.slots) (d : decode cc pc = .ok (.invokestatic idx, 3)) (k : ∀ (H1 : Heap) (locs1 : List Loc), P' H1 → (∀ q : Nat, ¬ A' q → H1[q]? = H[q]?) → H1.size = H.size → Fr A H0 H1 locs1 → W p l e R s m args below meth c H1 locs1 cells slots Q (F0 m (pc + 3) ls (v.toList ++ rest))) : W p l e R s m args below meth c H locs cells slots Q (F0 m pc ls st) :=
  cr_H (W.runS (n := n) (rest := rest) ⟨C.1, C.2.1, C.2.2.1, C.2.2.2.1, C.2.2.2.2.1⟩ hM (cw_S C S hR) ⟨pcc_blind, pcc_pre C hP⟩ rfl hn hz hst (lv_room hw) d hf) (fun H1 L h1 h2 h3 h4 => k H1 _ h1 h2 h3 (hF.call hA h3 h2 h4))
theorem r_vPi {r : Int32} (C : Cx p s m args meth c cc nL own ret x g) (hM : CP l y bytes maxL ret' f lo g (.ref b :: As) P (some (.int r))) (S : SiteV own idx cls y bytes maxL ret' n) (hP : P H) (hrec : ∃ cell : Cell, H[b]? = some cell ∧ cell.vm.isStatics = false ∧ s.vm.findClass cls = some cell.cls) (hz : ls.size = nL) (hn : As.length = n) (hR : RM f lo maxL R) (hst : st = As.reverse ++ .ref b :: rest) (hw : (rest.map fun v => v.category).sum ≤ 8) (hf : cells + 0 ≤ R.cells ∧ slots + 0 ≤ R.slots) (d : decode cc pc = .ok (.invokevirtual idx, 3)) (k : W p l e R s m args below meth c H locs cells slots Q (F0 m (pc + 3) ls (.int r :: rest))) : W p l e R s m args below meth c H locs cells slots Q (F0 m pc ls st) := r_vP C hM S hP hrec hz hn hR hst hw hf d k
theorem r_vPl {r : Int64} (C : Cx p s m args meth c cc nL own ret x g) (hM : CP l y bytes maxL ret' f lo g (.ref b :: As) P (some (.long r))) (S : SiteV own idx cls y bytes maxL ret' n) (hP : P H) (hrec : ∃ cell : Cell, H[b]? = some cell ∧ cell.vm.isStatics = false ∧ s.vm.findClass cls = some cell.cls) (hz : ls.size = nL) (hn : As.length = n) (hR : RM f lo maxL R) (hst : st = As.reverse ++ .ref b :: rest) (hw : (rest.map fun v => v.category).sum ≤ 8) (hf : cells + 0 ≤ R.cells ∧ slots + 0 ≤ R.slots) (d : decode cc pc = .ok (.invokevirtual idx, 3)) (k : W p l e R s m args below meth c H locs cells slots Q (F0 m (pc + 3) ls (.long r :: rest))) : W p l e R s m args below meth c H locs cells slots Q (F0 m pc ls st) := r_vP C hM S hP hrec hz hn hR hst hw hf d k
theorem r_vPr {r : Nat} (C : Cx p s m args meth c cc nL own ret x g) (hM : CP l y bytes maxL ret' f lo g (.ref b :: As) P (some (.ref r))) (S : SiteV own idx cls y bytes maxL ret' n) (hP : P H) (hrec : ∃ cell : Cell, H[b]? = some cell ∧ cell.vm.isStatics = false ∧ s.vm.findClass cls = some cell.cls) (hz : ls.size = nL) (hn : As.length = n) (hR : RM f lo maxL R) (hst : st = As.reverse ++ .ref b :: rest) (hw : (rest.map fun v => v.category).sum ≤ 8) (hf : cells + 0 ≤ R.cells ∧ slots + 0 ≤ R.slots) (d : decode cc pc = .ok (.invokevirtual idx, 3)) (k : W p l e R s m args below meth c H locs cells slots Q (F0 m (pc + 3) ls (.ref r :: rest))) : W p l e R s m args below meth c H locs cells slots Q (F0 m pc ls st) := r_vP C hM S hP hrec hz hn hR hst hw hf d k
theorem r_vPn (C : Cx p s m args meth c cc nL own ret x g) (hM : CP l y bytes maxL ret' f lo g (.ref b :: As) P none) (S : SiteV own idx cls y bytes maxL ret' n) (hP : P H) (hrec : ∃ cell : Cell, H[b]? = some cell ∧ cell.vm.isStatics = false ∧ s.vm.findClass cls = some cell.cls) (hz : ls.size = nL) (hn : As.length = n) (hR : RM f lo maxL R) (hst : st = As.reverse ++ .ref b :: rest) (hw : (rest.map fun v => v.category).sum ≤ 8) (hf : cells + 0 ≤ R.cells ∧ slots + 0 ≤ R.slots) (d : decode cc pc = .ok (.invokevirtual idx, 3)) (k : W p l e R s m args below meth c H locs cells slots Q (F0 m (pc + 3) ls rest)) : W p l e R s m args below meth c H locs cells slots Q (F0 m pc ls st) := r_vP C hM S hP hrec hz hn hR hst hw hf d k
theorem r_vHi {r : Int32} (C : Cx p s m args meth c cc nL own ret x g) (hM : CH l y bytes maxL ret' f lo g (.ref b :: As) P (some (.int r)) A' P') (S : SiteV own idx cls y bytes maxL ret' n) (hP : P H) (hF : Fr A H0 H locs) (hA : ∀ q, A' q → A q) (hrec : ∃ cell : Cell, H[b]? = some cell ∧ cell.vm.isStatics = false ∧ s.vm.findClass cls = some cell.cls) (hz : ls.size = nL) (hn : As.length = n) (hR : RM f lo maxL R) (hst : st = As.reverse ++ .ref b :: rest) (hw : (rest.map fun v => v.category).sum ≤ 8) (hf : cells + 0 ≤ R.cells ∧ slots + 0 ≤ R.slots) (d : decode cc pc = .ok (.invokevirtual idx, 3)) (k : ∀ (H1 : Heap) (locs1 : List Loc), P' H1 → (∀ q : Nat, ¬ A' q → H1[q]? = H[q]?) → H1.size = H.size → Fr A H0 H1 locs1 → W p l e R s m args below meth c H1 locs1 cells slots Q (F0 m (pc + 3) ls (.int r :: rest))) : W p l e R s m args below meth c H locs cells slots Q (F0 m pc ls st) := r_vH C hM S hP hF hA hrec hz hn hR hst hw hf d k
theorem r_vHl {r : Int64} (C : Cx p s m args meth c cc nL own ret x g) (hM : CH l y bytes maxL ret' f lo g (.ref b :: As) P (some (.long r)) A' P') (S : SiteV own idx cls y bytes maxL ret' n) (hP : P H) (hF : Fr A H0 H locs) (hA : ∀ q, A' q → A q) (hrec : ∃ cell : Cell, H[b]? = some cell ∧ cell.vm.isStatics = false ∧ s.vm.findClass cls = some cell.cls) (hz : ls.size = nL) (hn : As.length = n) (hR : RM f lo maxL R) (hst : st = As.reverse ++ .ref b :: rest) (hw : (rest.map fun v => v.category).sum ≤ 8) (hf : cells + 0 ≤ R.cells ∧ slots + 0 ≤ R.slots) (d : decode cc pc = .ok (.invokevirtual idx, 3)) (k : ∀ (H1 : Heap) (locs1 : List Loc), P' H1 → (∀ q : Nat, ¬ A' q → H1[q]? = H[q]?) → H1.size = H.size → Fr A H0 H1 locs1 → W p l e R s m args below meth c H1 locs1 cells slots Q (F0 m (pc + 3) ls (.long r :: rest))) : W p l e R s m args below meth c H locs cells slots Q (F0 m pc ls st) := r_vH C hM S hP hF hA hrec hz hn hR hst hw hf d k
theorem r_vHr {r : Nat} (C : Cx p s m args meth c cc nL own ret x g) (hM : CH l y bytes maxL ret' f lo g (.ref b :: As) P (some (.ref r)) A' P') (S : SiteV own idx cls y bytes maxL ret' n) (hP : P H) (hF : Fr A H0 H locs) (hA : ∀ q, A' q → A q) (hrec : ∃ cell : Cell, H[b]? = some cell ∧ cell.vm.isStatics = false ∧ s.vm.findClass cls = some cell.cls) (hz : ls.size = nL) (hn : As.length = n) (hR : RM f lo maxL R) (hst : st = As.reverse ++ .ref b :: rest) (hw : (rest.map fun v => v.category).sum ≤ 8) (hf : cells + 0 ≤ R.cells ∧ slots + 0 ≤ R.slots) (d : decode cc pc = .ok (.invokevirtual idx, 3)) (k : ∀ (H1 : Heap) (locs1 : List Loc), P' H1 → (∀ q : Nat, ¬ A' q → H1[q]? = H[q]?) → H1.size = H.size → Fr A H0 H1 locs1 → W p l e R s m args below meth c H1 locs1 cells slots Q (F0 m (pc + 3) ls (.ref r :: rest))) : W p l e R s m args below meth c H locs cells slots Q (F0 m pc ls st) := r_vH C hM S hP hF hA hrec hz hn hR hst hw hf d k
theorem r_vHn (C : Cx p s m args meth c cc nL own ret x g) (hM : CH l y bytes maxL ret' f lo g (.ref b :: As) P none A' P') (S : SiteV own idx cls y bytes maxL ret' n) (hP : P H) (hF : Fr A H0 H locs) (hA : ∀ q, A' q → A q) (hrec : ∃ cell : Cell, H[b]? = some cell ∧ cell.vm.isStatics = false ∧ s.vm.findClass cls = some cell.cls) (hz : ls.size = nL) (hn : As.length = n) (hR : RM f lo maxL R) (hst : st = As.reverse ++ .ref b :: rest) (hw : (rest.map fun v => v.category).sum ≤ 8) (hf : cells + 0 ≤ R.cells ∧ slots + 0 ≤ R.slots) (d : decode cc pc = .ok (.invokevirtual idx, 3)) (k : ∀ (H1 : Heap) (locs1 : List Loc), P' H1 → (∀ q : Nat, ¬ A' q → H1[q]? = H[q]?) → H1.size = H.size → Fr A H0 H1 locs1 → W p l e R s m args below meth c H1 locs1 cells slots Q (F0 m (pc + 3) ls rest)) : W p l e R s m args below meth c H locs cells slots Q (F0 m pc ls st) := r_vH C hM S hP hF hA hrec hz hn hR hst hw hf d k
theorem r_sPi {r : Int32} (C : Cx p s m args meth c cc nL own ret x g) (hM : CP l y bytes maxL ret' f lo g As P (some (.int r))) (S : SiteS own idx y bytes maxL ret' n) (hP : P H) (hz : ls.size = nL) (hn : As.length = n) (hR : RM f lo maxL R) (hst : st = As.reverse ++ rest) (hw : (rest.map fun v => v.category).sum ≤ 8) (hf : cells + 0 ≤ R.cells ∧ slots + 0 ≤ R.slots) (d : decode cc pc = .ok (.invokestatic idx, 3)) (k : W p l e R s m args below meth c H locs cells slots Q (F0 m (pc + 3) ls (.int r :: rest))) : W p l e R s m args below meth c H locs cells slots Q (F0 m pc ls st) := r_sP C hM S hP hz hn hR hst hw hf d k
theorem r_sPl {r : Int64} (C : Cx p s m args meth c cc nL own ret x g) (hM : CP l y bytes maxL ret' f lo g As P (some (.long r))) (S : SiteS own idx y bytes maxL ret' n) (hP : P H) (hz : ls.size = nL) (hn : As.length = n) (hR : RM f lo maxL R) (hst : st = As.reverse ++ rest) (hw : (rest.map fun v => v.category).sum ≤ 8) (hf : cells + 0 ≤ R.cells ∧ slots + 0 ≤ R.slots) (d : decode cc pc = .ok (.invokestatic idx, 3)) (k : W p l e R s m args below meth c H locs cells slots Q (F0 m (pc + 3) ls (.long r :: rest))) : W p l e R s m args below meth c H locs cells slots Q (F0 m pc ls st) := r_sP C hM S hP hz hn hR hst hw hf d k
theorem r_sPr {r : Nat} (C : Cx p s m args meth c cc nL own ret x g) (hM : CP l y bytes maxL ret' f lo g As P (some (.ref r))) (S : SiteS own idx y bytes maxL ret' n) (hP : P H) (hz : ls.size = nL) (hn : As.length = n) (hR : RM f lo maxL R) (hst : st = As.reverse ++ rest) (hw : (rest.map fun v => v.category).sum ≤ 8) (hf : cells + 0 ≤ R.cells ∧ slots + 0 ≤ R.slots) (d : decode cc pc = .ok (.invokestatic idx, 3)) (k : W p l e R s m args below meth c H locs cells slots Q (F0 m (pc + 3) ls (.ref r :: rest))) : W p l e R s m args below meth c H locs cells slots Q (F0 m pc ls st) := r_sP C hM S hP hz hn hR hst hw hf d k
theorem r_sPn (C : Cx p s m args meth c cc nL own ret x g) (hM : CP l y bytes maxL ret' f lo g As P none) (S : SiteS own idx y bytes maxL ret' n) (hP : P H) (hz : ls.size = nL) (hn : As.length = n) (hR : RM f lo maxL R) (hst : st = As.reverse ++ rest) (hw : (rest.map fun v => v.category).sum ≤ 8) (hf : cells + 0 ≤ R.cells ∧ slots + 0 ≤ R.slots) (d : decode cc pc = .ok (.invokestatic idx, 3)) (k : W p l e R s m args below meth c H locs cells slots Q (F0 m (pc + 3) ls rest)) : W p l e R s m args below meth c H locs cells slots Q (F0 m pc ls st) := r_sP C hM S hP hz hn hR hst hw hf d k
theorem r_sHi {r : Int32} (C : Cx p s m args meth c cc nL own ret x g) (hM : CH l y bytes maxL ret' f lo g As P (some (.int r)) A' P') (S : SiteS own idx y bytes maxL ret' n) (hP : P H) (hF : Fr A H0 H locs) (hA : ∀ q, A' q → A q) (hz : ls.size = nL) (hn : As.length = n) (hR : RM f lo maxL R) (hst : st = As.reverse ++ rest) (hw : (rest.map fun v => v.category).sum ≤ 8) (hf : cells + 0 ≤ R.cells ∧ slots + 0 ≤ R.slots) (d : decode cc pc = .ok (.invokestatic idx, 3)) (k : ∀ (H1 : Heap) (locs1 : List Loc), P' H1 → (∀ q : Nat, ¬ A' q → H1[q]? = H[q]?) → H1.size = H.size → Fr A H0 H1 locs1 → W p l e R s m args below meth c H1 locs1 cells slots Q (F0 m (pc + 3) ls (.int r :: rest))) : W p l e R s m args below meth c H locs cells slots Q (F0 m pc ls st) := r_sH C hM S hP hF hA hz hn hR hst hw hf d k
theorem r_sHl {r : Int64} (C : Cx p s m args meth c cc nL own ret x g) (hM : CH l y bytes maxL ret' f lo g As P (some (.long r)) A' P') (S : SiteS own idx y bytes maxL ret' n) (hP : P H) (hF : Fr A H0 H locs) (hA : ∀ q, A' q → A q) (hz : ls.size = nL) (hn : As.length = n) (hR : RM f lo maxL R) (hst : st = As.reverse ++ rest) (hw : (rest.map fun v => v.category).sum ≤ 8) (hf : cells + 0 ≤ R.cells ∧ slots + 0 ≤ R.slots) (d : decode cc pc = .ok (.invokestatic idx, 3)) (k : ∀ (H1 : Heap) (locs1 : List Loc), P' H1 → (∀ q : Nat, ¬ A' q → H1[q]? = H[q]?) → H1.size = H.size → Fr A H0 H1 locs1 → W p l e R s m args below meth c H1 locs1 cells slots Q (F0 m (pc + 3) ls (.long r :: rest))) : W p l e R s m args below meth c H locs cells slots Q (F0 m pc ls st) := r_sH C hM S hP hF hA hz hn hR hst hw hf d k
theorem r_sHr {r : Nat} (C : Cx p s m args meth c cc nL own ret x g) (hM : CH l y bytes maxL ret' f lo g As P (some (.ref r)) A' P') (S : SiteS own idx y bytes maxL ret' n) (hP : P H) (hF : Fr A H0 H locs) (hA : ∀ q, A' q → A q) (hz : ls.size = nL) (hn : As.length = n) (hR : RM f lo maxL R) (hst : st = As.reverse ++ rest) (hw : (rest.map fun v => v.category).sum ≤ 8) (hf : cells + 0 ≤ R.cells ∧ slots + 0 ≤ R.slots) (d : decode cc pc = .ok (.invokestatic idx, 3)) (k : ∀ (H1 : Heap) (locs1 : List Loc), P' H1 → (∀ q : Nat, ¬ A' q → H1[q]? = H[q]?) → H1.size = H.size → Fr A H0 H1 locs1 → W p l e R s m args below meth c H1 locs1 cells slots Q (F0 m (pc + 3) ls (.ref r :: rest))) : W p l e R s m args below meth c H locs cells slots Q (F0 m pc ls st) := r_sH C hM S hP hF hA hz hn hR hst hw hf d k
theorem r_sHn (C : Cx p s m args meth c cc nL own ret x g) (hM : CH l y bytes maxL ret' f lo g As P none A' P') (S : SiteS own idx y bytes maxL ret' n) (hP : P H) (hF : Fr A H0 H locs) (hA : ∀ q, A' q → A q) (hz : ls.size = nL) (hn : As.length = n) (hR : RM f lo maxL R) (hst : st = As.reverse ++ rest) (hw : (rest.map fun v => v.category).sum ≤ 8) (hf : cells + 0 ≤ R.cells ∧ slots + 0 ≤ R.slots) (d : decode cc pc = .ok (.invokestatic idx, 3)) (k : ∀ (H1 : Heap) (locs1 : List Loc), P' H1 → (∀ q : Nat, ¬ A' q → H1[q]? = H[q]?) → H1.size = H.size → Fr A H0 H1 locs1 → W p l e R s m args below meth c H1 locs1 cells slots Q (F0 m (pc + 3) ls rest)) : W p l e R s m args below meth c H locs cells slots Q (F0 m pc ls st) := r_sH C hM S hP hF hA hz hn hR hst hw hf d k
theorem nar_pI (P : Prop) [Decidable P] : narrow .boolean (.int (iI (pI P))) = .int (iI (pI P)) := by
  unfold pI
  split <;> rfl
end CALLS
end
section
/-! ===== a device: 20 cells from d on, and the numbers F that they hold: F 0 spaces, F 1 clock, F (2 + 52 * s + k) of space s ===== -/
def dvo (k : Nat) : Nat := if k < 4 then k + 1 else k + 13
def dvfs (d : Nat) (F : Nat → Int) : List Value := [.int (iI (F 0)), .int (iI (F 1)), .ref (d + 1), .ref (d + 2), .ref (d + 3), .ref (d + 4), .ref (d + 5), .ref (d + 11), .ref (d + 17), .ref (d + 18), .ref (d + 19)]
def dvAt (g : Gt) (d : Nat) (F : Nat → Int) (H : Heap) : Prop :=
  oAt g d 0 (dvfs d F) H ∧ (∀ k, k < 7 → aAt g (d + dvo k) 5 (fun s => F (2 + 52 * s + k)) H) ∧ rAt g (d + 5) 5 (fun s => some (d + 6 + s)) H ∧ (∀ s, s < 5 → aAt g (d + 6 + s) 5 (fun l => F (2 + 52 * s + (7 + l))) H) ∧ rAt g (d + 11) 5 (fun s => some (d + 12 + s)) H ∧ ∀ s, s < 5 → aAt g (d + 12 + s) 40 (fun p => F (2 + 52 * s + (12 + p))) H
def Dvp (d q : Nat) : Prop := d ≤ q ∧ q < d + 20
theorem not_dvp {d q : Nat} (h : q < d ∨ d + 20 ≤ q) : ¬ Dvp d q := fun ⟨h1, h2⟩ => by omega
theorem is_dvp {d q : Nat} (h : d ≤ q ∧ q < d + 20) : Dvp d q := h
theorem dvo_lt {k : Nat} (h : k < 7) : 1 ≤ dvo k ∧ dvo k < 20 ∧ (dvo k < 5 ∨ 16 < dvo k) := by unfold dvo; split <;> omega
theorem dvo_inj {k j : Nat} (hk : k < 7) (hj : j < 7) (h : dvo k = dvo j) : k = j := by unfold dvo at h; split at h <;> split at h <;> omega
section DEV
variable {g : Gt} {d : Nat} {F : Nat → Int} {H H1 : Heap}
theorem dvAt.o (h : dvAt g d F H) : oAt g d 0 (dvfs d F) H := h.1
theorem dvAt.c0 (h : dvAt g d F H) : aAt g (d + 1) 5 (fun s => F (2 + 52 * s + 0)) H := h.2.1 0 (by decide)
theorem dvAt.c1 (h : dvAt g d F H) : aAt g (d + 2) 5 (fun s => F (2 + 52 * s + 1)) H := h.2.1 1 (by decide)
theorem dvAt.c2 (h : dvAt g d F H) : aAt g (d + 3) 5 (fun s => F (2 + 52 * s + 2)) H := h.2.1 2 (by decide)
theorem dvAt.c3 (h : dvAt g d F H) : aAt g (d + 4) 5 (fun s => F (2 + 52 * s + 3)) H := h.2.1 3 (by decide)
theorem dvAt.c4 (h : dvAt g d F H) : aAt g (d + 17) 5 (fun s => F (2 + 52 * s + 4)) H := h.2.1 4 (by decide)
theorem dvAt.c5 (h : dvAt g d F H) : aAt g (d + 18) 5 (fun s => F (2 + 52 * s + 5)) H := h.2.1 5 (by decide)
theorem dvAt.c6 (h : dvAt g d F H) : aAt g (d + 19) 5 (fun s => F (2 + 52 * s + 6)) H := h.2.1 6 (by decide)
theorem dvAt.rl (h : dvAt g d F H) : rAt g (d + 5) 5 (fun s => some (d + 6 + s)) H := h.2.2.1
theorem dvAt.l (h : dvAt g d F H) (s : Nat) (hs : s < 5) : aAt g (d + 6 + s) 5 (fun l => F (2 + 52 * s + (7 + l))) H := h.2.2.2.1 s hs
theorem dvAt.rw (h : dvAt g d F H) : rAt g (d + 11) 5 (fun s => some (d + 12 + s)) H := h.2.2.2.2.1
theorem dvAt.w (h : dvAt g d F H) (s : Nat) (hs : s < 5) : aAt g (d + 12 + s) 40 (fun p => F (2 + 52 * s + (12 + p))) H := h.2.2.2.2.2 s hs
theorem dvAt.kept (h : dvAt g d F H) (hq : ∀ q : Nat, d ≤ q → q < d + 20 → H1[q]? = H[q]?) : dvAt g d F H1 := by
  obtain ⟨h1, h2, h3, h4, h5, h6⟩ := h
  refine ⟨h1.kept (hq _ (by omega) (by omega)), fun k hk => (h2 k hk).kept (hq _ (by omega) (by have := dvo_lt hk; omega)), h3.kept (hq _ (by omega) (by omega)), fun s hs => (h4 s hs).kept (hq _ (by omega) (by omega)), h5.kept (hq _ (by omega) (by omega)), fun s hs => (h6 s hs).kept (hq _ (by omega) (by omega))⟩
theorem dvfs_cg {F' : Nat → Int} (h0 : F 0 = F' 0) (h1 : F 1 = F' 1) : dvfs d F = dvfs d F' := by unfold dvfs; rw [h0, h1]
theorem dvAt.cg {F' : Nat → Int} (h : dvAt g d F H) (hf : ∀ k, k < 262 → F k = F' k) : dvAt g d F' H := by
  obtain ⟨h1, h2, h3, h4, h5, h6⟩ := h
  refine ⟨by rw [← dvfs_cg (hf 0 (by omega)) (hf 1 (by omega))]; exact h1, fun k hk => (h2 k hk).cg (fun s hs => hf _ (by omega)), h3, fun s hs => (h4 s hs).cg (fun l hl => hf _ (by omega)), h5, fun s hs => (h6 s hs).cg (fun p hp => hf _ (by omega))⟩
theorem dvAt.putc (h : dvAt g d F H) (k s : Nat) (hk : k < 7) {x : Int} (h1 : aAt g (d + dvo k) 5 (up (fun s => F (2 + 52 * s + k)) s x) H1) (ho : ∀ b : Nat, b ≠ d + dvo k → H1[b]? = H[b]?) : dvAt g d (up F (2 + 52 * s + k) x) H1 := by
  obtain ⟨g1, g2, g3, g4, g5, g6⟩ := h
  have hk' := dvo_lt hk
  refine ⟨by rw [dvfs_cg (up_n F x (by omega)) (up_n F x (by omega))]; exact g1.kept (ho _ (by omega)), fun j hj => ?_, g3.kept (ho _ (by omega)), fun s' hs' => ((g4 s' hs').kept (ho _ (by omega))).cg (fun l hl => (up_n F x (by omega)).symm), g5.kept (ho _ (by omega)), fun s' hs' => ((g6 s' hs').kept (ho _ (by omega))).cg (fun p hp => (up_n F x (by omega)).symm)⟩
  by_cases hjk : j = k
  · subst hjk
    refine h1.cg (fun s' hs' => ?_)
    by_cases e : s' = s
    · subst e
      rw [up_s, up_s]
    · rw [up_n _ _ e, up_n _ _ (by omega)]
  · have hj' := dvo_lt hj
    have hne : dvo j ≠ dvo k := fun e => hjk (dvo_inj hj hk e)
    exact ((g2 j hj).kept (ho _ (by omega))).cg (fun s' hs' => (up_n F x (by omega)).symm)
theorem dvAt.putl (h : dvAt g d F H) (s l : Nat) (hs : s < 5) (hl : l < 5) {x : Int} (h1 : aAt g (d + 6 + s) 5 (up (fun l => F (2 + 52 * s + (7 + l))) l x) H1) (ho : ∀ b : Nat, b ≠ d + 6 + s → H1[b]? = H[b]?) : dvAt g d (up F (2 + 52 * s + (7 + l)) x) H1 := by
  obtain ⟨g1, g2, g3, g4, g5, g6⟩ := h
  refine ⟨by rw [dvfs_cg (up_n F x (by omega)) (up_n F x (by omega))]; exact g1.kept (ho _ (by omega)), fun j hj => ((g2 j hj).kept (ho _ (by have := dvo_lt hj; omega))).cg (fun s' hs' => (up_n F x (by omega)).symm), g3.kept (ho _ (by omega)), fun s' hs' => ?_, g5.kept (ho _ (by omega)), fun s' hs' => ((g6 s' hs').kept (ho _ (by omega))).cg (fun p hp => (up_n F x (by omega)).symm)⟩
  by_cases e : s' = s
  · subst e
    refine h1.cg (fun l' hl' => ?_)
    by_cases e : l' = l
    · subst e
      rw [up_s, up_s]
    · rw [up_n _ _ e, up_n _ _ (by omega)]
  · exact ((g4 s' hs').kept (ho _ (by omega))).cg (fun l' hl' => (up_n F x (by omega)).symm)
theorem dvAt.putw (h : dvAt g d F H) (s p : Nat) (hs : s < 5) (hp : p < 40) {x : Int} (h1 : aAt g (d + 12 + s) 40 (up (fun p => F (2 + 52 * s + (12 + p))) p x) H1) (ho : ∀ b : Nat, b ≠ d + 12 + s → H1[b]? = H[b]?) : dvAt g d (up F (2 + 52 * s + (12 + p)) x) H1 := by
  obtain ⟨g1, g2, g3, g4, g5, g6⟩ := h
  refine ⟨by rw [dvfs_cg (up_n F x (by omega)) (up_n F x (by omega))]; exact g1.kept (ho _ (by omega)), fun j hj => ((g2 j hj).kept (ho _ (by have := dvo_lt hj; omega))).cg (fun s' hs' => (up_n F x (by omega)).symm), g3.kept (ho _ (by omega)), fun s' hs' => ((g4 s' hs').kept (ho _ (by omega))).cg (fun l hl => (up_n F x (by omega)).symm), g5.kept (ho _ (by omega)), fun s' hs' => ?_⟩
  by_cases e : s' = s
  · subst e
    refine h1.cg (fun p' hp' => ?_)
    by_cases e : p' = p
    · subst e
      rw [up_s, up_s]
    · rw [up_n _ _ e, up_n _ _ (by omega)]
  · exact ((g6 s' hs').kept (ho _ (by omega))).cg (fun p' hp' => (up_n F x (by omega)).symm)
theorem dvAt.put0 (h : dvAt g d F H) {x : Int} (h1 : oAt g d 0 ((dvfs d F).set 0 (.int (iI x))) H1) (ho : ∀ b : Nat, b ≠ d → H1[b]? = H[b]?) : dvAt g d (up F 0 x) H1 := by
  obtain ⟨g1, g2, g3, g4, g5, g6⟩ := h
  refine ⟨?_, fun j hj => ((g2 j hj).kept (ho _ (by have := dvo_lt hj; omega))).cg (fun s' hs' => (up_n F x (by omega)).symm), g3.kept (ho _ (by omega)), fun s' hs' => ((g4 s' hs').kept (ho _ (by omega))).cg (fun l hl => (up_n F x (by omega)).symm), g5.kept (ho _ (by omega)), fun s' hs' => ((g6 s' hs').kept (ho _ (by omega))).cg (fun p hp => (up_n F x (by omega)).symm)⟩
  have e : (dvfs d F).set 0 (.int (iI x)) = dvfs d (up F 0 x) := by
    unfold dvfs
    rw [up_s, up_n F x (by omega)]
    rfl
  exact e ▸ h1
theorem dvAt.put1 (h : dvAt g d F H) {x : Int} (h1 : oAt g d 0 ((dvfs d F).set 1 (.int (iI x))) H1) (ho : ∀ b : Nat, b ≠ d → H1[b]? = H[b]?) : dvAt g d (up F 1 x) H1 := by
  obtain ⟨g1, g2, g3, g4, g5, g6⟩ := h
  refine ⟨?_, fun j hj => ((g2 j hj).kept (ho _ (by have := dvo_lt hj; omega))).cg (fun s' hs' => (up_n F x (by omega)).symm), g3.kept (ho _ (by omega)), fun s' hs' => ((g4 s' hs').kept (ho _ (by omega))).cg (fun l hl => (up_n F x (by omega)).symm), g5.kept (ho _ (by omega)), fun s' hs' => ((g6 s' hs').kept (ho _ (by omega))).cg (fun p hp => (up_n F x (by omega)).symm)⟩
  have e : (dvfs d F).set 1 (.int (iI x)) = dvfs d (up F 1 x) := by
    unfold dvfs
    rw [up_s, up_n F x (by omega)]
    rfl
  exact e ▸ h1
end DEV
end
section
/-! ===== what the numbers of a device tell: F 0 the spaces, F 1 the clock, of space s at 2 + 52 * s: 0 floor, 1 ceiling, 2 own, 3 common, 4 recalls, 5 lost, 6 refused, 7 + l the loans from l, 12 + p the time of page p ===== -/
def sumI (f : Nat → Int) : Nat → Int
  | 0 => 0
  | n + 1 => sumI f n + f n
def S5 (F : Nat → Int) (k : Nat) : Int := sumI (fun s => F (2 + 52 * s + k)) 5
def borr (F : Nat → Int) (s : Nat) : Int := sumI (fun l => F (2 + 52 * s + (7 + l))) 5
def tk (F : Nat → Int) (s : Nat) : Int := F (2 + 52 * s + 2) + F (2 + 52 * s + 3) + borr F s
def idle (F : Nat → Int) (s : Nat) : Int := F (2 + 52 * s + 0) - F (2 + 52 * s + 2) - S5 F (7 + s)
def free (F : Nat → Int) : Int := 60 - S5 F 0 - S5 F 3
def tkA (F : Nat → Int) : Int := sumI (tk F) 5
def borrA (F : Nat → Int) : Int := sumI (borr F) 5
def Sm (F : Nat → Int) : Prop := (∀ k, k < 262 → 0 ≤ F k ∧ F k ≤ 1000000) ∧ F 0 ≤ 5
def Zr (F : Nat → Int) : Prop := ∀ s k : Nat, F 0 ≤ (s : Int) → s < 5 → k < 52 → F (2 + 52 * s + k) = 0
/-- the space, but for two, whose floor is idle by most -/
def lnd (F : Nat → Int) (x y : Nat) : Nat → Int
  | 0 => -1
  | i + 1 => if i ≠ x ∧ i ≠ y ∧ 0 < idle F i ∧ (lnd F x y i = -1 ∨ idle F (lnd F x y i).toNat < idle F i) then (i : Int) else lnd F x y i
def lender (F : Nat → Int) (x y : Nat) : Int := lnd F x y (F 0).toNat
/-- the page of the least time above t -/
def oa (F : Nat → Int) (s : Nat) (t : Int) : Nat → Int
  | 0 => -1
  | p + 1 => if t < F (2 + 52 * s + (12 + p)) ∧ (oa F s t p = -1 ∨ F (2 + 52 * s + (12 + p)) < F (2 + 52 * s + (12 + (oa F s t p).toNat))) then (p : Int) else oa F s t p
/-- the space that has most loans of l -/
def mo (F : Nat → Int) (l : Nat) : Nat → Nat
  | 0 => 0
  | i + 1 => if F (2 + 52 * mo F l i + (7 + l)) < F (2 + 52 * i + (7 + l)) then i else mo F l i
def gb (F : Nat → Int) (l : Nat) : Nat → Int
  | 0 => -1
  | i + 1 => if (if gb F l i = -1 then 0 else F (2 + 52 * (gb F l i).toNat + (7 + l))) < F (2 + 52 * i + (7 + l)) then (i : Int) else gb F l i
/-- the one from which s has most loans -/
def mf (F : Nat → Int) (s : Nat) : Nat → Nat
  | 0 => 0
  | i + 1 => if F (2 + 52 * s + (7 + mf F s i)) < F (2 + 52 * s + (7 + i)) then i else mf F s i
def gl (F : Nat → Int) (s : Nat) : Nat → Int
  | 0 => -1
  | i + 1 => if (if gl F s i = -1 then 0 else F (2 + 52 * s + (7 + (gl F s i).toNat))) < F (2 + 52 * s + (7 + i)) then (i : Int) else gl F s i
/-- the page that is the i-th by its time -/
def pba (F : Nat → Int) (s : Nat) : Nat → Int
  | 0 => oa F s 0 40
  | k + 1 => if pba F s k = -1 then -1 else oa F s (F (2 + 52 * s + (12 + (pba F s k).toNat))) 40
theorem sumI_cg {f f' : Nat → Int} : ∀ {n : Nat}, (∀ k, k < n → f k = f' k) → sumI f n = sumI f' n
  | 0, _ => rfl
  | n + 1, h => by rw [sumI, sumI, sumI_cg (fun k hk => h k (by omega)), h n (by omega)]
theorem sumI_b {f : Nat → Int} {M : Int} : ∀ {n : Nat}, (∀ k, k < n → 0 ≤ f k ∧ f k ≤ M) → 0 ≤ sumI f n ∧ sumI f n ≤ n * M
  | 0, _ => by simp [sumI]
  | n + 1, h => by
    have h1 := sumI_b (f := f) (n := n) (fun k hk => h k (by omega))
    have h2 := h n (by omega)
    have e : ((n + 1 : Nat) : Int) * M = (n : Int) * M + M := by rw [Int.natCast_add, Int.add_mul]; simp
    rw [sumI, e]
    omega
theorem sumI_5 (f : Nat → Int) : sumI f 5 = f 0 + f 1 + f 2 + f 3 + f 4 := by simp [sumI]
theorem sumI_z {f : Nat → Int} {n : Nat} : ∀ {k : Nat}, (∀ j, n ≤ j → j < n + k → f j = 0) → sumI f (n + k) = sumI f n
  | 0, _ => rfl
  | k + 1, h => by
    show sumI f (n + k) + f (n + k) = _
    rw [sumI_z (fun j h1 h2 => h j h1 (by omega)), h (n + k) (by omega) (by omega)]
    omega
theorem sumI_n5 {f : Nat → Int} {n : Nat} (hn : n ≤ 5) (h : ∀ j, n ≤ j → j < 5 → f j = 0) : sumI f n = sumI f 5 := by
  have := sumI_z (f := f) (n := n) (k := 5 - n) (fun j h1 h2 => h j h1 (by omega))
  rw [show n + (5 - n) = 5 by omega] at this
  exact this.symm
section SPEC
variable {F : Nat → Int}
theorem Sm.n (h : Sm F) : 0 ≤ F 0 ∧ F 0 ≤ 5 := ⟨(h.1 0 (by omega)).1, h.2⟩
theorem Sm.f (h : Sm F) (s k : Nat) (hs : s < 5) (hk : k < 52) : 0 ≤ F (2 + 52 * s + k) ∧ F (2 + 52 * s + k) ≤ 1000000 := h.1 _ (by omega)
theorem S5_b (h : Sm F) (k : Nat) (hk : k < 52) : 0 ≤ S5 F k ∧ S5 F k ≤ 5000000 := by
  have := sumI_b (f := fun s => F (2 + 52 * s + k)) (n := 5) (M := 1000000) (fun s hs => h.f s k hs hk)
  unfold S5
  omega
theorem borr_b (h : Sm F) (s : Nat) (hs : s < 5) : 0 ≤ borr F s ∧ borr F s ≤ 5000000 := by
  have := sumI_b (f := fun l => F (2 + 52 * s + (7 + l))) (n := 5) (M := 1000000) (fun l hl => h.f s (7 + l) hs (by omega))
  unfold borr
  omega
theorem tk_b (h : Sm F) (s : Nat) (hs : s < 5) : 0 ≤ tk F s ∧ tk F s ≤ 7000000 := by
  have := borr_b h s hs
  have := h.f s 2 hs (by omega)
  have := h.f s 3 hs (by omega)
  unfold tk
  omega
theorem idle_b (h : Sm F) (s : Nat) (hs : s < 5) : -10000000 ≤ idle F s ∧ idle F s ≤ 1000000 := by
  have := S5_b h (7 + s) (by omega)
  have := h.f s 0 hs (by omega)
  have := h.f s 2 hs (by omega)
  unfold idle
  omega
theorem free_b (h : Sm F) : -10000000 ≤ free F ∧ free F ≤ 60 := by
  have := S5_b h 0 (by omega)
  have := S5_b h 3 (by omega)
  unfold free
  omega
theorem tkA_b (h : Sm F) : 0 ≤ tkA F ∧ tkA F ≤ 35000000 := by
  have := sumI_b (f := tk F) (n := 5) (M := 7000000) (fun s hs => tk_b h s hs)
  unfold tkA
  omega
theorem S5_n (h : Sm F) (z : Zr F) (k : Nat) (hk : k < 52) : sumI (fun s => F (2 + 52 * s + k)) (F 0).toNat = S5 F k := by
  have := h.n
  exact sumI_n5 (by omega) (fun j h1 h2 => z j k (by omega) h2 hk)
theorem tk_z (h : Sm F) (z : Zr F) {s : Nat} (h1 : F 0 ≤ (s : Int)) (h2 : s < 5) : tk F s = 0 := by
  have e : borr F s = 0 := by
    unfold borr
    rw [sumI_5, z s _ h1 h2 (by omega), z s _ h1 h2 (by omega), z s _ h1 h2 (by omega), z s _ h1 h2 (by omega), z s _ h1 h2 (by omega)]
    rfl
  unfold tk
  rw [e, z s _ h1 h2 (by omega), z s _ h1 h2 (by omega)]
  rfl
theorem borr_z (h : Sm F) (z : Zr F) {s : Nat} (h1 : F 0 ≤ (s : Int)) (h2 : s < 5) : borr F s = 0 := by
  unfold borr
  rw [sumI_5, z s _ h1 h2 (by omega), z s _ h1 h2 (by omega), z s _ h1 h2 (by omega), z s _ h1 h2 (by omega), z s _ h1 h2 (by omega)]
  rfl
theorem tkA_n (h : Sm F) (z : Zr F) : sumI (tk F) (F 0).toNat = tkA F := by
  have := h.n
  exact sumI_n5 (by omega) (fun j h1 h2 => tk_z h z (by omega) h2)
theorem borrA_n (h : Sm F) (z : Zr F) : sumI (borr F) (F 0).toNat = borrA F := by
  have := h.n
  exact sumI_n5 (by omega) (fun j h1 h2 => borr_z h z (by omega) h2)
theorem lnd_b (x y : Nat) : ∀ i : Nat, -1 ≤ lnd F x y i ∧ lnd F x y i < i
  | 0 => by simp [lnd]
  | i + 1 => by
    have := lnd_b x y i
    unfold lnd
    split <;> omega
theorem lnd_i (x y : Nat) : ∀ i : Nat, lnd F x y i ≠ -1 → 0 < idle F (lnd F x y i).toNat
  | 0 => by simp [lnd]
  | i + 1 => by
    have h0 := lnd_i x y i
    intro h
    unfold lnd at h ⊢
    split
    · rename_i q
      simpa using q.2.2.1
    · rename_i q
      rw [if_neg q] at h
      exact h0 h
theorem oa_b (s : Nat) (t : Int) : ∀ p : Nat, -1 ≤ oa F s t p ∧ oa F s t p < p
  | 0 => by simp [oa]
  | p + 1 => by
    have := oa_b s t p
    unfold oa
    split <;> omega
theorem mo_b (l : Nat) : ∀ i : Nat, mo F l i ≤ i - 1
  | 0 => by simp [mo]
  | i + 1 => by
    have := mo_b l i
    unfold mo
    split <;> omega
theorem mf_b (s : Nat) : ∀ i : Nat, mf F s i ≤ i - 1
  | 0 => by simp [mf]
  | i + 1 => by
    have := mf_b s i
    unfold mf
    split <;> omega
theorem gb_b (l : Nat) : ∀ i : Nat, -1 ≤ gb F l i ∧ gb F l i < i
  | 0 => by simp [gb]
  | i + 1 => by
    have := gb_b l i
    unfold gb
    split <;> omega
theorem gl_b (s : Nat) : ∀ i : Nat, -1 ≤ gl F s i ∧ gl F s i < i
  | 0 => by simp [gl]
  | i + 1 => by
    have := gl_b s i
    unfold gl
    split <;> omega
theorem pba_b (s : Nat) : ∀ k : Nat, -1 ≤ pba F s k ∧ pba F s k < 40
  | 0 => oa_b s 0 40
  | k + 1 => by
    unfold pba
    split
    · omega
    · exact oa_b s _ 40
end SPEC
end
section
theorem s_RX0_64 : SiteV "LentRoom$Device" 64 "LentRoom$Device" yX0_hasSpace cX0_hasSpace 2 (some .boolean) 1 := ⟨⟨q_425, q_426, q_427, q_32, q_428⟩, rfl, by decide, by decide, by decide +kernel⟩
theorem s_RX0_68 : SiteV "LentRoom$Device" 68 "LentRoom$Device" yX0_hasPage cX0_hasPage 3 (some .boolean) 2 := ⟨⟨q_421, q_422, q_423, q_32, q_424⟩, rfl, by decide, by decide, by decide +kernel⟩
theorem s_RX0_72 : SiteS "LentRoom$Device" 72 yX0_sum cX0_sum 6 (some .int) 1 := ⟨⟨q_414, q_415, q_32, q_416⟩, by decide, by decide, by decide +kernel⟩
theorem s_RX0_76 : SiteV "LentRoom$Device" 76 "LentRoom$Device" yX0_pagesOf cX0_pagesOf 2 (some .int) 1 := ⟨⟨q_437, q_438, q_439, q_32, q_440⟩, rfl, by decide, by decide, by decide +kernel⟩
theorem s_RX0_80 : SiteV "LentRoom$Device" 80 "LentRoom$Device" yX0_idleOf cX0_idleOf 4 (some .int) 1 := ⟨⟨q_441, q_442, q_443, q_32, q_444⟩, rfl, by decide, by decide, by decide +kernel⟩
theorem s_RX0_102 : SiteV "LentRoom$Device" 102 "LentRoom$Device" yX0_oldestAfter cX0_oldestAfter 5 (some .int) 2 := ⟨⟨q_461, q_463, q_7, q_32, q_464⟩, rfl, by decide, by decide, by decide +kernel⟩
theorem s_RX0_90 : SiteV "LentRoom$Device" 90 "LentRoom$Device" yX0_freeCommonRoom cX0_freeCommonRoom 1 (some .int) 0 := ⟨⟨q_410, q_411, q_412, q_32, q_413⟩, rfl, by decide, by decide, by decide +kernel⟩
set_option maxHeartbeats 4000000 in
theorem k_X0_sum (l : Launch) (g : Gt) (a n : Nat) (f : Nat → Int) (M : Int) (hn : n ≤ 60) (hM : 0 ≤ M ∧ M ≤ 1000000) (hb : ∀ k, k < n → 0 ≤ f k ∧ f k ≤ M) : CP l yX0_sum cX0_sum 6 (some .int) 0 0 g [.ref a] (aAt g a n f) (some (.int (iI (sumI f n)))) := by
  refine cp_of "LentRoom$Device" (by decide) rfl (Nat.le_of_ble_eq_true rfl) ?_
  intro zp ze zs zm za zb zt zc ls C hP hl
  have ha := hP
  have hl : lv_has ls 6 [(0, .ref a)] := hl
  have cut10 : ∀ (N : Nat) (i : Nat) (v1 : Int) (v4 : Int), n - i < N → (i ≤ n) → (v1 = sumI f i) → (v4 = (i : Int)) → ∀ ls : Array Slot, lv_has ls 6 [(0, .ref a), (1, .int (iI v1)), (2, .ref a), (3, .int (iI (n : Int))), (4, .int (iI v4))] → W zp l ze (rmc 0 0) zs zm za zb zt zc zs.heap [] 0 0 (MQ zb (PQ (some (.int (iI (sumI f n))))) za zs 0 0 (fun _ => False)) (F0 zm 10 ls []) := by
    intro N
    induction N with
    | zero => intro i v1 v4; exact fun hms => absurd hms (Nat.not_lt_zero _)
    | succ N ih =>
      intro i v1 v4 hms hi hv1 hv4 ls hl
      refine r_iload C (lv_at hl 4 rfl) dX0_sum_10 ?_
      refine r_iload_n C rfl (lv_at hl 3 rfl) dX0_sum_12 ?_
      refine r_icmp_ge (tgt := 33) C (by decide) (by omega) (by omega) dX0_sum_13 (fun c1 => ?_) (fun c1 => ?_)
      · refine r_iload_n C rfl (lv_at hl 1 rfl) dX0_sum_33 ?_
        exact r_iretP C rfl rfl (congrArg iI (by rw [hv1, show i = n by omega])) dX0_sum_34
      · refine r_aload_n C rfl (lv_at hl 2 rfl) dX0_sum_16 ?_
        refine r_iload C (lv_at hl 4 rfl) dX0_sum_17 ?_
        refine r_iald (v := f i) C ha i (by omega) (by omega) (by omega) rfl dX0_sum_19 ?_
        have b2 := hb i (by omega)
        refine r_istore (lv' := [(5, .int (iI (f i))), (0, .ref a), (1, .int (iI v1)), (2, .ref a), (3, .int (iI (n : Int))), (4, .int (iI v4))]) C hl (by decide) rfl dX0_sum_20 (fun ls hl => ?_)
        refine r_iload_n C rfl (lv_at hl 2 rfl) dX0_sum_22 ?_
        refine r_iload C (lv_at hl 0 rfl) dX0_sum_23 ?_
        refine r_iadd C dX0_sum_25 ?_
        refine r_istore_n (lv' := [(1, .int (iI (v1 + (f i)))), (5, .int (iI (f i))), (0, .ref a), (2, .ref a), (3, .int (iI (n : Int))), (4, .int (iI v4))]) C rfl hl (by decide) rfl dX0_sum_26 (fun ls hl => ?_)
        refine r_iinc (lv' := [(4, .int (iI (v4 + 1))), (1, .int (iI (v1 + (f i)))), (5, .int (iI (f i))), (0, .ref a), (2, .ref a), (3, .int (iI (n : Int)))]) C hl (q := 5) rfl (by decide) rfl dX0_sum_27 (fun ls hl => ?_)
        refine r_goto (tgt := 10) C (by decide) dX0_sum_30 ?_
        exact ih (i + 1) (v1 + (f i)) (v4 + 1) (by omega) (by omega) (by rw [sumI, hv1]) (by omega) _ (lv_sub hl [3, 1, 4, 5, 0] rfl)
  refine r_iconst C dX0_sum_0 ?_
  refine r_istore_n (lv' := [(1, .int (iI 0)), (0, .ref a)]) C rfl hl (by decide) rfl dX0_sum_1 (fun ls hl => ?_)
  refine r_aload_n C rfl (lv_at hl 1 rfl) dX0_sum_2 ?_
  refine r_astore_n (lv' := [(2, .ref a), (1, .int (iI 0)), (0, .ref a)]) C rfl hl (by decide) rfl dX0_sum_3 (fun ls hl => ?_)
  refine r_aload_n C rfl (lv_at hl 0 rfl) dX0_sum_4 ?_
  refine r_alen C ha dX0_sum_5 ?_
  refine r_istore_n (lv' := [(3, .int (iI (n : Int))), (2, .ref a), (1, .int (iI 0)), (0, .ref a)]) C rfl hl (by decide) rfl dX0_sum_6 (fun ls hl => ?_)
  refine r_iconst C dX0_sum_7 ?_
  refine r_istore (lv' := [(4, .int (iI 0)), (3, .int (iI (n : Int))), (2, .ref a), (1, .int (iI 0)), (0, .ref a)]) C hl (by decide) rfl dX0_sum_8 (fun ls hl => ?_)
  exact cut10 _ 0 0 0 (Nat.lt_succ_self _) (by omega) (by rfl) (by omega) _ (lv_sub hl [4, 3, 2, 1, 0] rfl)
set_option maxHeartbeats 4000000 in
theorem k_X0_hasSpace (l : Launch) (g : Gt) (d : Nat) (F : Nat → Int) (hSm : Sm F) (x : Int) (hx : Rg x) : CP l yX0_hasSpace cX0_hasSpace 2 (some .boolean) 0 0 g [.ref d, .int (iI x)] (dvAt g d F) (some (.int (iI (pI (0 ≤ x ∧ x < F 0))))) := by
  refine cp_of "LentRoom$Device" (by decide) rfl (Nat.le_of_ble_eq_true rfl) ?_
  intro zp ze zs zm za zb zt zc ls C hP hl
  have hd := hP
  have hl : lv_has ls 2 [(0, .ref d), (1, .int (iI x))] := hl
  refine r_iload_n C rfl (lv_at hl 1 rfl) dX0_hasSpace_0 ?_
  refine r_if_lt (tgt := 16) C (by decide) (by omega) dX0_hasSpace_1 (fun c1 => ?_) (fun c1 => ?_)
  · refine r_iconst C dX0_hasSpace_16 ?_
    exact r_iretP C rfl rfl (congrArg iI (pI_f (by omega)).symm) dX0_hasSpace_17
  · refine r_iload_n C rfl (lv_at hl 1 rfl) dX0_hasSpace_4 ?_
    refine r_aload_n C rfl (lv_at hl 0 rfl) dX0_hasSpace_5 ?_
    refine r_get C (ci := 0) (v := .int (iI (F 0))) rfl uin0 hd.o 0 (by decide) q_78 rfl rfl dX0_hasSpace_6 ?_
    have b2 := hSm.1 0 (by omega)
    have b3 := hSm.2
    refine r_icmp_ge (tgt := 16) C (by decide) (by omega) (by omega) dX0_hasSpace_9 (fun c4 => ?_) (fun c4 => ?_)
    · refine r_iconst C dX0_hasSpace_16 ?_
      exact r_iretP C rfl rfl (congrArg iI (pI_f (by omega)).symm) dX0_hasSpace_17
    · refine r_iconst C dX0_hasSpace_12 ?_
      refine r_goto (tgt := 17) C (by decide) dX0_hasSpace_13 ?_
      exact r_iretP C rfl rfl (congrArg iI (pI_t (by omega)).symm) dX0_hasSpace_17
set_option maxHeartbeats 4000000 in
theorem k_X0_hasPage (l : Launch) (g : Gt) (d : Nat) (F : Nat → Int) (hSm : Sm F) (x p : Int) (hx : Rg x) (hp : Rg p) : CP l yX0_hasPage cX0_hasPage 3 (some .boolean) 1 21 g [.ref d, .int (iI x), .int (iI p)] (dvAt g d F) (some (.int (iI (pI (0 ≤ x ∧ x < F 0 ∧ 0 ≤ p ∧ p < 40))))) := by
  refine cp_of "LentRoom$Device" (by decide) rfl (Nat.le_of_ble_eq_true rfl) ?_
  intro zp ze zs zm za zb zt zc ls C hP hl
  have hd := hP
  have hl : lv_has ls 3 [(0, .ref d), (1, .int (iI x)), (2, .int (iI p))] := hl
  refine r_aload_n C rfl (lv_at hl 0 rfl) dX0_hasPage_0 ?_
  refine r_iload_n C rfl (lv_at hl 1 rfl) dX0_hasPage_1 ?_
  refine r_vPi (rest := []) C (k_X0_hasSpace l g d F hSm x (by omega)) s_RX0_64 hd (recv C (ci := 0) rfl hd.o) hl.1 rfl ⟨by decide, by decide⟩ rfl (Nat.le_of_ble_eq_true rfl) ⟨Nat.le_refl 0, Nat.le_refl 0⟩ dX0_hasPage_2 ?_
  have b1 := hSm.n
  refine r_ifP_eq (tgt := 22) C (by decide) dX0_hasPage_5 (fun c2 => ?_) (fun c2 => ?_)
  · refine r_iconst C dX0_hasPage_22 ?_
    exact r_iretP C rfl rfl (congrArg iI (pI_f (by omega)).symm) dX0_hasPage_23
  · refine r_iload_n C rfl (lv_at hl 2 rfl) dX0_hasPage_8 ?_
    refine r_if_lt (tgt := 22) C (by decide) (by omega) dX0_hasPage_9 (fun c3 => ?_) (fun c3 => ?_)
    · refine r_iconst C dX0_hasPage_22 ?_
      exact r_iretP C rfl rfl (congrArg iI (pI_f (by omega)).symm) dX0_hasPage_23
    · refine r_iload_n C rfl (lv_at hl 2 rfl) dX0_hasPage_12 ?_
      refine r_bipush C (by decide) dX0_hasPage_13 ?_
      refine r_icmp_ge (tgt := 22) C (by decide) (by omega) (by decide) dX0_hasPage_15 (fun c4 => ?_) (fun c4 => ?_)
      · refine r_iconst C dX0_hasPage_22 ?_
        exact r_iretP C rfl rfl (congrArg iI (pI_f (by omega)).symm) dX0_hasPage_23
      · refine r_iconst C dX0_hasPage_18 ?_
        refine r_goto (tgt := 23) C (by decide) dX0_hasPage_19 ?_
        exact r_iretP C rfl rfl (congrArg iI (pI_t (by omega)).symm) dX0_hasPage_23
set_option maxHeartbeats 4000000 in
theorem k_X0_isWritten (l : Launch) (g : Gt) (d : Nat) (F : Nat → Int) (hSm : Sm F) (x p : Int) (s q : Nat) (hx : Rg x) (hp : Rg p) (hs : 0 ≤ x → x = (s : Int)) (hq : 0 ≤ p → p = (q : Int)) : CP l yX0_isWritten cX0_isWritten 3 (some .boolean) 2 43 g [.ref d, .int (iI x), .int (iI p)] (dvAt g d F) (some (.int (iI (pI (0 ≤ x ∧ x < F 0 ∧ 0 ≤ p ∧ p < 40 ∧ 0 < F (2 + 52 * s + (12 + q))))))) := by
  refine cp_of "LentRoom$Device" (by decide) rfl (Nat.le_of_ble_eq_true rfl) ?_
  intro zp ze zs zm za zb zt zc ls C hP hl
  have hd := hP
  have hl : lv_has ls 3 [(0, .ref d), (1, .int (iI x)), (2, .int (iI p))] := hl
  refine r_aload_n C rfl (lv_at hl 0 rfl) dX0_isWritten_0 ?_
  refine r_iload_n C rfl (lv_at hl 1 rfl) dX0_isWritten_1 ?_
  refine r_iload_n C rfl (lv_at hl 2 rfl) dX0_isWritten_2 ?_
  refine r_vPi (rest := []) C (k_X0_hasPage l g d F hSm x p (by omega) (by omega)) s_RX0_68 hd (recv C (ci := 0) rfl hd.o) hl.1 rfl ⟨by decide, by decide⟩ rfl (Nat.le_of_ble_eq_true rfl) ⟨Nat.le_refl 0, Nat.le_refl 0⟩ dX0_isWritten_3 ?_
  have b1 := hSm.n
  refine r_ifP_eq (tgt := 24) C (by decide) dX0_isWritten_6 (fun c2 => ?_) (fun c2 => ?_)
  · refine r_iconst C dX0_isWritten_24 ?_
    exact r_iretP C rfl rfl (congrArg iI (pI_f (by omega)).symm) dX0_isWritten_25
  · refine r_aload_n C rfl (lv_at hl 0 rfl) dX0_isWritten_9 ?_
    refine r_get C (ci := 0) (v := .ref (d + 11)) rfl uin0 hd.o 7 (by decide) q_89 rfl rfl dX0_isWritten_10 ?_
    refine r_iload_n C rfl (lv_at hl 1 rfl) dX0_isWritten_13 ?_
    refine r_aaldr (v := d + 12 + s) C hd.rw s (by omega) (by omega) (by omega) rfl dX0_isWritten_14 ?_
    refine r_iload_n C rfl (lv_at hl 2 rfl) dX0_isWritten_15 ?_
    refine r_iald (v := F (2 + 52 * s + (12 + q))) C (hd.w s (by omega)) q (by omega) (by omega) (by omega) rfl dX0_isWritten_16 ?_
    have b3 := hSm.1 (2 + 52 * s + (12 + q)) (by omega)
    refine r_if_le (tgt := 24) C (by decide) (by omega) dX0_isWritten_17 (fun c4 => ?_) (fun c4 => ?_)
    · refine r_iconst C dX0_isWritten_24 ?_
      exact r_iretP C rfl rfl (congrArg iI (pI_f (by omega)).symm) dX0_isWritten_25
    · refine r_iconst C dX0_isWritten_20 ?_
      refine r_goto (tgt := 25) C (by decide) dX0_isWritten_21 ?_
      exact r_iretP C rfl rfl (congrArg iI (pI_t (by omega)).symm) dX0_isWritten_25
set_option maxHeartbeats 4000000 in
theorem k_X0_pagesOf (l : Launch) (g : Gt) (d : Nat) (F : Nat → Int) (hSm : Sm F) (x : Int) (s : Nat) (hx : x = (s : Int)) (hs : s < 5) : CP l yX0_pagesOf cX0_pagesOf 2 (some .int) 1 25 g [.ref d, .int (iI x)] (dvAt g d F) (some (.int (iI (tk F s)))) := by
  refine cp_of "LentRoom$Device" (by decide) rfl (Nat.le_of_ble_eq_true rfl) ?_
  intro zp ze zs zm za zb zt zc ls C hP hl
  have hd := hP
  have hl : lv_has ls 2 [(0, .ref d), (1, .int (iI x))] := hl
  refine r_aload_n C rfl (lv_at hl 0 rfl) dX0_pagesOf_0 ?_
  refine r_get C (ci := 0) (v := .ref (d + 3)) rfl uin0 hd.o 4 (by decide) q_85 rfl rfl dX0_pagesOf_1 ?_
  refine r_iload_n C rfl (lv_at hl 1 rfl) dX0_pagesOf_4 ?_
  refine r_iald (v := F (2 + 52 * s + 2)) C hd.c2 s (by omega) (by omega) (by omega) rfl dX0_pagesOf_5 ?_
  have b1 := hSm.1 (2 + 52 * s + 2) (by omega)
  refine r_aload_n C rfl (lv_at hl 0 rfl) dX0_pagesOf_6 ?_
  refine r_get C (ci := 0) (v := .ref (d + 4)) rfl uin0 hd.o 5 (by decide) q_86 rfl rfl dX0_pagesOf_7 ?_
  refine r_iload_n C rfl (lv_at hl 1 rfl) dX0_pagesOf_10 ?_
  refine r_iald (v := F (2 + 52 * s + 3)) C hd.c3 s (by omega) (by omega) (by omega) rfl dX0_pagesOf_11 ?_
  have b2 := hSm.1 (2 + 52 * s + 3) (by omega)
  refine r_iadd C dX0_pagesOf_12 ?_
  refine r_aload_n C rfl (lv_at hl 0 rfl) dX0_pagesOf_13 ?_
  refine r_get C (ci := 0) (v := .ref (d + 5)) rfl uin0 hd.o 6 (by decide) q_87 rfl rfl dX0_pagesOf_14 ?_
  refine r_iload_n C rfl (lv_at hl 1 rfl) dX0_pagesOf_17 ?_
  refine r_aaldr (v := d + 6 + s) C hd.rl s (by omega) (by omega) (by omega) rfl dX0_pagesOf_18 ?_
  refine r_sPi (rest := [.int (iI ((F (2 + 52 * s + 2)) + (F (2 + 52 * s + 3))))]) C (k_X0_sum l g (d + 6 + s) 5 (fun z => F (2 + 52 * s + (7 + z))) 1000000 (by omega) (by omega) (fun z hz => hSm.f s (7 + z) (by omega) (by omega))) s_RX0_72 (hd.l s (by omega)) hl.1 rfl ⟨by decide, by decide⟩ rfl (Nat.le_of_ble_eq_true rfl) ⟨Nat.le_refl 0, Nat.le_refl 0⟩ dX0_pagesOf_19 ?_
  refine r_iadd C dX0_pagesOf_22 ?_
  exact r_iretP C rfl rfl (congrArg iI (by rfl)) dX0_pagesOf_23
set_option maxHeartbeats 4000000 in
theorem k_X0_pagesOfAll (l : Launch) (g : Gt) (d : Nat) (F : Nat → Int) (hSm : Sm F) (hZ : Zr F) : CP l yX0_pagesOfAll cX0_pagesOfAll 3 (some .int) 2 46 g [.ref d] (dvAt g d F) (some (.int (iI (tkA F)))) := by
  refine cp_of "LentRoom$Device" (by decide) rfl (Nat.le_of_ble_eq_true rfl) ?_
  intro zp ze zs zm za zb zt zc ls C hP hl
  have hd := hP
  have hl : lv_has ls 3 [(0, .ref d)] := hl
  have cut4 : ∀ (N : Nat) (i : Nat) (v1 : Int) (v2 : Int), 5 - i < N → ((i : Int) ≤ F 0) → (v1 = sumI (tk F) i) → (v2 = (i : Int)) → ∀ ls : Array Slot, lv_has ls 3 [(0, .ref d), (1, .int (iI v1)), (2, .int (iI v2))] → W zp l ze (rmc 2 46) zs zm za zb zt zc zs.heap [] 0 0 (MQ zb (PQ (some (.int (iI (tkA F))))) za zs 0 0 (fun _ => False)) (F0 zm 4 ls []) := by
    intro N
    induction N with
    | zero => intro i v1 v2; exact fun hms => absurd hms (Nat.not_lt_zero _)
    | succ N ih =>
      intro i v1 v2 hms hi hv1 hv2 ls hl
      refine r_iload_n C rfl (lv_at hl 2 rfl) dX0_pagesOfAll_4 ?_
      refine r_aload_n C rfl (lv_at hl 0 rfl) dX0_pagesOfAll_5 ?_
      refine r_get C (ci := 0) (v := .int (iI (F 0))) rfl uin0 hd.o 0 (by decide) q_78 rfl rfl dX0_pagesOfAll_6 ?_
      have b1 := hSm.1 0 (by omega)
      have b2 := hSm.2
      refine r_icmp_ge (tgt := 26) C (by decide) (by omega) (by omega) dX0_pagesOfAll_9 (fun c3 => ?_) (fun c3 => ?_)
      · refine r_iload_n C rfl (lv_at hl 1 rfl) dX0_pagesOfAll_26 ?_
        exact r_iretP C rfl rfl (congrArg iI (by rw [hv1, show i = (F 0).toNat by omega]; exact tkA_n hSm hZ)) dX0_pagesOfAll_27
      · refine r_iload_n C rfl (lv_at hl 1 rfl) dX0_pagesOfAll_12 ?_
        refine r_aload_n C rfl (lv_at hl 0 rfl) dX0_pagesOfAll_13 ?_
        refine r_iload_n C rfl (lv_at hl 2 rfl) dX0_pagesOfAll_14 ?_
        refine r_vPi (rest := [.int (iI v1)]) C (k_X0_pagesOf l g d F hSm v2 i (by omega) (by omega)) s_RX0_76 hd (recv C (ci := 0) rfl hd.o) hl.1 rfl ⟨by decide, by decide⟩ rfl (Nat.le_of_ble_eq_true rfl) ⟨Nat.le_refl 0, Nat.le_refl 0⟩ dX0_pagesOfAll_15 ?_
        have b4 := tk_b hSm i (by omega)
        refine r_iadd C dX0_pagesOfAll_18 ?_
        refine r_istore_n (lv' := [(1, .int (iI (v1 + (tk F i)))), (0, .ref d), (2, .int (iI v2))]) C rfl hl (by decide) rfl dX0_pagesOfAll_19 (fun ls hl => ?_)
        refine r_iinc (lv' := [(2, .int (iI (v2 + 1))), (1, .int (iI (v1 + (tk F i)))), (0, .ref d)]) C hl (q := 2) rfl (by decide) rfl dX0_pagesOfAll_20 (fun ls hl => ?_)
        refine r_goto (tgt := 4) C (by decide) dX0_pagesOfAll_23 ?_
        exact ih (i + 1) (v1 + (tk F i)) (v2 + 1) (by omega) (by omega) (by rw [sumI, hv1]) (by omega) _ (lv_sub hl [2, 1, 0] rfl)
  refine r_iconst C dX0_pagesOfAll_0 ?_
  refine r_istore_n (lv' := [(1, .int (iI 0)), (0, .ref d)]) C rfl hl (by decide) rfl dX0_pagesOfAll_1 (fun ls hl => ?_)
  refine r_iconst C dX0_pagesOfAll_2 ?_
  refine r_istore_n (lv' := [(2, .int (iI 0)), (1, .int (iI 0)), (0, .ref d)]) C rfl hl (by decide) rfl dX0_pagesOfAll_3 (fun ls hl => ?_)
  exact cut4 _ 0 0 0 (Nat.lt_succ_self _) (by have := hSm.n; omega) (by rfl) (by omega) _ (lv_sub hl [2, 1, 0] rfl)
set_option maxHeartbeats 4000000 in
theorem k_X0_idleOf (l : Launch) (g : Gt) (d : Nat) (F : Nat → Int) (hSm : Sm F) (x : Int) (s : Nat) (hx : x = (s : Int)) (hs : s < 5) : CP l yX0_idleOf cX0_idleOf 4 (some .int) 0 0 g [.ref d, .int (iI x)] (dvAt g d F) (some (.int (iI (idle F s)))) := by
  refine cp_of "LentRoom$Device" (by decide) rfl (Nat.le_of_ble_eq_true rfl) ?_
  intro zp ze zs zm za zb zt zc ls C hP hl
  have hd := hP
  have hl : lv_has ls 4 [(0, .ref d), (1, .int (iI x))] := hl
  have cut16 : ∀ (N : Nat) (i : Nat) (v2 : Int) (v3 : Int), 5 - i < N → (i ≤ 5) → (v2 = F (2 + 52 * s + 0) - F (2 + 52 * s + 2) - sumI (fun b => F (2 + 52 * b + (7 + s))) i) → (v3 = (i : Int)) → ∀ ls : Array Slot, lv_has ls 4 [(0, .ref d), (1, .int (iI x)), (2, .int (iI v2)), (3, .int (iI v3))] → W zp l ze (rmc 0 0) zs zm za zb zt zc zs.heap [] 0 0 (MQ zb (PQ (some (.int (iI (idle F s))))) za zs 0 0 (fun _ => False)) (F0 zm 16 ls []) := by
    intro N
    induction N with
    | zero => intro i v2 v3; exact fun hms => absurd hms (Nat.not_lt_zero _)
    | succ N ih =>
      intro i v2 v3 hms hi hv2 hv3 ls hl
      refine r_iload_n C rfl (lv_at hl 3 rfl) dX0_idleOf_16 ?_
      refine r_iconst C dX0_idleOf_17 ?_
      refine r_icmp_ge (tgt := 38) C (by decide) (by omega) (by decide) dX0_idleOf_18 (fun c1 => ?_) (fun c1 => ?_)
      · refine r_iload_n C rfl (lv_at hl 2 rfl) dX0_idleOf_38 ?_
        exact r_iretP C rfl rfl (congrArg iI (by rw [hv2, show i = 5 by omega]; rfl)) dX0_idleOf_39
      · refine r_iload_n C rfl (lv_at hl 2 rfl) dX0_idleOf_21 ?_
        refine r_aload_n C rfl (lv_at hl 0 rfl) dX0_idleOf_22 ?_
        refine r_get C (ci := 0) (v := .ref (d + 5)) rfl uin0 hd.o 6 (by decide) q_87 rfl rfl dX0_idleOf_23 ?_
        refine r_iload_n C rfl (lv_at hl 3 rfl) dX0_idleOf_26 ?_
        refine r_aaldr (v := d + 6 + i) C hd.rl i (by omega) (by omega) (by omega) rfl dX0_idleOf_27 ?_
        refine r_iload_n C rfl (lv_at hl 1 rfl) dX0_idleOf_28 ?_
        refine r_iald (v := F (2 + 52 * i + (7 + s))) C (hd.l i (by omega)) s (by omega) (by omega) (by omega) rfl dX0_idleOf_29 ?_
        have b2 := hSm.1 (2 + 52 * i + (7 + s)) (by omega)
        refine r_isub C dX0_idleOf_30 ?_
        refine r_istore_n (lv' := [(2, .int (iI (v2 - (F (2 + 52 * i + (7 + s)))))), (0, .ref d), (1, .int (iI x)), (3, .int (iI v3))]) C rfl hl (by decide) rfl dX0_idleOf_31 (fun ls hl => ?_)
        refine r_iinc (lv' := [(3, .int (iI (v3 + 1))), (2, .int (iI (v2 - (F (2 + 52 * i + (7 + s)))))), (0, .ref d), (1, .int (iI x))]) C hl (q := 3) rfl (by decide) rfl dX0_idleOf_32 (fun ls hl => ?_)
        refine r_goto (tgt := 16) C (by decide) dX0_idleOf_35 ?_
        exact ih (i + 1) (v2 - (F (2 + 52 * i + (7 + s)))) (v3 + 1) (by omega) (by omega) (by rw [sumI, hv2]; omega) (by omega) _ (lv_sub hl [2, 3, 1, 0] rfl)
  refine r_aload_n C rfl (lv_at hl 0 rfl) dX0_idleOf_0 ?_
  refine r_get C (ci := 0) (v := .ref (d + 1)) rfl uin0 hd.o 2 (by decide) q_81 rfl rfl dX0_idleOf_1 ?_
  refine r_iload_n C rfl (lv_at hl 1 rfl) dX0_idleOf_4 ?_
  refine r_iald (v := F (2 + 52 * s + 0)) C hd.c0 s (by omega) (by omega) (by omega) rfl dX0_idleOf_5 ?_
  have b3 := hSm.1 (2 + 52 * s + 0) (by omega)
  refine r_aload_n C rfl (lv_at hl 0 rfl) dX0_idleOf_6 ?_
  refine r_get C (ci := 0) (v := .ref (d + 3)) rfl uin0 hd.o 4 (by decide) q_85 rfl rfl dX0_idleOf_7 ?_
  refine r_iload_n C rfl (lv_at hl 1 rfl) dX0_idleOf_10 ?_
  refine r_iald (v := F (2 + 52 * s + 2)) C hd.c2 s (by omega) (by omega) (by omega) rfl dX0_idleOf_11 ?_
  have b4 := hSm.1 (2 + 52 * s + 2) (by omega)
  refine r_isub C dX0_idleOf_12 ?_
  refine r_istore_n (lv' := [(2, .int (iI ((F (2 + 52 * s + 0)) - (F (2 + 52 * s + 2))))), (0, .ref d), (1, .int (iI x))]) C rfl hl (by decide) rfl dX0_idleOf_13 (fun ls hl => ?_)
  refine r_iconst C dX0_idleOf_14 ?_
  refine r_istore_n (lv' := [(3, .int (iI 0)), (2, .int (iI ((F (2 + 52 * s + 0)) - (F (2 + 52 * s + 2))))), (0, .ref d), (1, .int (iI x))]) C rfl hl (by decide) rfl dX0_idleOf_15 (fun ls hl => ?_)
  exact cut16 _ 0 ((F (2 + 52 * s + 0)) - (F (2 + 52 * s + 2))) 0 (Nat.lt_succ_self _) (by omega) (by simp only [sumI]; omega) (by omega) _ (lv_sub hl [2, 3, 1, 0] rfl)
set_option maxHeartbeats 4000000 in
theorem k_X0_lendsOf (l : Launch) (g : Gt) (d : Nat) (F : Nat → Int) (hSm : Sm F) (x : Int) (s : Nat) (hx : x = (s : Int)) (hs : s < 5) : CP l yX0_lendsOf cX0_lendsOf 2 (some .int) 1 23 g [.ref d, .int (iI x)] (dvAt g d F) (some (.int (iI (S5 F (7 + s))))) := by
  refine cp_of "LentRoom$Device" (by decide) rfl (Nat.le_of_ble_eq_true rfl) ?_
  intro zp ze zs zm za zb zt zc ls C hP hl
  have hd := hP
  have hl : lv_has ls 2 [(0, .ref d), (1, .int (iI x))] := hl
  refine r_aload_n C rfl (lv_at hl 0 rfl) dX0_lendsOf_0 ?_
  refine r_get C (ci := 0) (v := .ref (d + 1)) rfl uin0 hd.o 2 (by decide) q_81 rfl rfl dX0_lendsOf_1 ?_
  refine r_iload_n C rfl (lv_at hl 1 rfl) dX0_lendsOf_4 ?_
  refine r_iald (v := F (2 + 52 * s + 0)) C hd.c0 s (by omega) (by omega) (by omega) rfl dX0_lendsOf_5 ?_
  have b1 := hSm.1 (2 + 52 * s + 0) (by omega)
  refine r_aload_n C rfl (lv_at hl 0 rfl) dX0_lendsOf_6 ?_
  refine r_get C (ci := 0) (v := .ref (d + 3)) rfl uin0 hd.o 4 (by decide) q_85 rfl rfl dX0_lendsOf_7 ?_
  refine r_iload_n C rfl (lv_at hl 1 rfl) dX0_lendsOf_10 ?_
  refine r_iald (v := F (2 + 52 * s + 2)) C hd.c2 s (by omega) (by omega) (by omega) rfl dX0_lendsOf_11 ?_
  have b2 := hSm.1 (2 + 52 * s + 2) (by omega)
  refine r_isub C dX0_lendsOf_12 ?_
  refine r_aload_n C rfl (lv_at hl 0 rfl) dX0_lendsOf_13 ?_
  refine r_iload_n C rfl (lv_at hl 1 rfl) dX0_lendsOf_14 ?_
  refine r_vPi (rest := [.int (iI ((F (2 + 52 * s + 0)) - (F (2 + 52 * s + 2))))]) C (k_X0_idleOf l g d F hSm x s (by omega) (by omega)) s_RX0_80 hd (recv C (ci := 0) rfl hd.o) hl.1 rfl ⟨by decide, by decide⟩ rfl (Nat.le_of_ble_eq_true rfl) ⟨Nat.le_refl 0, Nat.le_refl 0⟩ dX0_lendsOf_15 ?_
  have b3 := idle_b hSm s (by omega)
  refine r_isub C dX0_lendsOf_18 ?_
  exact r_iretP C rfl rfl (congrArg iI (by unfold idle; omega)) dX0_lendsOf_19
set_option maxHeartbeats 4000000 in
theorem k_X0_commonRoom (l : Launch) (g : Gt) (d : Nat) (F : Nat → Int) (hSm : Sm F)  : CP l yX0_commonRoom cX0_commonRoom 1 (some .int) 1 25 g [.ref d] (dvAt g d F) (some (.int (iI (60 - S5 F 0)))) := by
  refine cp_of "LentRoom$Device" (by decide) rfl (Nat.le_of_ble_eq_true rfl) ?_
  intro zp ze zs zm za zb zt zc ls C hP hl
  have hd := hP
  have hl : lv_has ls 1 [(0, .ref d)] := hl
  refine r_bipush C (by decide) dX0_commonRoom_0 ?_
  refine r_aload_n C rfl (lv_at hl 0 rfl) dX0_commonRoom_2 ?_
  refine r_get C (ci := 0) (v := .ref (d + 1)) rfl uin0 hd.o 2 (by decide) q_81 rfl rfl dX0_commonRoom_3 ?_
  refine r_sPi (rest := [.int (iI 60)]) C (k_X0_sum l g (d + 1) 5 (fun z => F (2 + 52 * z + 0)) 1000000 (by omega) (by omega) (fun z hz => hSm.f z 0 hz (by omega))) s_RX0_72 hd.c0 hl.1 rfl ⟨by decide, by decide⟩ rfl (Nat.le_of_ble_eq_true rfl) ⟨Nat.le_refl 0, Nat.le_refl 0⟩ dX0_commonRoom_6 ?_
  refine r_isub C dX0_commonRoom_9 ?_
  exact r_iretP C rfl rfl (congrArg iI (by rfl)) dX0_commonRoom_10
set_option maxHeartbeats 4000000 in
theorem k_X0_freeCommonRoom (l : Launch) (g : Gt) (d : Nat) (F : Nat → Int) (hSm : Sm F)  : CP l yX0_freeCommonRoom cX0_freeCommonRoom 1 (some .int) 1 25 g [.ref d] (dvAt g d F) (some (.int (iI (free F)))) := by
  refine cp_of "LentRoom$Device" (by decide) rfl (Nat.le_of_ble_eq_true rfl) ?_
  intro zp ze zs zm za zb zt zc ls C hP hl
  have hd := hP
  have hl : lv_has ls 1 [(0, .ref d)] := hl
  refine r_bipush C (by decide) dX0_freeCommonRoom_0 ?_
  refine r_aload_n C rfl (lv_at hl 0 rfl) dX0_freeCommonRoom_2 ?_
  refine r_get C (ci := 0) (v := .ref (d + 1)) rfl uin0 hd.o 2 (by decide) q_81 rfl rfl dX0_freeCommonRoom_3 ?_
  refine r_sPi (rest := [.int (iI 60)]) C (k_X0_sum l g (d + 1) 5 (fun z => F (2 + 52 * z + 0)) 1000000 (by omega) (by omega) (fun z hz => hSm.f z 0 hz (by omega))) s_RX0_72 hd.c0 hl.1 rfl ⟨by decide, by decide⟩ rfl (Nat.le_of_ble_eq_true rfl) ⟨Nat.le_refl 0, Nat.le_refl 0⟩ dX0_freeCommonRoom_6 ?_
  refine r_isub C dX0_freeCommonRoom_9 ?_
  refine r_aload_n C rfl (lv_at hl 0 rfl) dX0_freeCommonRoom_10 ?_
  refine r_get C (ci := 0) (v := .ref (d + 4)) rfl uin0 hd.o 5 (by decide) q_86 rfl rfl dX0_freeCommonRoom_11 ?_
  refine r_sPi (rest := [.int (iI (60 - (sumI (fun z => F (2 + 52 * z + 0)) 5)))]) C (k_X0_sum l g (d + 4) 5 (fun z => F (2 + 52 * z + 3)) 1000000 (by omega) (by omega) (fun z hz => hSm.f z 3 hz (by omega))) s_RX0_72 hd.c3 hl.1 rfl ⟨by decide, by decide⟩ rfl (Nat.le_of_ble_eq_true rfl) ⟨Nat.le_refl 0, Nat.le_refl 0⟩ dX0_freeCommonRoom_14 ?_
  refine r_isub C dX0_freeCommonRoom_17 ?_
  exact r_iretP C rfl rfl (congrArg iI (by rfl)) dX0_freeCommonRoom_18
set_option maxHeartbeats 4000000 in
theorem k_X0_loansOfAll (l : Launch) (g : Gt) (d : Nat) (F : Nat → Int) (hSm : Sm F) (hZ : Zr F) : CP l yX0_loansOfAll cX0_loansOfAll 3 (some .int) 1 25 g [.ref d] (dvAt g d F) (some (.int (iI (borrA F)))) := by
  refine cp_of "LentRoom$Device" (by decide) rfl (Nat.le_of_ble_eq_true rfl) ?_
  intro zp ze zs zm za zb zt zc ls C hP hl
  have hd := hP
  have hl : lv_has ls 3 [(0, .ref d)] := hl
  have cut4 : ∀ (N : Nat) (i : Nat) (v1 : Int) (v2 : Int), 5 - i < N → ((i : Int) ≤ F 0) → (v1 = sumI (borr F) i) → (v2 = (i : Int)) → ∀ ls : Array Slot, lv_has ls 3 [(0, .ref d), (1, .int (iI v1)), (2, .int (iI v2))] → W zp l ze (rmc 1 25) zs zm za zb zt zc zs.heap [] 0 0 (MQ zb (PQ (some (.int (iI (borrA F))))) za zs 0 0 (fun _ => False)) (F0 zm 4 ls []) := by
    intro N
    induction N with
    | zero => intro i v1 v2; exact fun hms => absurd hms (Nat.not_lt_zero _)
    | succ N ih =>
      intro i v1 v2 hms hi hv1 hv2 ls hl
      refine r_iload_n C rfl (lv_at hl 2 rfl) dX0_loansOfAll_4 ?_
      refine r_aload_n C rfl (lv_at hl 0 rfl) dX0_loansOfAll_5 ?_
      refine r_get C (ci := 0) (v := .int (iI (F 0))) rfl uin0 hd.o 0 (by decide) q_78 rfl rfl dX0_loansOfAll_6 ?_
      have b1 := hSm.1 0 (by omega)
      have b2 := hSm.2
      refine r_icmp_ge (tgt := 30) C (by decide) (by omega) (by omega) dX0_loansOfAll_9 (fun c3 => ?_) (fun c3 => ?_)
      · refine r_iload_n C rfl (lv_at hl 1 rfl) dX0_loansOfAll_30 ?_
        exact r_iretP C rfl rfl (congrArg iI (by rw [hv1, show i = (F 0).toNat by omega]; exact borrA_n hSm hZ)) dX0_loansOfAll_31
      · refine r_iload_n C rfl (lv_at hl 1 rfl) dX0_loansOfAll_12 ?_
        refine r_aload_n C rfl (lv_at hl 0 rfl) dX0_loansOfAll_13 ?_
        refine r_get C (ci := 0) (v := .ref (d + 5)) rfl uin0 hd.o 6 (by decide) q_87 rfl rfl dX0_loansOfAll_14 ?_
        refine r_iload_n C rfl (lv_at hl 2 rfl) dX0_loansOfAll_17 ?_
        refine r_aaldr (v := d + 6 + i) C hd.rl i (by omega) (by omega) (by omega) rfl dX0_loansOfAll_18 ?_
        refine r_sPi (rest := [.int (iI v1)]) C (k_X0_sum l g (d + 6 + i) 5 (fun z => F (2 + 52 * i + (7 + z))) 1000000 (by omega) (by omega) (fun z hz => hSm.f i (7 + z) (by omega) (by omega))) s_RX0_72 (hd.l i (by omega)) hl.1 rfl ⟨by decide, by decide⟩ rfl (Nat.le_of_ble_eq_true rfl) ⟨Nat.le_refl 0, Nat.le_refl 0⟩ dX0_loansOfAll_19 ?_
        refine r_iadd C dX0_loansOfAll_22 ?_
        refine r_istore_n (lv' := [(1, .int (iI (v1 + (sumI (fun z => F (2 + 52 * i + (7 + z))) 5)))), (0, .ref d), (2, .int (iI v2))]) C rfl hl (by decide) rfl dX0_loansOfAll_23 (fun ls hl => ?_)
        refine r_iinc (lv' := [(2, .int (iI (v2 + 1))), (1, .int (iI (v1 + (sumI (fun z => F (2 + 52 * i + (7 + z))) 5)))), (0, .ref d)]) C hl (q := 2) rfl (by decide) rfl dX0_loansOfAll_24 (fun ls hl => ?_)
        refine r_goto (tgt := 4) C (by decide) dX0_loansOfAll_27 ?_
        exact ih (i + 1) (v1 + (sumI (fun z => F (2 + 52 * i + (7 + z))) 5)) (v2 + 1) (by omega) (by omega) (by rw [sumI, hv1]; rfl) (by omega) _ (lv_sub hl [2, 1, 0] rfl)
  refine r_iconst C dX0_loansOfAll_0 ?_
  refine r_istore_n (lv' := [(1, .int (iI 0)), (0, .ref d)]) C rfl hl (by decide) rfl dX0_loansOfAll_1 (fun ls hl => ?_)
  refine r_iconst C dX0_loansOfAll_2 ?_
  refine r_istore_n (lv' := [(2, .int (iI 0)), (1, .int (iI 0)), (0, .ref d)]) C rfl hl (by decide) rfl dX0_loansOfAll_3 (fun ls hl => ?_)
  exact cut4 _ 0 0 0 (Nat.lt_succ_self _) (by have := hSm.n; omega) (by rfl) (by omega) _ (lv_sub hl [2, 1, 0] rfl)
set_option maxHeartbeats 4000000 in
theorem k_X0_lostByAll (l : Launch) (g : Gt) (d : Nat) (F : Nat → Int) (hSm : Sm F)  : CP l yX0_lostByAll cX0_lostByAll 1 (some .int) 1 25 g [.ref d] (dvAt g d F) (some (.int (iI (S5 F 5)))) := by
  refine cp_of "LentRoom$Device" (by decide) rfl (Nat.le_of_ble_eq_true rfl) ?_
  intro zp ze zs zm za zb zt zc ls C hP hl
  have hd := hP
  have hl : lv_has ls 1 [(0, .ref d)] := hl
  refine r_aload_n C rfl (lv_at hl 0 rfl) dX0_lostByAll_0 ?_
  refine r_get C (ci := 0) (v := .ref (d + 18)) rfl uin0 hd.o 9 (by decide) q_92 rfl rfl dX0_lostByAll_1 ?_
  refine r_sPi (rest := []) C (k_X0_sum l g (d + 18) 5 (fun z => F (2 + 52 * z + 5)) 1000000 (by omega) (by omega) (fun z hz => hSm.f z 5 hz (by omega))) s_RX0_72 hd.c5 hl.1 rfl ⟨by decide, by decide⟩ rfl (Nat.le_of_ble_eq_true rfl) ⟨Nat.le_refl 0, Nat.le_refl 0⟩ dX0_lostByAll_4 ?_
  exact r_iretP C rfl rfl (congrArg iI (by rfl)) dX0_lostByAll_7
set_option maxHeartbeats 4000000 in
theorem k_X0_noiseOf (l : Launch) (g : Gt) (d : Nat) (F : Nat → Int) (hSm : Sm F) (x : Int) (s : Nat) (hx : x = (s : Int)) (hs : s < 5) : CP l yX0_noiseOf cX0_noiseOf 2 (some .int) 0 0 g [.ref d, .int (iI x)] (dvAt g d F) (some (.int (iI (F (2 + 52 * s + 4) - 2 * F (2 + 52 * s + 5))))) := by
  refine cp_of "LentRoom$Device" (by decide) rfl (Nat.le_of_ble_eq_true rfl) ?_
  intro zp ze zs zm za zb zt zc ls C hP hl
  have hd := hP
  have hl : lv_has ls 2 [(0, .ref d), (1, .int (iI x))] := hl
  refine r_aload_n C rfl (lv_at hl 0 rfl) dX0_noiseOf_0 ?_
  refine r_get C (ci := 0) (v := .ref (d + 17)) rfl uin0 hd.o 8 (by decide) q_91 rfl rfl dX0_noiseOf_1 ?_
  refine r_iload_n C rfl (lv_at hl 1 rfl) dX0_noiseOf_4 ?_
  refine r_iald (v := F (2 + 52 * s + 4)) C hd.c4 s (by omega) (by omega) (by omega) rfl dX0_noiseOf_5 ?_
  have b1 := hSm.1 (2 + 52 * s + 4) (by omega)
  refine r_iconst C dX0_noiseOf_6 ?_
  refine r_aload_n C rfl (lv_at hl 0 rfl) dX0_noiseOf_7 ?_
  refine r_get C (ci := 0) (v := .ref (d + 18)) rfl uin0 hd.o 9 (by decide) q_92 rfl rfl dX0_noiseOf_8 ?_
  refine r_iload_n C rfl (lv_at hl 1 rfl) dX0_noiseOf_11 ?_
  refine r_iald (v := F (2 + 52 * s + 5)) C hd.c5 s (by omega) (by omega) (by omega) rfl dX0_noiseOf_12 ?_
  have b2 := hSm.1 (2 + 52 * s + 5) (by omega)
  refine r_imul C dX0_noiseOf_13 ?_
  refine r_isub C dX0_noiseOf_14 ?_
  exact r_iretP C rfl rfl (congrArg iI (by first | rfl | omega)) dX0_noiseOf_15
set_option maxHeartbeats 4000000 in
theorem k_X0_oldestAfter (l : Launch) (g : Gt) (d : Nat) (F : Nat → Int) (hSm : Sm F) (x : Int) (s : Nat) (hx : x = (s : Int)) (hs : s < 5) (t : Int) (ht : Rg t) : CP l yX0_oldestAfter cX0_oldestAfter 5 (some .int) 0 0 g [.ref d, .int (iI x), .int (iI t)] (dvAt g d F) (some (.int (iI (oa F s t 40)))) := by
  refine cp_of "LentRoom$Device" (by decide) rfl (Nat.le_of_ble_eq_true rfl) ?_
  intro zp ze zs zm za zb zt zc ls C hP hl
  have hd := hP
  have hl : lv_has ls 5 [(0, .ref d), (1, .int (iI x)), (2, .int (iI t))] := hl
  have cut5 : ∀ (N : Nat) (i : Nat) (v3 : Int) (v4 : Int), 40 - i < N → (i ≤ 40) → (-1 ≤ v3 ∧ v3 < i) → (v3 = oa F s t i) → (v4 = (i : Int)) → ∀ ls : Array Slot, lv_has ls 5 [(0, .ref d), (1, .int (iI x)), (2, .int (iI t)), (3, .int (iI v3)), (4, .int (iI v4))] → W zp l ze (rmc 0 0) zs zm za zb zt zc zs.heap [] 0 0 (MQ zb (PQ (some (.int (iI (oa F s t 40))))) za zs 0 0 (fun _ => False)) (F0 zm 5 ls []) := by
    intro N
    induction N with
    | zero => intro i v3 v4; exact fun hms => absurd hms (Nat.not_lt_zero _)
    | succ N ih =>
      intro i v3 v4 hms hi hb3 hv3 hv4 ls hl
      refine r_iload C (lv_at hl 4 rfl) dX0_oldestAfter_5 ?_
      refine r_bipush C (by decide) dX0_oldestAfter_7 ?_
      refine r_icmp_ge (tgt := 59) C (by decide) (by omega) (by decide) dX0_oldestAfter_9 (fun c1 => ?_) (fun c1 => ?_)
      · refine r_iload_n C rfl (lv_at hl 3 rfl) dX0_oldestAfter_59 ?_
        exact r_iretP C rfl rfl (congrArg iI (by rw [hv3, show i = 40 by omega])) dX0_oldestAfter_60
      · refine r_aload_n C rfl (lv_at hl 0 rfl) dX0_oldestAfter_12 ?_
        refine r_get C (ci := 0) (v := .ref (d + 11)) rfl uin0 hd.o 7 (by decide) q_89 rfl rfl dX0_oldestAfter_13 ?_
        refine r_iload_n C rfl (lv_at hl 1 rfl) dX0_oldestAfter_16 ?_
        refine r_aaldr (v := d + 12 + s) C hd.rw s (by omega) (by omega) (by omega) rfl dX0_oldestAfter_17 ?_
        refine r_iload C (lv_at hl 4 rfl) dX0_oldestAfter_18 ?_
        refine r_iald (v := F (2 + 52 * s + (12 + i))) C (hd.w s (by omega)) i (by omega) (by omega) (by omega) rfl dX0_oldestAfter_20 ?_
        have b2 := hSm.1 (2 + 52 * s + (12 + i)) (by omega)
        refine r_iload_n C rfl (lv_at hl 2 rfl) dX0_oldestAfter_21 ?_
        refine r_icmp_le (tgt := 53) C (by decide) (by omega) (by omega) dX0_oldestAfter_22 (fun c3 => ?_) (fun c3 => ?_)
        · refine r_iinc (lv' := [(4, .int (iI (v4 + 1))), (0, .ref d), (1, .int (iI x)), (2, .int (iI t)), (3, .int (iI v3))]) C hl (q := 4) rfl (by decide) rfl dX0_oldestAfter_53 (fun ls hl => ?_)
          refine r_goto (tgt := 5) C (by decide) dX0_oldestAfter_56 ?_
          exact ih (i + 1) v3 (v4 + 1) (by omega) (by omega) (by omega) (by subst hv3; simp only [oa]; split <;> omega) (by omega) _ (lv_sub hl [1, 2, 3, 4, 0] rfl)
        · refine r_iload_n C rfl (lv_at hl 3 rfl) dX0_oldestAfter_25 ?_
          refine r_iconst C dX0_oldestAfter_26 ?_
          refine r_icmp_eq (tgt := 50) C (by decide) (by omega) (by decide) dX0_oldestAfter_27 (fun c4 => ?_) (fun c4 => ?_)
          · refine r_iload C (lv_at hl 4 rfl) dX0_oldestAfter_50 ?_
            refine r_istore_n (lv' := [(3, .int (iI v4)), (0, .ref d), (1, .int (iI x)), (2, .int (iI t)), (4, .int (iI v4))]) C rfl hl (by decide) rfl dX0_oldestAfter_52 (fun ls hl => ?_)
            refine r_iinc (lv' := [(4, .int (iI (v4 + 1))), (3, .int (iI v4)), (0, .ref d), (1, .int (iI x)), (2, .int (iI t))]) C hl (q := 4) rfl (by decide) rfl dX0_oldestAfter_53 (fun ls hl => ?_)
            refine r_goto (tgt := 5) C (by decide) dX0_oldestAfter_56 ?_
            exact ih (i + 1) v4 (v4 + 1) (by omega) (by omega) (by omega) (by subst hv3; simp only [oa]; split <;> omega) (by omega) _ (lv_sub hl [2, 3, 4, 1, 0] rfl)
          · refine r_aload_n C rfl (lv_at hl 0 rfl) dX0_oldestAfter_30 ?_
            refine r_get C (ci := 0) (v := .ref (d + 11)) rfl uin0 hd.o 7 (by decide) q_89 rfl rfl dX0_oldestAfter_31 ?_
            refine r_iload_n C rfl (lv_at hl 1 rfl) dX0_oldestAfter_34 ?_
            refine r_aaldr (v := d + 12 + s) C hd.rw s (by omega) (by omega) (by omega) rfl dX0_oldestAfter_35 ?_
            refine r_iload C (lv_at hl 4 rfl) dX0_oldestAfter_36 ?_
            refine r_iald (v := F (2 + 52 * s + (12 + i))) C (hd.w s (by omega)) i (by omega) (by omega) (by omega) rfl dX0_oldestAfter_38 ?_
            have b5 := hSm.1 (2 + 52 * s + (12 + i)) (by omega)
            refine r_aload_n C rfl (lv_at hl 0 rfl) dX0_oldestAfter_39 ?_
            refine r_get C (ci := 0) (v := .ref (d + 11)) rfl uin0 hd.o 7 (by decide) q_89 rfl rfl dX0_oldestAfter_40 ?_
            refine r_iload_n C rfl (lv_at hl 1 rfl) dX0_oldestAfter_43 ?_
            refine r_aaldr (v := d + 12 + s) C hd.rw s (by omega) (by omega) (by omega) rfl dX0_oldestAfter_44 ?_
            refine r_iload_n C rfl (lv_at hl 3 rfl) dX0_oldestAfter_45 ?_
            refine r_iald (v := F (2 + 52 * s + (12 + ((v3).toNat)))) C (hd.w s (by omega)) ((v3).toNat) (by omega) (by omega) (by omega) rfl dX0_oldestAfter_46 ?_
            have b6 := hSm.1 (2 + 52 * s + (12 + ((v3).toNat))) (by omega)
            refine r_icmp_ge (tgt := 53) C (by decide) (by omega) (by omega) dX0_oldestAfter_47 (fun c7 => ?_) (fun c7 => ?_)
            · refine r_iinc (lv' := [(4, .int (iI (v4 + 1))), (0, .ref d), (1, .int (iI x)), (2, .int (iI t)), (3, .int (iI v3))]) C hl (q := 4) rfl (by decide) rfl dX0_oldestAfter_53 (fun ls hl => ?_)
              refine r_goto (tgt := 5) C (by decide) dX0_oldestAfter_56 ?_
              exact ih (i + 1) v3 (v4 + 1) (by omega) (by omega) (by omega) (by subst hv3; simp only [oa]; split <;> omega) (by omega) _ (lv_sub hl [1, 2, 3, 4, 0] rfl)
            · refine r_iload C (lv_at hl 4 rfl) dX0_oldestAfter_50 ?_
              refine r_istore_n (lv' := [(3, .int (iI v4)), (0, .ref d), (1, .int (iI x)), (2, .int (iI t)), (4, .int (iI v4))]) C rfl hl (by decide) rfl dX0_oldestAfter_52 (fun ls hl => ?_)
              refine r_iinc (lv' := [(4, .int (iI (v4 + 1))), (3, .int (iI v4)), (0, .ref d), (1, .int (iI x)), (2, .int (iI t))]) C hl (q := 4) rfl (by decide) rfl dX0_oldestAfter_53 (fun ls hl => ?_)
              refine r_goto (tgt := 5) C (by decide) dX0_oldestAfter_56 ?_
              exact ih (i + 1) v4 (v4 + 1) (by omega) (by omega) (by omega) (by subst hv3; simp only [oa]; split <;> omega) (by omega) _ (lv_sub hl [2, 3, 4, 1, 0] rfl)
  refine r_iconst C dX0_oldestAfter_0 ?_
  refine r_istore_n (lv' := [(3, .int (iI (-1))), (0, .ref d), (1, .int (iI x)), (2, .int (iI t))]) C rfl hl (by decide) rfl dX0_oldestAfter_1 (fun ls hl => ?_)
  refine r_iconst C dX0_oldestAfter_2 ?_
  refine r_istore (lv' := [(4, .int (iI 0)), (3, .int (iI (-1))), (0, .ref d), (1, .int (iI x)), (2, .int (iI t))]) C hl (by decide) rfl dX0_oldestAfter_3 (fun ls hl => ?_)
  exact cut5 _ 0 (-1) 0 (Nat.lt_succ_self _) (by omega) (by omega) (by rfl) (by omega) _ (lv_sub hl [2, 3, 4, 1, 0] rfl)
set_option maxHeartbeats 4000000 in
theorem k_X0_greatestBorrower (l : Launch) (g : Gt) (d : Nat) (F : Nat → Int) (hSm : Sm F) (x : Int) (s : Nat) (hx : x = (s : Int)) (hs : s < 5) : CP l yX0_greatestBorrower cX0_greatestBorrower 4 (some .int) 0 0 g [.ref d, .int (iI x)] (dvAt g d F) (some (.int (iI (gb F s (F 0).toNat)))) := by
  refine cp_of "LentRoom$Device" (by decide) rfl (Nat.le_of_ble_eq_true rfl) ?_
  intro zp ze zs zm za zb zt zc ls C hP hl
  have hd := hP
  have hl : lv_has ls 4 [(0, .ref d), (1, .int (iI x))] := hl
  have cut4 : ∀ (N : Nat) (i : Nat) (v2 : Int) (v3 : Int), 5 - i < N → ((i : Int) ≤ F 0) → (-1 ≤ v2 ∧ v2 < i) → (v2 = gb F s i) → (v3 = (i : Int)) → ∀ ls : Array Slot, lv_has ls 4 [(0, .ref d), (1, .int (iI x)), (2, .int (iI v2)), (3, .int (iI v3))] → W zp l ze (rmc 0 0) zs zm za zb zt zc zs.heap [] 0 0 (MQ zb (PQ (some (.int (iI (gb F s (F 0).toNat))))) za zs 0 0 (fun _ => False)) (F0 zm 4 ls []) := by
    intro N
    induction N with
    | zero => intro i v2 v3; exact fun hms => absurd hms (Nat.not_lt_zero _)
    | succ N ih =>
      intro i v2 v3 hms hi hb2 hv2 hv3 ls hl
      refine r_iload_n C rfl (lv_at hl 3 rfl) dX0_greatestBorrower_4 ?_
      refine r_aload_n C rfl (lv_at hl 0 rfl) dX0_greatestBorrower_5 ?_
      refine r_get C (ci := 0) (v := .int (iI (F 0))) rfl uin0 hd.o 0 (by decide) q_78 rfl rfl dX0_greatestBorrower_6 ?_
      have b1 := hSm.1 0 (by omega)
      have b2 := hSm.2
      refine r_icmp_ge (tgt := 48) C (by decide) (by omega) (by omega) dX0_greatestBorrower_9 (fun c3 => ?_) (fun c3 => ?_)
      · refine r_iload_n C rfl (lv_at hl 2 rfl) dX0_greatestBorrower_48 ?_
        exact r_iretP C rfl rfl (congrArg iI (by rw [hv2, show i = (F 0).toNat by omega])) dX0_greatestBorrower_49
      · refine r_aload_n C rfl (lv_at hl 0 rfl) dX0_greatestBorrower_12 ?_
        refine r_get C (ci := 0) (v := .ref (d + 5)) rfl uin0 hd.o 6 (by decide) q_87 rfl rfl dX0_greatestBorrower_13 ?_
        refine r_iload_n C rfl (lv_at hl 3 rfl) dX0_greatestBorrower_16 ?_
        refine r_aaldr (v := d + 6 + i) C hd.rl i (by omega) (by omega) (by omega) rfl dX0_greatestBorrower_17 ?_
        refine r_iload_n C rfl (lv_at hl 1 rfl) dX0_greatestBorrower_18 ?_
        refine r_iald (v := F (2 + 52 * i + (7 + s))) C (hd.l i (by omega)) s (by omega) (by omega) (by omega) rfl dX0_greatestBorrower_19 ?_
        have b4 := hSm.1 (2 + 52 * i + (7 + s)) (by omega)
        refine r_iload_n C rfl (lv_at hl 2 rfl) dX0_greatestBorrower_20 ?_
        refine r_iconst C dX0_greatestBorrower_21 ?_
        refine r_icmp_ne (tgt := 29) C (by decide) (by omega) (by decide) dX0_greatestBorrower_22 (fun c5 => ?_) (fun c5 => ?_)
        · refine r_aload_n C rfl (lv_at hl 0 rfl) dX0_greatestBorrower_29 ?_
          refine r_get C (ci := 0) (v := .ref (d + 5)) rfl uin0 hd.o 6 (by decide) q_87 rfl rfl dX0_greatestBorrower_30 ?_
          refine r_iload_n C rfl (lv_at hl 2 rfl) dX0_greatestBorrower_33 ?_
          refine r_aaldr (v := d + 6 + ((v2).toNat)) C hd.rl ((v2).toNat) (by omega) (by omega) (by omega) rfl dX0_greatestBorrower_34 ?_
          refine r_iload_n C rfl (lv_at hl 1 rfl) dX0_greatestBorrower_35 ?_
          refine r_iald (v := F (2 + 52 * ((v2).toNat) + (7 + s))) C (hd.l ((v2).toNat) (by omega)) s (by omega) (by omega) (by omega) rfl dX0_greatestBorrower_36 ?_
          have b6 := hSm.1 (2 + 52 * ((v2).toNat) + (7 + s)) (by omega)
          refine r_icmp_le (tgt := 42) C (by decide) (by omega) (by omega) dX0_greatestBorrower_37 (fun c7 => ?_) (fun c7 => ?_)
          · refine r_iinc (lv' := [(3, .int (iI (v3 + 1))), (0, .ref d), (1, .int (iI x)), (2, .int (iI v2))]) C hl (q := 3) rfl (by decide) rfl dX0_greatestBorrower_42 (fun ls hl => ?_)
            refine r_goto (tgt := 4) C (by decide) dX0_greatestBorrower_45 ?_
            exact ih (i + 1) v2 (v3 + 1) (by omega) (by omega) (by omega) (by subst hv2; simp only [gb]; split <;> (first | omega | (split at * <;> omega))) (by omega) _ (lv_sub hl [1, 2, 3, 0] rfl)
          · refine r_iload_n C rfl (lv_at hl 3 rfl) dX0_greatestBorrower_40 ?_
            refine r_istore_n (lv' := [(2, .int (iI v3)), (0, .ref d), (1, .int (iI x)), (3, .int (iI v3))]) C rfl hl (by decide) rfl dX0_greatestBorrower_41 (fun ls hl => ?_)
            refine r_iinc (lv' := [(3, .int (iI (v3 + 1))), (2, .int (iI v3)), (0, .ref d), (1, .int (iI x))]) C hl (q := 3) rfl (by decide) rfl dX0_greatestBorrower_42 (fun ls hl => ?_)
            refine r_goto (tgt := 4) C (by decide) dX0_greatestBorrower_45 ?_
            exact ih (i + 1) v3 (v3 + 1) (by omega) (by omega) (by omega) (by subst hv2; simp only [gb]; split <;> (first | omega | (split at * <;> omega))) (by omega) _ (lv_sub hl [2, 3, 1, 0] rfl)
        · refine r_iconst C dX0_greatestBorrower_25 ?_
          refine r_goto (tgt := 37) C (by decide) dX0_greatestBorrower_26 ?_
          refine r_icmp_le (tgt := 42) C (by decide) (by omega) (by decide) dX0_greatestBorrower_37 (fun c8 => ?_) (fun c8 => ?_)
          · refine r_iinc (lv' := [(3, .int (iI (v3 + 1))), (0, .ref d), (1, .int (iI x)), (2, .int (iI v2))]) C hl (q := 3) rfl (by decide) rfl dX0_greatestBorrower_42 (fun ls hl => ?_)
            refine r_goto (tgt := 4) C (by decide) dX0_greatestBorrower_45 ?_
            exact ih (i + 1) v2 (v3 + 1) (by omega) (by omega) (by omega) (by subst hv2; simp only [gb]; split <;> (first | omega | (split at * <;> omega))) (by omega) _ (lv_sub hl [1, 2, 3, 0] rfl)
          · refine r_iload_n C rfl (lv_at hl 3 rfl) dX0_greatestBorrower_40 ?_
            refine r_istore_n (lv' := [(2, .int (iI v3)), (0, .ref d), (1, .int (iI x)), (3, .int (iI v3))]) C rfl hl (by decide) rfl dX0_greatestBorrower_41 (fun ls hl => ?_)
            refine r_iinc (lv' := [(3, .int (iI (v3 + 1))), (2, .int (iI v3)), (0, .ref d), (1, .int (iI x))]) C hl (q := 3) rfl (by decide) rfl dX0_greatestBorrower_42 (fun ls hl => ?_)
            refine r_goto (tgt := 4) C (by decide) dX0_greatestBorrower_45 ?_
            exact ih (i + 1) v3 (v3 + 1) (by omega) (by omega) (by omega) (by subst hv2; simp only [gb]; split <;> (first | omega | (split at * <;> omega))) (by omega) _ (lv_sub hl [2, 3, 1, 0] rfl)
  refine r_iconst C dX0_greatestBorrower_0 ?_
  refine r_istore_n (lv' := [(2, .int (iI (-1))), (0, .ref d), (1, .int (iI x))]) C rfl hl (by decide) rfl dX0_greatestBorrower_1 (fun ls hl => ?_)
  refine r_iconst C dX0_greatestBorrower_2 ?_
  refine r_istore_n (lv' := [(3, .int (iI 0)), (2, .int (iI (-1))), (0, .ref d), (1, .int (iI x))]) C rfl hl (by decide) rfl dX0_greatestBorrower_3 (fun ls hl => ?_)
  exact cut4 _ 0 (-1) 0 (Nat.lt_succ_self _) (by have := hSm.n; omega) (by omega) (by rfl) (by omega) _ (lv_sub hl [2, 3, 1, 0] rfl)
set_option maxHeartbeats 4000000 in
theorem k_X0_greatestLender (l : Launch) (g : Gt) (d : Nat) (F : Nat → Int) (hSm : Sm F) (x : Int) (s : Nat) (hx : x = (s : Int)) (hs : s < 5) : CP l yX0_greatestLender cX0_greatestLender 4 (some .int) 0 0 g [.ref d, .int (iI x)] (dvAt g d F) (some (.int (iI (gl F s (F 0).toNat)))) := by
  refine cp_of "LentRoom$Device" (by decide) rfl (Nat.le_of_ble_eq_true rfl) ?_
  intro zp ze zs zm za zb zt zc ls C hP hl
  have hd := hP
  have hl : lv_has ls 4 [(0, .ref d), (1, .int (iI x))] := hl
  have cut4 : ∀ (N : Nat) (i : Nat) (v2 : Int) (v3 : Int), 5 - i < N → ((i : Int) ≤ F 0) → (-1 ≤ v2 ∧ v2 < i) → (v2 = gl F s i) → (v3 = (i : Int)) → ∀ ls : Array Slot, lv_has ls 4 [(0, .ref d), (1, .int (iI x)), (2, .int (iI v2)), (3, .int (iI v3))] → W zp l ze (rmc 0 0) zs zm za zb zt zc zs.heap [] 0 0 (MQ zb (PQ (some (.int (iI (gl F s (F 0).toNat))))) za zs 0 0 (fun _ => False)) (F0 zm 4 ls []) := by
    intro N
    induction N with
    | zero => intro i v2 v3; exact fun hms => absurd hms (Nat.not_lt_zero _)
    | succ N ih =>
      intro i v2 v3 hms hi hb2 hv2 hv3 ls hl
      refine r_iload_n C rfl (lv_at hl 3 rfl) dX0_greatestLender_4 ?_
      refine r_aload_n C rfl (lv_at hl 0 rfl) dX0_greatestLender_5 ?_
      refine r_get C (ci := 0) (v := .int (iI (F 0))) rfl uin0 hd.o 0 (by decide) q_78 rfl rfl dX0_greatestLender_6 ?_
      have b1 := hSm.1 0 (by omega)
      have b2 := hSm.2
      refine r_icmp_ge (tgt := 48) C (by decide) (by omega) (by omega) dX0_greatestLender_9 (fun c3 => ?_) (fun c3 => ?_)
      · refine r_iload_n C rfl (lv_at hl 2 rfl) dX0_greatestLender_48 ?_
        exact r_iretP C rfl rfl (congrArg iI (by rw [hv2, show i = (F 0).toNat by omega])) dX0_greatestLender_49
      · refine r_aload_n C rfl (lv_at hl 0 rfl) dX0_greatestLender_12 ?_
        refine r_get C (ci := 0) (v := .ref (d + 5)) rfl uin0 hd.o 6 (by decide) q_87 rfl rfl dX0_greatestLender_13 ?_
        refine r_iload_n C rfl (lv_at hl 1 rfl) dX0_greatestLender_16 ?_
        refine r_aaldr (v := d + 6 + s) C hd.rl s (by omega) (by omega) (by omega) rfl dX0_greatestLender_17 ?_
        refine r_iload_n C rfl (lv_at hl 3 rfl) dX0_greatestLender_18 ?_
        refine r_iald (v := F (2 + 52 * s + (7 + i))) C (hd.l s (by omega)) i (by omega) (by omega) (by omega) rfl dX0_greatestLender_19 ?_
        have b4 := hSm.1 (2 + 52 * s + (7 + i)) (by omega)
        refine r_iload_n C rfl (lv_at hl 2 rfl) dX0_greatestLender_20 ?_
        refine r_iconst C dX0_greatestLender_21 ?_
        refine r_icmp_ne (tgt := 29) C (by decide) (by omega) (by decide) dX0_greatestLender_22 (fun c5 => ?_) (fun c5 => ?_)
        · refine r_aload_n C rfl (lv_at hl 0 rfl) dX0_greatestLender_29 ?_
          refine r_get C (ci := 0) (v := .ref (d + 5)) rfl uin0 hd.o 6 (by decide) q_87 rfl rfl dX0_greatestLender_30 ?_
          refine r_iload_n C rfl (lv_at hl 1 rfl) dX0_greatestLender_33 ?_
          refine r_aaldr (v := d + 6 + s) C hd.rl s (by omega) (by omega) (by omega) rfl dX0_greatestLender_34 ?_
          refine r_iload_n C rfl (lv_at hl 2 rfl) dX0_greatestLender_35 ?_
          refine r_iald (v := F (2 + 52 * s + (7 + ((v2).toNat)))) C (hd.l s (by omega)) ((v2).toNat) (by omega) (by omega) (by omega) rfl dX0_greatestLender_36 ?_
          have b6 := hSm.1 (2 + 52 * s + (7 + ((v2).toNat))) (by omega)
          refine r_icmp_le (tgt := 42) C (by decide) (by omega) (by omega) dX0_greatestLender_37 (fun c7 => ?_) (fun c7 => ?_)
          · refine r_iinc (lv' := [(3, .int (iI (v3 + 1))), (0, .ref d), (1, .int (iI x)), (2, .int (iI v2))]) C hl (q := 3) rfl (by decide) rfl dX0_greatestLender_42 (fun ls hl => ?_)
            refine r_goto (tgt := 4) C (by decide) dX0_greatestLender_45 ?_
            exact ih (i + 1) v2 (v3 + 1) (by omega) (by omega) (by omega) (by subst hv2; simp only [gl]; split <;> (first | omega | (split at * <;> omega))) (by omega) _ (lv_sub hl [1, 2, 3, 0] rfl)
          · refine r_iload_n C rfl (lv_at hl 3 rfl) dX0_greatestLender_40 ?_
            refine r_istore_n (lv' := [(2, .int (iI v3)), (0, .ref d), (1, .int (iI x)), (3, .int (iI v3))]) C rfl hl (by decide) rfl dX0_greatestLender_41 (fun ls hl => ?_)
            refine r_iinc (lv' := [(3, .int (iI (v3 + 1))), (2, .int (iI v3)), (0, .ref d), (1, .int (iI x))]) C hl (q := 3) rfl (by decide) rfl dX0_greatestLender_42 (fun ls hl => ?_)
            refine r_goto (tgt := 4) C (by decide) dX0_greatestLender_45 ?_
            exact ih (i + 1) v3 (v3 + 1) (by omega) (by omega) (by omega) (by subst hv2; simp only [gl]; split <;> (first | omega | (split at * <;> omega))) (by omega) _ (lv_sub hl [2, 3, 1, 0] rfl)
        · refine r_iconst C dX0_greatestLender_25 ?_
          refine r_goto (tgt := 37) C (by decide) dX0_greatestLender_26 ?_
          refine r_icmp_le (tgt := 42) C (by decide) (by omega) (by decide) dX0_greatestLender_37 (fun c8 => ?_) (fun c8 => ?_)
          · refine r_iinc (lv' := [(3, .int (iI (v3 + 1))), (0, .ref d), (1, .int (iI x)), (2, .int (iI v2))]) C hl (q := 3) rfl (by decide) rfl dX0_greatestLender_42 (fun ls hl => ?_)
            refine r_goto (tgt := 4) C (by decide) dX0_greatestLender_45 ?_
            exact ih (i + 1) v2 (v3 + 1) (by omega) (by omega) (by omega) (by subst hv2; simp only [gl]; split <;> (first | omega | (split at * <;> omega))) (by omega) _ (lv_sub hl [1, 2, 3, 0] rfl)
          · refine r_iload_n C rfl (lv_at hl 3 rfl) dX0_greatestLender_40 ?_
            refine r_istore_n (lv' := [(2, .int (iI v3)), (0, .ref d), (1, .int (iI x)), (3, .int (iI v3))]) C rfl hl (by decide) rfl dX0_greatestLender_41 (fun ls hl => ?_)
            refine r_iinc (lv' := [(3, .int (iI (v3 + 1))), (2, .int (iI v3)), (0, .ref d), (1, .int (iI x))]) C hl (q := 3) rfl (by decide) rfl dX0_greatestLender_42 (fun ls hl => ?_)
            refine r_goto (tgt := 4) C (by decide) dX0_greatestLender_45 ?_
            exact ih (i + 1) v3 (v3 + 1) (by omega) (by omega) (by omega) (by subst hv2; simp only [gl]; split <;> (first | omega | (split at * <;> omega))) (by omega) _ (lv_sub hl [2, 3, 1, 0] rfl)
  refine r_iconst C dX0_greatestLender_0 ?_
  refine r_istore_n (lv' := [(2, .int (iI (-1))), (0, .ref d), (1, .int (iI x))]) C rfl hl (by decide) rfl dX0_greatestLender_1 (fun ls hl => ?_)
  refine r_iconst C dX0_greatestLender_2 ?_
  refine r_istore_n (lv' := [(3, .int (iI 0)), (2, .int (iI (-1))), (0, .ref d), (1, .int (iI x))]) C rfl hl (by decide) rfl dX0_greatestLender_3 (fun ls hl => ?_)
  exact cut4 _ 0 (-1) 0 (Nat.lt_succ_self _) (by have := hSm.n; omega) (by omega) (by rfl) (by omega) _ (lv_sub hl [2, 3, 1, 0] rfl)
set_option maxHeartbeats 4000000 in
theorem k_X0_idlestBut (l : Launch) (g : Gt) (d : Nat) (F : Nat → Int) (hSm : Sm F) (x y : Int) (a b : Nat) (hx : x = (a : Int)) (hy : y = (b : Int)) (ha : a < 5) (hb : b < 5) : CP l yX0_idlestBut cX0_idlestBut 7 (some .int) 1 23 g [.ref d, .int (iI x), .int (iI y)] (dvAt g d F) (some (.int (iI (lender F a b)))) := by
  refine cp_of "LentRoom$Device" (by decide) rfl (Nat.le_of_ble_eq_true rfl) ?_
  intro zp ze zs zm za zb zt zc ls C hP hl
  have hd := hP
  have hl : lv_has ls 7 [(0, .ref d), (1, .int (iI x)), (2, .int (iI y))] := hl
  have cut8 : ∀ (N : Nat) (i : Nat) (v3 : Int) (v4 : Int) (v5 : Int), 5 - i < N → ((i : Int) ≤ F 0) → (-1 ≤ v3 ∧ v3 < i) → (0 ≤ v4 ∧ v4 ≤ 1000000) → (v3 = lnd F a b i) → (v4 = if lnd F a b i = -1 then 0 else idle F (lnd F a b i).toNat) → (v5 = (i : Int)) → ∀ ls : Array Slot, lv_has ls 7 [(0, .ref d), (1, .int (iI x)), (2, .int (iI y)), (3, .int (iI v3)), (4, .int (iI v4)), (5, .int (iI v5))] → W zp l ze (rmc 1 23) zs zm za zb zt zc zs.heap [] 0 0 (MQ zb (PQ (some (.int (iI (lender F a b))))) za zs 0 0 (fun _ => False)) (F0 zm 8 ls []) := by
    intro N
    induction N with
    | zero => intro i v3 v4 v5; exact fun hms => absurd hms (Nat.not_lt_zero _)
    | succ N ih =>
      intro i v3 v4 v5 hms hi hb3 hb4 hv3 hv4 hv5 ls hl
      refine r_iload C (lv_at hl 5 rfl) dX0_idlestBut_8 ?_
      refine r_aload_n C rfl (lv_at hl 0 rfl) dX0_idlestBut_10 ?_
      refine r_get C (ci := 0) (v := .int (iI (F 0))) rfl uin0 hd.o 0 (by decide) q_78 rfl rfl dX0_idlestBut_11 ?_
      have b1 := hSm.1 0 (by omega)
      have b2 := hSm.2
      refine r_icmp_ge (tgt := 57) C (by decide) (by omega) (by omega) dX0_idlestBut_14 (fun c3 => ?_) (fun c3 => ?_)
      · refine r_iload_n C rfl (lv_at hl 3 rfl) dX0_idlestBut_57 ?_
        exact r_iretP C rfl rfl (congrArg iI (by rw [hv3, show i = (F 0).toNat by omega]; rfl)) dX0_idlestBut_58
      · refine r_aload_n C rfl (lv_at hl 0 rfl) dX0_idlestBut_17 ?_
        refine r_iload C (lv_at hl 5 rfl) dX0_idlestBut_18 ?_
        refine r_vPi (rest := []) C (k_X0_idleOf l g d F hSm v5 i (by omega) (by omega)) s_RX0_80 hd (recv C (ci := 0) rfl hd.o) hl.1 rfl ⟨by decide, by decide⟩ rfl (Nat.le_of_ble_eq_true rfl) ⟨Nat.le_refl 0, Nat.le_refl 0⟩ dX0_idlestBut_20 ?_
        have b4 := idle_b hSm i (by omega)
        refine r_istore (lv' := [(6, .int (iI (idle F i))), (0, .ref d), (1, .int (iI x)), (2, .int (iI y)), (3, .int (iI v3)), (4, .int (iI v4)), (5, .int (iI v5))]) C hl (by decide) rfl dX0_idlestBut_23 (fun ls hl => ?_)
        refine r_iload C (lv_at hl 6 rfl) dX0_idlestBut_25 ?_
        refine r_iload_n C rfl (lv_at hl 2 rfl) dX0_idlestBut_27 ?_
        refine r_icmp_eq (tgt := 51) C (by decide) (by omega) (by omega) dX0_idlestBut_28 (fun c5 => ?_) (fun c5 => ?_)
        · refine r_iinc (lv' := [(5, .int (iI (v5 + 1))), (6, .int (iI (idle F i))), (0, .ref d), (1, .int (iI x)), (2, .int (iI y)), (3, .int (iI v3)), (4, .int (iI v4))]) C hl (q := 6) rfl (by decide) rfl dX0_idlestBut_51 (fun ls hl => ?_)
          refine r_goto (tgt := 8) C (by decide) dX0_idlestBut_54 ?_
          exact ih (i + 1) v3 v4 (v5 + 1) (by omega) (by omega) (by omega) (by omega) (by subst hv3 hv4; simp only [lnd]; have hq := lnd_i (F := F) a b i; (repeat' split) <;> (try simp only [Int.toNat_natCast] at *) <;> omega) (by subst hv3 hv4; simp only [lnd]; have hq := lnd_i (F := F) a b i; (repeat' split) <;> (try simp only [Int.toNat_natCast] at *) <;> omega) (by omega) _ (lv_sub hl [2, 3, 4, 5, 6, 0] rfl)
        · refine r_iload C (lv_at hl 6 rfl) dX0_idlestBut_31 ?_
          refine r_iload_n C rfl (lv_at hl 3 rfl) dX0_idlestBut_33 ?_
          refine r_icmp_eq (tgt := 51) C (by decide) (by omega) (by omega) dX0_idlestBut_34 (fun c6 => ?_) (fun c6 => ?_)
          · refine r_iinc (lv' := [(5, .int (iI (v5 + 1))), (6, .int (iI (idle F i))), (0, .ref d), (1, .int (iI x)), (2, .int (iI y)), (3, .int (iI v3)), (4, .int (iI v4))]) C hl (q := 6) rfl (by decide) rfl dX0_idlestBut_51 (fun ls hl => ?_)
            refine r_goto (tgt := 8) C (by decide) dX0_idlestBut_54 ?_
            exact ih (i + 1) v3 v4 (v5 + 1) (by omega) (by omega) (by omega) (by omega) (by subst hv3 hv4; simp only [lnd]; have hq := lnd_i (F := F) a b i; (repeat' split) <;> (try simp only [Int.toNat_natCast] at *) <;> omega) (by subst hv3 hv4; simp only [lnd]; have hq := lnd_i (F := F) a b i; (repeat' split) <;> (try simp only [Int.toNat_natCast] at *) <;> omega) (by omega) _ (lv_sub hl [2, 3, 4, 5, 6, 0] rfl)
          · refine r_iload C (lv_at hl 0 rfl) dX0_idlestBut_37 ?_
            refine r_iload C (lv_at hl 5 rfl) dX0_idlestBut_39 ?_
            refine r_icmp_le (tgt := 51) C (by decide) (by omega) (by omega) dX0_idlestBut_41 (fun c7 => ?_) (fun c7 => ?_)
            · refine r_iinc (lv' := [(5, .int (iI (v5 + 1))), (6, .int (iI (idle F i))), (0, .ref d), (1, .int (iI x)), (2, .int (iI y)), (3, .int (iI v3)), (4, .int (iI v4))]) C hl (q := 6) rfl (by decide) rfl dX0_idlestBut_51 (fun ls hl => ?_)
              refine r_goto (tgt := 8) C (by decide) dX0_idlestBut_54 ?_
              exact ih (i + 1) v3 v4 (v5 + 1) (by omega) (by omega) (by omega) (by omega) (by subst hv3 hv4; simp only [lnd]; have hq := lnd_i (F := F) a b i; (repeat' split) <;> (try simp only [Int.toNat_natCast] at *) <;> omega) (by subst hv3 hv4; simp only [lnd]; have hq := lnd_i (F := F) a b i; (repeat' split) <;> (try simp only [Int.toNat_natCast] at *) <;> omega) (by omega) _ (lv_sub hl [2, 3, 4, 5, 6, 0] rfl)
            · refine r_iload C (lv_at hl 6 rfl) dX0_idlestBut_44 ?_
              refine r_istore_n (lv' := [(3, .int (iI v5)), (6, .int (iI (idle F i))), (0, .ref d), (1, .int (iI x)), (2, .int (iI y)), (4, .int (iI v4)), (5, .int (iI v5))]) C rfl hl (by decide) rfl dX0_idlestBut_46 (fun ls hl => ?_)
              refine r_iload C (lv_at hl 1 rfl) dX0_idlestBut_47 ?_
              refine r_istore (lv' := [(4, .int (iI (idle F i))), (3, .int (iI v5)), (6, .int (iI (idle F i))), (0, .ref d), (1, .int (iI x)), (2, .int (iI y)), (5, .int (iI v5))]) C hl (by decide) rfl dX0_idlestBut_49 (fun ls hl => ?_)
              refine r_iinc (lv' := [(5, .int (iI (v5 + 1))), (4, .int (iI (idle F i))), (3, .int (iI v5)), (6, .int (iI (idle F i))), (0, .ref d), (1, .int (iI x)), (2, .int (iI y))]) C hl (q := 6) rfl (by decide) rfl dX0_idlestBut_51 (fun ls hl => ?_)
              refine r_goto (tgt := 8) C (by decide) dX0_idlestBut_54 ?_
              exact ih (i + 1) v5 (idle F i) (v5 + 1) (by omega) (by omega) (by omega) (by omega) (by subst hv3 hv4; simp only [lnd]; have hq := lnd_i (F := F) a b i; (repeat' split) <;> (try simp only [Int.toNat_natCast] at *) <;> omega) (by subst hv3 hv4; simp only [lnd]; have hq := lnd_i (F := F) a b i; (repeat' split) <;> (try simp only [Int.toNat_natCast] at *) <;> omega) (by omega) _ (lv_sub hl [4, 5, 6, 2, 1, 0] rfl)
  refine r_iconst C dX0_idlestBut_0 ?_
  refine r_istore_n (lv' := [(3, .int (iI (-1))), (0, .ref d), (1, .int (iI x)), (2, .int (iI y))]) C rfl hl (by decide) rfl dX0_idlestBut_1 (fun ls hl => ?_)
  refine r_iconst C dX0_idlestBut_2 ?_
  refine r_istore (lv' := [(4, .int (iI 0)), (3, .int (iI (-1))), (0, .ref d), (1, .int (iI x)), (2, .int (iI y))]) C hl (by decide) rfl dX0_idlestBut_3 (fun ls hl => ?_)
  refine r_iconst C dX0_idlestBut_5 ?_
  refine r_istore (lv' := [(5, .int (iI 0)), (4, .int (iI 0)), (3, .int (iI (-1))), (0, .ref d), (1, .int (iI x)), (2, .int (iI y))]) C hl (by decide) rfl dX0_idlestBut_6 (fun ls hl => ?_)
  exact cut8 _ 0 (-1) 0 0 (Nat.lt_succ_self _) (by have := hSm.n; omega) (by omega) (by omega) (by rfl) (by rfl) (by omega) _ (lv_sub hl [3, 4, 5, 2, 1, 0] rfl)
set_option maxHeartbeats 4000000 in
theorem k_X0_pageByAge (l : Launch) (g : Gt) (d : Nat) (F : Nat → Int) (hSm : Sm F) (x : Int) (s : Nat) (hx : x = (s : Int)) (hs : s < 5) (y : Int) (k : Nat) (hy : y = (k : Int)) (hry : Rg y) : CP l yX0_pageByAge cX0_pageByAge 5 (some .int) 1 24 g [.ref d, .int (iI x), .int (iI y)] (dvAt g d F) (some (.int (iI (if y < 40 then pba F s k else -1)))) := by
  refine cp_of "LentRoom$Device" (by decide) rfl (Nat.le_of_ble_eq_true rfl) ?_
  intro zp ze zs zm za zb zt zc ls C hP hl
  have hd := hP
  have hl : lv_has ls 5 [(0, .ref d), (1, .int (iI x)), (2, .int (iI y))] := hl
  have cut18 : ∀ (N : Nat) (i : Nat) (v3 : Int) (v4 : Int), k - i < N → (i ≤ k) → (k < 40) → (-1 ≤ v3 ∧ v3 < 40) → (v3 = pba F s i) → (v4 = (i : Int)) → ∀ ls : Array Slot, lv_has ls 5 [(0, .ref d), (1, .int (iI x)), (2, .int (iI y)), (3, .int (iI v3)), (4, .int (iI v4))] → W zp l ze (rmc 1 24) zs zm za zb zt zc zs.heap [] 0 0 (MQ zb (PQ (some (.int (iI (if y < 40 then pba F s k else -1))))) za zs 0 0 (fun _ => False)) (F0 zm 18 ls []) := by
    intro N
    induction N with
    | zero => intro i v3 v4; exact fun hms => absurd hms (Nat.not_lt_zero _)
    | succ N ih =>
      intro i v3 v4 hms hi hk hb3 hv3 hv4 ls hl
      refine r_iload C (lv_at hl 4 rfl) dX0_pageByAge_18 ?_
      refine r_iload_n C rfl (lv_at hl 2 rfl) dX0_pageByAge_20 ?_
      refine r_icmp_ge (tgt := 49) C (by decide) (by omega) (by omega) dX0_pageByAge_21 (fun c1 => ?_) (fun c1 => ?_)
      · refine r_iload_n C rfl (lv_at hl 3 rfl) dX0_pageByAge_49 ?_
        exact r_iretP C rfl rfl (congrArg iI (by rw [if_pos (by omega), hv3]; rw [show i = k by omega])) dX0_pageByAge_50
      · refine r_iload_n C rfl (lv_at hl 3 rfl) dX0_pageByAge_24 ?_
        refine r_iconst C dX0_pageByAge_25 ?_
        refine r_icmp_eq (tgt := 49) C (by decide) (by omega) (by decide) dX0_pageByAge_26 (fun c2 => ?_) (fun c2 => ?_)
        · refine r_iload_n C rfl (lv_at hl 3 rfl) dX0_pageByAge_49 ?_
          exact r_iretP C rfl rfl (congrArg iI (by rw [if_pos (by omega), hv3]; have h9 : ∀ j, pba F s (i + j) = -1 := (fun j => by induction j with | zero => (have : v3 = -1 := (by omega); rw [Nat.add_zero]; omega) | succ j ih => (show pba F s ((i + j) + 1) = -1; simp only [pba]; rw [if_pos ih])); have := h9 (k - i); rw [show i + (k - i) = k by omega] at this; have := h9 0; rw [Nat.add_zero] at this; omega)) dX0_pageByAge_50
        · refine r_aload_n C rfl (lv_at hl 0 rfl) dX0_pageByAge_29 ?_
          refine r_iload_n C rfl (lv_at hl 1 rfl) dX0_pageByAge_30 ?_
          refine r_aload_n C rfl (lv_at hl 0 rfl) dX0_pageByAge_31 ?_
          refine r_get C (ci := 0) (v := .ref (d + 11)) rfl uin0 hd.o 7 (by decide) q_89 rfl rfl dX0_pageByAge_32 ?_
          refine r_iload_n C rfl (lv_at hl 1 rfl) dX0_pageByAge_35 ?_
          refine r_aaldr (v := d + 12 + s) C hd.rw s (by omega) (by omega) (by omega) rfl dX0_pageByAge_36 ?_
          refine r_iload_n C rfl (lv_at hl 3 rfl) dX0_pageByAge_37 ?_
          refine r_iald (v := F (2 + 52 * s + (12 + ((v3).toNat)))) C (hd.w s (by omega)) ((v3).toNat) (by omega) (by omega) (by omega) rfl dX0_pageByAge_38 ?_
          have b3 := hSm.1 (2 + 52 * s + (12 + ((v3).toNat))) (by omega)
          refine r_vPi (rest := []) C (k_X0_oldestAfter l g d F hSm x s (by omega) (by omega) (F (2 + 52 * s + (12 + ((v3).toNat)))) (by omega)) s_RX0_102 hd (recv C (ci := 0) rfl hd.o) hl.1 rfl ⟨by decide, by decide⟩ rfl (Nat.le_of_ble_eq_true rfl) ⟨Nat.le_refl 0, Nat.le_refl 0⟩ dX0_pageByAge_39 ?_
          have b4 := oa_b (F := F) s (F (2 + 52 * s + (12 + ((v3).toNat)))) 40
          refine r_istore_n (lv' := [(3, .int (iI (oa F s (F (2 + 52 * s + (12 + ((v3).toNat)))) 40))), (0, .ref d), (1, .int (iI x)), (2, .int (iI y)), (4, .int (iI v4))]) C rfl hl (by decide) rfl dX0_pageByAge_42 (fun ls hl => ?_)
          refine r_iinc (lv' := [(4, .int (iI (v4 + 1))), (3, .int (iI (oa F s (F (2 + 52 * s + (12 + ((v3).toNat)))) 40))), (0, .ref d), (1, .int (iI x)), (2, .int (iI y))]) C hl (q := 4) rfl (by decide) rfl dX0_pageByAge_43 (fun ls hl => ?_)
          refine r_goto (tgt := 18) C (by decide) dX0_pageByAge_46 ?_
          exact ih (i + 1) (oa F s (F (2 + 52 * s + (12 + ((v3).toNat)))) 40) (v4 + 1) (by omega) (by omega) (by omega) (by omega) (by subst hv3; simp only [pba]; rw [if_neg (by omega)]) (by omega) _ (lv_sub hl [2, 3, 4, 1, 0] rfl)
  refine r_iload_n C rfl (lv_at hl 2 rfl) dX0_pageByAge_0 ?_
  refine r_bipush C (by decide) dX0_pageByAge_1 ?_
  refine r_icmp_lt (tgt := 8) C (by decide) (by omega) (by decide) dX0_pageByAge_3 (fun c5 => ?_) (fun c5 => ?_)
  · refine r_aload_n C rfl (lv_at hl 0 rfl) dX0_pageByAge_8 ?_
    refine r_iload_n C rfl (lv_at hl 1 rfl) dX0_pageByAge_9 ?_
    refine r_iconst C dX0_pageByAge_10 ?_
    refine r_vPi (rest := []) C (k_X0_oldestAfter l g d F hSm x s (by omega) (by omega) 0 (by omega)) s_RX0_102 hd (recv C (ci := 0) rfl hd.o) hl.1 rfl ⟨by decide, by decide⟩ rfl (Nat.le_of_ble_eq_true rfl) ⟨Nat.le_refl 0, Nat.le_refl 0⟩ dX0_pageByAge_11 ?_
    have b6 := oa_b (F := F) s 0 40
    refine r_istore_n (lv' := [(3, .int (iI (oa F s 0 40))), (0, .ref d), (1, .int (iI x)), (2, .int (iI y))]) C rfl hl (by decide) rfl dX0_pageByAge_14 (fun ls hl => ?_)
    refine r_iconst C dX0_pageByAge_15 ?_
    refine r_istore (lv' := [(4, .int (iI 0)), (3, .int (iI (oa F s 0 40))), (0, .ref d), (1, .int (iI x)), (2, .int (iI y))]) C hl (by decide) rfl dX0_pageByAge_16 (fun ls hl => ?_)
    exact cut18 _ 0 (oa F s 0 40) 0 (Nat.lt_succ_self _) (by omega) (by omega) (by omega) (by rfl) (by omega) _ (lv_sub hl [2, 3, 4, 1, 0] rfl)
  · refine r_iconst C dX0_pageByAge_6 ?_
    exact r_iretP C rfl rfl (congrArg iI (by rw [if_neg (by omega)])) dX0_pageByAge_7
set_option maxHeartbeats 4000000 in
theorem k_X0_areBounds (l : Launch) (g : Gt) (d : Nat) (F : Nat → Int) (hSm : Sm F) (x y : Int) (hx : Rg x) (hy : Rg y) : CP l yX0_areBounds cX0_areBounds 3 (some .boolean) 0 0 g [.ref d, .int (iI x), .int (iI y)] (dvAt g d F) (some (.int (iI (pI (0 ≤ x ∧ x ≤ y ∧ 1 ≤ y ∧ y ≤ 60))))) := by
  refine cp_of "LentRoom$Device" (by decide) rfl (Nat.le_of_ble_eq_true rfl) ?_
  intro zp ze zs zm za zb zt zc ls C hP hl
  have hd := hP
  have hl : lv_has ls 3 [(0, .ref d), (1, .int (iI x)), (2, .int (iI y))] := hl
  refine r_iload_n C rfl (lv_at hl 1 rfl) dX0_areBounds_0 ?_
  refine r_if_lt (tgt := 24) C (by decide) (by omega) dX0_areBounds_1 (fun c1 => ?_) (fun c1 => ?_)
  · refine r_iconst C dX0_areBounds_24 ?_
    exact r_iretP C rfl rfl (congrArg iI (pI_f (by omega)).symm) dX0_areBounds_25
  · refine r_iload_n C rfl (lv_at hl 1 rfl) dX0_areBounds_4 ?_
    refine r_iload_n C rfl (lv_at hl 2 rfl) dX0_areBounds_5 ?_
    refine r_icmp_gt (tgt := 24) C (by decide) (by omega) (by omega) dX0_areBounds_6 (fun c2 => ?_) (fun c2 => ?_)
    · refine r_iconst C dX0_areBounds_24 ?_
      exact r_iretP C rfl rfl (congrArg iI (pI_f (by omega)).symm) dX0_areBounds_25
    · refine r_iload_n C rfl (lv_at hl 2 rfl) dX0_areBounds_9 ?_
      refine r_iconst C dX0_areBounds_10 ?_
      refine r_icmp_lt (tgt := 24) C (by decide) (by omega) (by decide) dX0_areBounds_11 (fun c3 => ?_) (fun c3 => ?_)
      · refine r_iconst C dX0_areBounds_24 ?_
        exact r_iretP C rfl rfl (congrArg iI (pI_f (by omega)).symm) dX0_areBounds_25
      · refine r_iload_n C rfl (lv_at hl 2 rfl) dX0_areBounds_14 ?_
        refine r_bipush C (by decide) dX0_areBounds_15 ?_
        refine r_icmp_gt (tgt := 24) C (by decide) (by omega) (by decide) dX0_areBounds_17 (fun c4 => ?_) (fun c4 => ?_)
        · refine r_iconst C dX0_areBounds_24 ?_
          exact r_iretP C rfl rfl (congrArg iI (pI_f (by omega)).symm) dX0_areBounds_25
        · refine r_iconst C dX0_areBounds_20 ?_
          refine r_goto (tgt := 25) C (by decide) dX0_areBounds_21 ?_
          exact r_iretP C rfl rfl (congrArg iI (pI_t (by omega)).symm) dX0_areBounds_25
set_option maxHeartbeats 4000000 in
theorem k_X0_hasRoomForSpace (l : Launch) (g : Gt) (d : Nat) (F : Nat → Int) (hSm : Sm F) (x : Int) (hx : Rg x) : CP l yX0_hasRoomForSpace cX0_hasRoomForSpace 2 (some .boolean) 2 45 g [.ref d, .int (iI x)] (dvAt g d F) (some (.int (iI (pI (F 0 < 5 ∧ x ≤ free F))))) := by
  refine cp_of "LentRoom$Device" (by decide) rfl (Nat.le_of_ble_eq_true rfl) ?_
  intro zp ze zs zm za zb zt zc ls C hP hl
  have hd := hP
  have hl : lv_has ls 2 [(0, .ref d), (1, .int (iI x))] := hl
  refine r_aload_n C rfl (lv_at hl 0 rfl) dX0_hasRoomForSpace_0 ?_
  refine r_get C (ci := 0) (v := .int (iI (F 0))) rfl uin0 hd.o 0 (by decide) q_78 rfl rfl dX0_hasRoomForSpace_1 ?_
  have b1 := hSm.1 0 (by omega)
  have b2 := hSm.2
  refine r_iconst C dX0_hasRoomForSpace_4 ?_
  refine r_icmp_ge (tgt := 20) C (by decide) (by omega) (by decide) dX0_hasRoomForSpace_5 (fun c3 => ?_) (fun c3 => ?_)
  · refine r_iconst C dX0_hasRoomForSpace_20 ?_
    exact r_iretP C rfl rfl (congrArg iI (pI_f (by omega)).symm) dX0_hasRoomForSpace_21
  · refine r_iload_n C rfl (lv_at hl 1 rfl) dX0_hasRoomForSpace_8 ?_
    refine r_aload_n C rfl (lv_at hl 0 rfl) dX0_hasRoomForSpace_9 ?_
    refine r_vPi (rest := [.int (iI x)]) C (k_X0_freeCommonRoom l g d F hSm) s_RX0_90 hd (recv C (ci := 0) rfl hd.o) hl.1 rfl ⟨by decide, by decide⟩ rfl (Nat.le_of_ble_eq_true rfl) ⟨Nat.le_refl 0, Nat.le_refl 0⟩ dX0_hasRoomForSpace_10 ?_
    have b4 := free_b hSm
    refine r_icmp_gt (tgt := 20) C (by decide) (by omega) (by omega) dX0_hasRoomForSpace_13 (fun c5 => ?_) (fun c5 => ?_)
    · refine r_iconst C dX0_hasRoomForSpace_20 ?_
      exact r_iretP C rfl rfl (congrArg iI (pI_f (by omega)).symm) dX0_hasRoomForSpace_21
    · refine r_iconst C dX0_hasRoomForSpace_16 ?_
      refine r_goto (tgt := 21) C (by decide) dX0_hasRoomForSpace_17 ?_
      exact r_iretP C rfl rfl (congrArg iI (pI_t (by omega)).symm) dX0_hasRoomForSpace_21
set_option maxHeartbeats 4000000 in
theorem k_X0_smallestFloor (l : Launch) (g : Gt) (d : Nat) (F : Nat → Int) (hSm : Sm F) (x : Int) (s : Nat) (hx : x = (s : Int)) (hs : s < 5) : CP l yX0_smallestFloor cX0_smallestFloor 2 (some .int) 1 23 g [.ref d, .int (iI x)] (dvAt g d F) (some (.int (iI (F (2 + 52 * s + 0) - idle F s)))) := by
  refine cp_of "LentRoom$Device" (by decide) rfl (Nat.le_of_ble_eq_true rfl) ?_
  intro zp ze zs zm za zb zt zc ls C hP hl
  have hd := hP
  have hl : lv_has ls 2 [(0, .ref d), (1, .int (iI x))] := hl
  refine r_aload_n C rfl (lv_at hl 0 rfl) dX0_smallestFloor_0 ?_
  refine r_get C (ci := 0) (v := .ref (d + 1)) rfl uin0 hd.o 2 (by decide) q_81 rfl rfl dX0_smallestFloor_1 ?_
  refine r_iload_n C rfl (lv_at hl 1 rfl) dX0_smallestFloor_4 ?_
  refine r_iald (v := F (2 + 52 * s + 0)) C hd.c0 s (by omega) (by omega) (by omega) rfl dX0_smallestFloor_5 ?_
  have b1 := hSm.1 (2 + 52 * s + 0) (by omega)
  refine r_aload_n C rfl (lv_at hl 0 rfl) dX0_smallestFloor_6 ?_
  refine r_iload_n C rfl (lv_at hl 1 rfl) dX0_smallestFloor_7 ?_
  refine r_vPi (rest := [.int (iI (F (2 + 52 * s + 0)))]) C (k_X0_idleOf l g d F hSm x s (by omega) (by omega)) s_RX0_80 hd (recv C (ci := 0) rfl hd.o) hl.1 rfl ⟨by decide, by decide⟩ rfl (Nat.le_of_ble_eq_true rfl) ⟨Nat.le_refl 0, Nat.le_refl 0⟩ dX0_smallestFloor_8 ?_
  have b2 := idle_b hSm s (by omega)
  refine r_isub C dX0_smallestFloor_11 ?_
  exact r_iretP C rfl rfl (congrArg iI (by first | rfl | omega)) dX0_smallestFloor_12
end
section
/-! ===== writes, trims, recalls: what the numbers become ===== -/
def inc (F : Nat → Int) (k : Nat) : Nat → Int := up F k (F k + 1)
def dec (F : Nat → Int) (k : Nat) : Nat → Int := up F k (F k - 1)
def mostOf (F : Nat → Int) (l : Nat) : Nat := mo F l (F 0).toNat
def mostFrom (F : Nat → Int) (s : Nat) : Nat := mf F s 5
def least (F : Nat → Int) (s : Nat) : Int := oa F s 0 40
def mn (a b : Int) : Int := if b < a then b else a
def rc1 (F : Nat → Int) (s : Nat) : Nat → Int := inc (dec F (2 + 52 * mostOf F s + (7 + s))) (2 + 52 * s + 4)
def lose (F : Nat → Int) (b : Nat) : Nat → Int := inc (if least F b = -1 then F else up F (2 + 52 * b + (12 + (least F b).toNat)) 0) (2 + 52 * b + 5)
def rehouse (F : Nat → Int) (b s : Nat) : Nat → Int :=
  if 0 < idle F b then inc F (2 + 52 * b + 2) else if 0 < free F then inc F (2 + 52 * b + 3) else if lender F b s = -1 then lose F b else inc F (2 + 52 * b + (7 + (lender F b s).toNat))
def rehouseL (F : Nat → Int) (b s : Nat) : Int := if 0 < idle F b then -1 else if 0 < free F then -1 else if lender F b s = -1 then (b : Int) else -1
def recall (F : Nat → Int) (s : Nat) : Nat → Int := rehouse (rc1 F s) (mostOf F s) s
def recallL (F : Nat → Int) (s : Nat) : Int := rehouseL (rc1 F s) (mostOf F s) s
def needR (F : Nat → Int) (s : Nat) : Int :=
  if F (2 + 52 * s + 1) ≤ tk F s then 5 else if F (2 + 52 * s + 2) < F (2 + 52 * s + 0) then (if 0 < idle F s then 1 else 2) else if 0 < free F then 3 else if lender F s s = -1 then 5 else 4
def needF (F : Nat → Int) (s : Nat) : Nat → Int :=
  if F (2 + 52 * s + 1) ≤ tk F s then F else if F (2 + 52 * s + 2) < F (2 + 52 * s + 0) then inc (if 0 < idle F s then F else recall F s) (2 + 52 * s + 2) else if 0 < free F then inc F (2 + 52 * s + 3) else if lender F s s = -1 then F else inc F (2 + 52 * s + (7 + (lender F s s).toNat))
def needL (F : Nat → Int) (s : Nat) : Int :=
  if F (2 + 52 * s + 1) ≤ tk F s then -1 else if F (2 + 52 * s + 2) < F (2 + 52 * s + 0) then (if 0 < idle F s then -1 else recallL F s) else -1
def tick (F : Nat → Int) (s p : Nat) : Nat → Int := up (inc F 1) (2 + 52 * s + (12 + p)) (inc F 1 1)
def wrR (F : Nat → Int) (s p : Nat) : Int := if 0 < F (2 + 52 * s + (12 + p)) then 0 else needR F s
def wrF (F : Nat → Int) (s p : Nat) : Nat → Int := if 0 < F (2 + 52 * s + (12 + p)) then tick F s p else if needR F s = 5 then inc (needF F s) (2 + 52 * s + 6) else tick (needF F s) s p
def tr1 (F : Nat → Int) (s p : Nat) : Nat → Int := up F (2 + 52 * s + (12 + p)) 0
def unback (F : Nat → Int) (s : Nat) : Nat → Int := if 0 < borr F s then dec F (2 + 52 * s + (7 + mostFrom F s)) else if 0 < F (2 + 52 * s + 3) then dec F (2 + 52 * s + 3) else dec F (2 + 52 * s + 2)
def trF (F : Nat → Int) (s p : Nat) : Nat → Int := unback (tr1 F s p) s
def mkF (F : Nat → Int) (x y : Int) : Nat → Int := up (up (up F (2 + 52 * (F 0).toNat + 0) x) (2 + 52 * (F 0).toNat + 1) y) 0 (F 0 + 1)
abbrev okMk (F : Nat → Int) (x y : Int) : Prop := (0 ≤ x ∧ x ≤ y ∧ 1 ≤ y ∧ y ≤ 60) ∧ F 0 < 5 ∧ x ≤ free F
abbrev okFl (F : Nat → Int) (s : Nat) (v : Int) : Prop := F (2 + 52 * s + 0) - idle F s ≤ v ∧ v ≤ mn (F (2 + 52 * s + 1)) (F (2 + 52 * s + 0) + free F)
abbrev okCe (F : Nat → Int) (s : Nat) (v : Int) : Prop := F (2 + 52 * s + 0) ≤ v ∧ 1 ≤ v ∧ v ≤ 60
/-! ===== what always holds of them ===== -/
def Sn (F : Nat → Int) (M : Int) : Prop := (∀ k, k < 262 → 0 ≤ F k ∧ F k ≤ M) ∧ F 0 ≤ 5
def Cz (F : Nat → Int) : Prop := ∀ s l : Nat, F 0 ≤ (l : Int) → s < 5 → l < 5 → F (2 + 52 * s + (7 + l)) = 0
def Dg (F : Nat → Int) : Prop := ∀ s : Nat, s < 5 → F (2 + 52 * s + (7 + s)) = 0
def Pg (F : Nat → Int) (x : Nat) : Prop := ∀ s : Nat, s < 5 → s ≠ x → 0 < tk F s → least F s ≠ -1
/-- what a walk needs: bounds, nothing beyond the spaces, no loan of itself, a page where there is room -/
def Wk (F : Nat → Int) (x : Nat) (M : Int) : Prop := Sn F M ∧ Zr F ∧ Cz F ∧ Dg F ∧ Pg F x
theorem Sn.m {F : Nat → Int} {M : Int} (h : Sn F M) (hM : M ≤ 1000000) : Sm F := ⟨fun k hk => by have := h.1 k hk; omega, h.2⟩
theorem Sn.mono {F : Nat → Int} {M M' : Int} (h : Sn F M) (hM : M ≤ M') : Sn F M' := ⟨fun k hk => by have := h.1 k hk; omega, h.2⟩
theorem Sn.n {F : Nat → Int} {M : Int} (h : Sn F M) : 0 ≤ F 0 ∧ F 0 ≤ 5 := ⟨(h.1 0 (by omega)).1, h.2⟩
theorem Sn.up {F : Nat → Int} {M x : Int} {k : Nat} (h : Sn F M) (h0 : k ≠ 0) (hx : 0 ≤ x ∧ x ≤ M) : Sn (up F k x) M := by
  refine ⟨fun j hj => ?_, by rw [up_n _ _ (Ne.symm h0)]; exact h.2⟩
  by_cases e : j = k
  · rw [up_e _ _ e]; exact hx
  · rw [up_n _ _ e]; exact h.1 j hj
theorem Sn.inc {F : Nat → Int} {M : Int} {k : Nat} (h : Sn F M) (h0 : k ≠ 0) (hk : k < 262) : Sn (inc F k) (M + 1) := by
  have := h.1 k hk
  exact (h.mono (show M ≤ M + 1 by omega)).up h0 ⟨by omega, by omega⟩
theorem Sn.dec {F : Nat → Int} {M : Int} {k : Nat} (h : Sn F M) (h0 : k ≠ 0) (hk : k < 262) (hp : 0 < F k) : Sn (dec F k) M := by
  have := h.1 k hk
  exact h.up h0 ⟨by omega, by omega⟩
section MB
variable {F : Nat → Int}
theorem gb_mo (hS : Sm F) (l : Nat) (hl : l < 5) : ∀ i : Nat, i ≤ 5 → (gb F l i = -1 ∧ ∀ j, j < i → F (2 + 52 * j + (7 + l)) = 0) ∨ (gb F l i = (mo F l i : Int) ∧ mo F l i < i ∧ 0 < F (2 + 52 * mo F l i + (7 + l)))
  | 0, _ => Or.inl ⟨rfl, fun j h => absurd h (Nat.not_lt_zero j)⟩
  | i + 1, hi => by
    have hi0 := hS.f i (7 + l) (by omega) (by omega)
    rcases gb_mo hS l hl i (by omega) with ⟨h1, h2⟩ | ⟨h1, h2, h3⟩
    · by_cases hp : F (2 + 52 * i + (7 + l)) = 0
      · refine Or.inl ⟨?_, fun j hj => ?_⟩
        · simp only [gb, h1, if_true, hp]
          simp
        · by_cases e : j = i
          · rw [e]; exact hp
          · exact h2 j (by omega)
      · refine Or.inr ?_
        have e0 : mo F l i = 0 ∨ mo F l i < i := by have := mo_b (F := F) l i; omega
        have hm : F (2 + 52 * mo F l i + (7 + l)) < F (2 + 52 * i + (7 + l)) ∨ (i = 0 ∧ mo F l i = 0) := by
          rcases e0 with e0 | e0
          · by_cases hi0 : i = 0
            · exact Or.inr ⟨hi0, e0⟩
            · left; rw [h2 _ (by omega)]; omega
          · left; rw [h2 _ e0]; omega
        have hm1 : mo F l (i + 1) = i := by
          rcases hm with hm | ⟨hm, hm2⟩
          · simp only [mo]; rw [if_pos hm]
          · simp only [mo]; subst hm; split <;> omega
        rw [hm1]
        refine ⟨?_, by omega, by omega⟩
        simp only [gb, h1]
        rw [if_pos (by simp; omega)]
    · refine Or.inr ?_
      simp only [gb, mo, h1]
      rw [if_neg (show ¬ ((mo F l i : Nat) : Int) = -1 by omega), Int.toNat_natCast]
      split
      · refine ⟨rfl, by omega, by omega⟩
      · exact ⟨rfl, by omega, h3⟩
theorem gb_most (hS : Sm F) (hZ : Zr F) {l : Nat} (hl : l < 5) (hp : 0 < S5 F (7 + l)) : gb F l (F 0).toNat = (mostOf F l : Int) ∧ (mostOf F l : Int) < F 0 ∧ 0 < F (2 + 52 * mostOf F l + (7 + l)) := by
  have hn := hS.n
  rcases gb_mo hS l hl (F 0).toNat (by omega) with ⟨-, h2⟩ | ⟨h1, h2, h3⟩
  · exfalso
    have hz : ∀ j, j < 5 → F (2 + 52 * j + (7 + l)) = 0 := fun j hj => by
      by_cases e : j < (F 0).toNat
      · exact h2 j e
      · exact hZ j _ (by omega) hj (by omega)
    unfold S5 at hp
    rw [sumI_5, hz 0 (by omega), hz 1 (by omega), hz 2 (by omega), hz 3 (by omega), hz 4 (by omega)] at hp
    omega
  · exact ⟨h1, by unfold mostOf; omega, h3⟩
theorem gl_mf (hS : Sm F) (s : Nat) (hs : s < 5) : ∀ i : Nat, i ≤ 5 → (gl F s i = -1 ∧ mf F s i = 0 ∧ ∀ j, j < i → F (2 + 52 * s + (7 + j)) = 0) ∨ (gl F s i = (mf F s i : Int) ∧ mf F s i < i ∧ 0 < F (2 + 52 * s + (7 + mf F s i)))
  | 0, _ => Or.inl ⟨rfl, rfl, fun j h => absurd h (Nat.not_lt_zero j)⟩
  | i + 1, hi => by
    have hi0 := hS.f s (7 + i) (by omega) (by omega)
    have h00 := hS.f s (7 + 0) (by omega) (by omega)
    rcases gl_mf hS s hs i (by omega) with ⟨h1, hm, h2⟩ | ⟨h1, h2, h3⟩
    · by_cases hp : F (2 + 52 * s + (7 + i)) = 0
      · refine Or.inl ⟨?_, ?_, fun j hj => ?_⟩
        · simp only [gl, h1, if_true, hp]
          simp
        · simp only [mf, hm, hp]
          split
          · omega
          · rfl
        · by_cases e : j = i
          · rw [e]; exact hp
          · exact h2 j (by omega)
      · refine Or.inr ?_
        have hm1 : mf F s (i + 1) = i := by
          simp only [mf, hm]
          by_cases hi0 : i = 0
          · subst hi0; split <;> rfl
          · rw [h2 0 (by omega), if_pos (by omega)]
        rw [hm1]
        refine ⟨?_, by omega, by omega⟩
        simp only [gl, h1]
        rw [if_pos (by simp; omega)]
    · refine Or.inr ?_
      simp only [gl, mf, h1]
      rw [if_neg (show ¬ ((mf F s i : Nat) : Int) = -1 by omega), Int.toNat_natCast]
      split
      · exact ⟨rfl, by omega, by omega⟩
      · exact ⟨rfl, by omega, h3⟩
theorem gl_n5 (hC : Cz F) (hS : Sm F) (s : Nat) (hs : s < 5) : ∀ k : Nat, (F 0).toNat + k ≤ 5 → gl F s ((F 0).toNat + k) = gl F s (F 0).toNat
  | 0, _ => rfl
  | k + 1, h => by
    have ih := gl_n5 hC hS s hs k (by omega)
    have hn := hS.n
    have hz := hC s ((F 0).toNat + k) (by omega) hs (by omega)
    show gl F s ((F 0).toNat + k + 1) = _
    simp only [gl]
    have hb := gl_b (F := F) s ((F 0).toNat + k)
    rw [if_neg, ih]
    rw [hz]
    split
    · omega
    · have := hS.f s (7 + (gl F s ((F 0).toNat + k)).toNat) hs (by omega)
      omega
theorem gl_pos (hS : Sm F) (hC : Cz F) {s : Nat} (hs : s < 5) (hp : 0 < borr F s) : gl F s (F 0).toNat = (mostFrom F s : Int) ∧ mostFrom F s < 5 ∧ 0 < F (2 + 52 * s + (7 + mostFrom F s)) := by
  have hn := hS.n
  have e := gl_n5 hC hS s hs (5 - (F 0).toNat) (by omega)
  rw [show (F 0).toNat + (5 - (F 0).toNat) = 5 by omega] at e
  rw [← e]
  rcases gl_mf hS s hs 5 (by omega) with ⟨-, -, h2⟩ | h
  · exfalso
    unfold borr at hp
    rw [sumI_5, h2 0 (by omega), h2 1 (by omega), h2 2 (by omega), h2 3 (by omega), h2 4 (by omega)] at hp
    omega
  · exact h
theorem gl_neg (hS : Sm F) (hC : Cz F) {s : Nat} (hs : s < 5) (hp : ¬ 0 < borr F s) : gl F s (F 0).toNat = -1 := by
  have hn := hS.n
  have e := gl_n5 hC hS s hs (5 - (F 0).toNat) (by omega)
  rw [show (F 0).toNat + (5 - (F 0).toNat) = 5 by omega] at e
  rw [← e]
  rcases gl_mf hS s hs 5 (by omega) with ⟨h1, -, -⟩ | ⟨h1, h2, h3⟩
  · exact h1
  · exfalso
    apply hp
    unfold borr
    rw [sumI_5]
    have g0 := hS.f s (7 + 0) hs (by omega)
    have g1 := hS.f s (7 + 1) hs (by omega)
    have g2 := hS.f s (7 + 2) hs (by omega)
    have g3 := hS.f s (7 + 3) hs (by omega)
    have g4 := hS.f s (7 + 4) hs (by omega)
    have : mf F s 5 = 0 ∨ mf F s 5 = 1 ∨ mf F s 5 = 2 ∨ mf F s 5 = 3 ∨ mf F s 5 = 4 := by omega
    rcases this with q | q | q | q | q <;> rw [q] at h3 <;> omega
theorem rc1_S {M : Int} (hS : Sn F M) (hM : M ≤ 999000) (hZ : Zr F) {s : Nat} (hs : s < 5) (hp : 0 < S5 F (7 + s)) : Sn (rc1 F s) (M + 1) := by
  obtain ⟨-, h2, h3⟩ := gb_most (hS.m (by omega)) hZ hs hp
  have hn := hS.n
  exact (hS.dec (by omega) (by omega) h3).inc (by omega) (by omega)
theorem tr1_S {M : Int} (hS : Sn F M) (h0 : 0 ≤ M) (s p : Nat) : Sn (tr1 F s p) M := hS.up (by omega) ⟨Int.le_refl 0, h0⟩
end MB
end
section
section ROWS2
variable {p : Program} {l : Launch} {e : Env} {R : Room} {s : State} {m : MethodId} {args : Array Value} {below : List Frame} {meth : Method} {c : Code} {H : Heap} {locs : List Loc} {cells slots : Nat} {Q : State → Prop}
variable {cc : ByteArray} {nL : Nat} {own : String} {ret : Option FieldType} {x : Cond} {g : Gt} {pc : Nat} {ls : Array Slot} {rest : List Value}
theorem r_min (C : Cx p s m args meth c cc nL own ret x g) {a b : Int} {idx : Nat} (hz : ls.size = nL) (h1 : Cond.methodLink own idx yJ9_min_7cf53 ∈ AL) (h2 : Cond.static yJ9_min_7cf53 ∈ AL) (h3 : Cond.initialized "java/lang/Math" ∈ AL) (h4 : Cond.code yJ9_min_7cf53 cJ9_min_7cf53 2 (some .int) ∈ AL) (ha : Rg a) (hb : Rg b) (hf : 1 ≤ R.frames) (hlo : (rest.map fun v => v.category).sum + 13 ≤ R.locals) (hc : cells ≤ R.cells) (hs : slots ≤ R.slots) (d : decode cc pc = .ok (.invokestatic idx, 3)) (k : W p l e R s m args below meth c H locs cells slots Q (F0 m (pc + 3) ls (.int (iI (mn a b)) :: rest))) : W p l e R s m args below meth c H locs cells slots Q (F0 m pc ls (.int (iI b) :: .int (iI a) :: rest)) := by
  have ok : ∀ w, w ∈ AL → w.before args s = true := fun w hw => C.2.2.2.2.1 w (List.mem_cons_of_mem _ hw)
  refine va_mmin C.1 C.2.1 (C.2.2.1.trans hz.symm) C.2.2.2.1 (ok _ h1) (ok _ h2) (ok _ h3) (ok _ h4) hf hlo hc hs d ?_
  have e9 : (if iI b < iI a then iI b else iI a) = iI (mn a b) := by
    unfold mn
    by_cases h : b < a
    · rw [if_pos h, if_pos ((iI_lt hb ha).mpr h)]
    · rw [if_neg h, if_neg (fun q => h ((iI_lt hb ha).mp q))]
  rw [e9]
  exact k
theorem r_max (C : Cx p s m args meth c cc nL own ret x g) {a b : Int} {idx : Nat} (hz : ls.size = nL) (h1 : Cond.methodLink own idx yJ9_max_7cf53 ∈ AL) (h2 : Cond.static yJ9_max_7cf53 ∈ AL) (h3 : Cond.initialized "java/lang/Math" ∈ AL) (h4 : Cond.code yJ9_max_7cf53 cJ9_max_7cf53 2 (some .int) ∈ AL) (ha : Rg a) (hb : Rg b) (hf : 1 ≤ R.frames) (hlo : (rest.map fun v => v.category).sum + 13 ≤ R.locals) (hc : cells ≤ R.cells) (hs : slots ≤ R.slots) (d : decode cc pc = .ok (.invokestatic idx, 3)) (k : W p l e R s m args below meth c H locs cells slots Q (F0 m (pc + 3) ls (.int (iI (if a < b then b else a)) :: rest))) : W p l e R s m args below meth c H locs cells slots Q (F0 m pc ls (.int (iI b) :: .int (iI a) :: rest)) := by
  have ok : ∀ w, w ∈ AL → w.before args s = true := fun w hw => C.2.2.2.2.1 w (List.mem_cons_of_mem _ hw)
  refine va_mmax C.1 C.2.1 (C.2.2.1.trans hz.symm) C.2.2.2.1 (ok _ h1) (ok _ h2) (ok _ h3) (ok _ h4) hf hlo hc hs d ?_
  have e9 : (if iI a < iI b then iI b else iI a) = iI (if a < b then b else a) := by
    by_cases h : a < b
    · rw [if_pos h, if_pos ((iI_lt ha hb).mpr h)]
    · rw [if_neg h, if_neg (fun q => h ((iI_lt ha hb).mp q))]
  rw [e9]
  exact k
/-- System.arraycopy of a whole row into another of its length -/
theorem r_copy (C : Cx p s m args meth c cc nL own ret x g) {a0 a n idx : Nat} {f f1 : Nat → Int} {A : Nat → Prop} {H0 : Heap} (h0 : aAt g a0 n f H) (h1 : aAt g a n f1 H) (hF : Fr A H0 H locs) (hA : A a) (hn : n < 2147483648) (hz : ls.size = nL) (w1 : Cond.methodLink own idx arraycopyName ∈ AL) (w2 : Cond.native arraycopyName ∈ AL) (w3 : Cond.static arraycopyName ∈ AL) (w4 : Cond.initialized "java/lang/System" ∈ AL) (hf : 1 ≤ R.frames) (hlo : (rest.map fun v => v.category).sum + 18 ≤ R.locals) (d : decode cc pc = .ok (.invokestatic idx, 3))
    (k : ∀ (H1 : Heap) (locs1 : List Loc), aAt g a n f H1 → (∀ b : Nat, b ≠ a → H1[b]? = H[b]?) → H1.size = H.size → Fr A H0 H1 locs1 → W p l e R s m args below meth c H1 locs1 cells slots Q (F0 m (pc + 3) ls rest)) : W p l e R s m args below meth c H locs cells slots Q (F0 m pc ls (.int (iI (n : Int)) :: .int (iI 0) :: .ref a :: .int (iI 0) :: .ref a0 :: rest)) := by
  have ok : ∀ w, w ∈ AL → w.before args s = true := fun w hw => C.2.2.2.2.1 w (List.mem_cons_of_mem _ hw)
  intro T hT X
  have hK := C.2.2.2.2.2.2.2
  obtain ⟨-, k0, hk0, cm0, hkk0⟩ := (hK.2 0 _ rfl).1 n (fun j => .int (iI (f j)))
  obtain ⟨-, k1, hk1, cm1, hkk1⟩ := (hK.2 0 _ rfl).1 n (fun j => .int (iI (f1 j)))
  have z0 : (iI 0).toNatClampNeg = 0 := by decide
  have zn : (iI (n : Int)).toNatClampNeg = n := iI_nat hn
  have tn : (iI (n : Int)).toInt = (n : Int) := iI_toInt (by omega)
  have t0 : (iI 0).toInt = 0 := by decide
  obtain ⟨vm', X', step⟩ := X.arraycopy C.1 C.2.2.2.1 (ok _ w1) (ok _ w2) (ok _ w3) (ok _ w4) (src := a0) (dst := a) (cs := vp_cell g.2.1 (n, .inl (fun j => iI (f j)))) (cd := vp_cell g.2.1 (n, .inl (fun j => iI (f1 j)))) (srcPos := iI 0) (destPos := iI 0) (n := iI (n : Int)) (by rw [hT]; exact h0) (by rw [hT]; exact h1)
    (fun _ h => by cases h) (fun _ h => by cases h) (fun h => by cases h) (fun h => by cases h) hk0 hk1 hkk0 hkk1 rfl (by decide) (by decide) (by rw [z_iI, iI_lt (by omega) (by omega)]; omega)
    (by rw [t0, tn]; show ¬ _ > ((arrV _ n (fun j => .int (iI (f j)))).slots.size : Int); rw [arrV_size]; omega)
    (by rw [t0, tn]; show ¬ _ > ((arrV _ n (fun j => .int (iI (f1 j)))).slots.size : Int); rw [arrV_size]; omega)
    (fun vm₁ _ i hi => by
      rw [zn] at hi
      have e : (vp_cell g.2.1 (n, .inl (fun j => iI (f j)))).slots.getD ((iI 0).toNatClampNeg + i) .null = .int (iI (f i)) := by
        rw [z0, Nat.zero_add]
        show (arrV _ n (fun j => .int (iI (f j)))).slots.getD _ _ = _
        rw [Array.getD_eq_getD_getElem?, arrV_read _ _ (by omega)]
        rfl
      refine ⟨?_, ?_⟩
      · rw [e]
        rfl
      · rw [e]
        exact trivial)
    (g := F0 m pc ls (.int (iI (n : Int)) :: .int (iI 0) :: .ref a :: .int (iI 0) :: .ref a0 :: rest)) rfl (by rw [C.2.2.1]; exact hz) (rest := rest) rfl (by rw [C.2.1]; exact d) hf (by show 2 * 0 + _ + (7 + 11) ≤ _; omega)
  have e1 : copied (vp_cell g.2.1 (n, .inl (fun j => iI (f j)))) (vp_cell g.2.1 (n, .inl (fun j => iI (f1 j)))) (iI 0) (iI 0) (iI (n : Int)) = vp_cell g.2.1 (n, .inl (va_cpy (fun j => iI (f j)) (fun j => iI (f1 j)) 0 0 n)) := by
    have := va_copied (fun z => .int z) g.2.1 g.2.1 (n0 := n) (n1 := n) (sp := 0) (dp := 0) (n := n) (fun j => iI (f j)) (fun j => iI (f1 j)) (by omega)
    unfold copied
    rw [z0, zn]
    exact this
  rw [e1] at X' step
  have hl : a < H.size := (Array.getElem?_eq_some_iff.mp h1).1
  have hheap : ((T.setVm vm').setCell a (vp_cell g.2.1 (n, .inl (va_cpy (fun j => iI (f j)) (fun j => iI (f1 j)) 0 0 n)))).heap = H.setIfInBounds a (vp_cell g.2.1 (n, .inl (va_cpy (fun j => iI (f j)) (fun j => iI (f1 j)) 0 0 n))) := by rw [← hT]; rfl
  have oq : ∀ q : Nat, q ≠ a → (H.setIfInBounds a (vp_cell g.2.1 (n, .inl (va_cpy (fun j => iI (f j)) (fun j => iI (f1 j)) 0 0 n))))[q]? = H[q]? := fun q hq => by simp [Array.getElem?_setIfInBounds, Ne.symm hq]
  have h9 : aAt g a n f (H.setIfInBounds a (vp_cell g.2.1 (n, .inl (va_cpy (fun j => iI (f j)) (fun j => iI (f1 j)) 0 0 n)))) := by
    unfold aAt
    have e2 : (H.setIfInBounds a (vp_cell g.2.1 (n, .inl (va_cpy (fun j => iI (f j)) (fun j => iI (f1 j)) 0 0 n))))[a]? = some (vp_cell g.2.1 (n, .inl (va_cpy (fun j => iI (f j)) (fun j => iI (f1 j)) 0 0 n))) := by simp [Array.getElem?_setIfInBounds, hl]
    rw [e2, vp_cell_i, vp_cell_i]
    refine congrArg some (arrV_cg (fun j hj => ?_))
    simp only [va_cpy]
    rw [if_pos (by omega)]
    simp
  obtain ⟨t, a1, b1⟩ := k _ _ h9 oq (by simp) ⟨by simp; exact hF.1, fun q hq => (oq q (fun e => hq (e ▸ hA))).trans (hF.2.1 q hq), fun q hq => by
    rcases List.mem_append.mp hq with h | h
    · exact hF.2.2 q h
    · obtain ⟨z, -, hz⟩ := List.mem_map.mp h
      rw [← hz]
      exact hA⟩ _ hheap X'
  exact ⟨t, step t a1, b1⟩
theorem r_tsIn (C : Cx p s m args meth c cc nL own ret x g) {a : Int} (ha : Rg a) {dflt lo hi : Int} {offs : Array Int} {len : Nat} {off : Int} {tgt : Nat} (q : Int) (hq : a = q) (h1 : lo ≤ q) (h2 : q ≤ hi) (ho : offs[(q - lo).toNat]? = some off) (ht : (pc : Int) + off = (tgt : Int)) (d : decode cc pc = .ok (.tableswitch dflt lo hi offs, len)) (k : W p l e R s m args below meth c H locs cells slots Q (F0 m tgt ls rest)) : W p l e R s m args below meth c H locs cells slots Q (F0 m pc ls (.int (iI a) :: rest)) := by
  subst hq
  exact lv_tableIn C.1 C.2.1 d (by rw [iI_toInt ha]; omega) (by rw [iI_toInt ha]; omega) (by rw [iI_toInt ha]; exact ho) ht k
theorem r_tsOut (C : Cx p s m args meth c cc nL own ret x g) {a : Int} (ha : Rg a) {dflt lo hi : Int} {offs : Array Int} {len : Nat} {tgt : Nat} (h : a < lo ∨ hi < a) (ht : (pc : Int) + dflt = (tgt : Int)) (d : decode cc pc = .ok (.tableswitch dflt lo hi offs, len)) (k : W p l e R s m args below meth c H locs cells slots Q (F0 m tgt ls rest)) : W p l e R s m args below meth c H locs cells slots Q (F0 m pc ls (.int (iI a) :: rest)) :=
  lv_tableOut C.1 C.2.1 d (by rw [iI_toInt ha]; exact h) ht k
theorem r_lk (C : Cx p s m args meth c cc nL own ret x g) {a : Int} (ha : Rg a) {dflt : Int} {ps : Array (Int × Int)} {len : Nat} {off : Int} {tgt : Nat} (hp : (ps.toList.zip (ps.toList.drop 1)).all (fun (a, next) => a.1 < next.1) = true) (ho : Op.lookupswitch.offset ps.toList dflt a = off) (ht : (pc : Int) + off = (tgt : Int)) (d : decode cc pc = .ok (.lookupswitch dflt ps, len)) (k : W p l e R s m args below meth c H locs cells slots Q (F0 m tgt ls rest)) : W p l e R s m args below meth c H locs cells slots Q (F0 m pc ls (.int (iI a) :: rest)) :=
  lv_lookup C.1 C.2.1 d hp (by rw [iI_toInt ha]; exact ho) ht k
end ROWS2
/-! ===== one device becomes another ===== -/
def rank (j : Nat) : Nat := if j < 2 then j else if (j - 2) % 52 < 7 then 2 + (j - 2) % 52 else if (j - 2) % 52 < 12 then 9 + 2 * ((j - 2) / 52) else 10 + 2 * ((j - 2) / 52)
def mx (F F2 : Nat → Int) (m : Nat) : Nat → Int := fun j => if rank j < m then F2 j else F j
theorem mx_lt {F F2 : Nat → Int} {m j : Nat} (h : rank j < m) : mx F F2 m j = F2 j := if_pos h
theorem mx_ge {F F2 : Nat → Int} {m j : Nat} (h : ¬ rank j < m) : mx F F2 m j = F j := if_neg h
theorem mx_s {F F2 : Nat → Int} {m j : Nat} (h : rank j ≠ m) : mx F F2 (m + 1) j = mx F F2 m j := by
  unfold mx
  by_cases q : rank j < m
  · rw [if_pos q, if_pos (by omega)]
  · rw [if_neg q, if_neg (by omega)]
theorem mx_0 (F F2 : Nat → Int) : mx F F2 0 = F := funext fun j => if_neg (Nat.not_lt_zero _)
section BEC
variable {g : Gt} {d : Nat} {F F2 : Nat → Int} {H H1 : Heap}
theorem rank_c (s k : Nat) (hk : k < 7) : rank (2 + 52 * s + k) = 2 + k := by unfold rank; rw [if_neg (by omega), if_pos (by omega)]; omega
theorem rank_l (s l : Nat) (hl : l < 5) : rank (2 + 52 * s + (7 + l)) = 9 + 2 * s := by unfold rank; rw [if_neg (by omega), if_neg (by omega), if_pos (by omega)]; omega
theorem rank_w (s p : Nat) (hp : p < 40) : rank (2 + 52 * s + (12 + p)) = 10 + 2 * s := by unfold rank; rw [if_neg (by omega), if_neg (by omega), if_neg (by omega)]; omega
theorem dvAt.mx0 (h : dvAt g d F H) (h1 : dvAt g d (up F 0 (F2 0)) H1) : dvAt g d (mx F F2 1) H1 := h1.cg (fun j hj => by
  by_cases e : j = 0
  · subst e; rw [up_s, mx_lt (by decide)]
  · have : rank j ≠ 0 := by unfold rank; split <;> (try split) <;> (try split) <;> omega
    rw [up_n _ _ e, mx_s this, mx_0])
theorem dvAt.mx1 (h : dvAt g d (mx F F2 1) H) (h1 : dvAt g d (up (mx F F2 1) 1 (F2 1)) H1) : dvAt g d (mx F F2 2) H1 := h1.cg (fun j hj => by
  by_cases e : j = 1
  · subst e; rw [up_s, mx_lt (by decide)]
  · have : rank j ≠ 1 := by unfold rank; split <;> (try split) <;> (try split) <;> omega
    rw [up_n _ _ e, mx_s this])
theorem dvAt.mxc (k : Nat) (hk : k < 7) (h : dvAt g d (mx F F2 (2 + k)) H) (h1 : aAt g (d + dvo k) 5 (fun s => F2 (2 + 52 * s + k)) H1) (ho : ∀ b : Nat, b ≠ d + dvo k → H1[b]? = H[b]?) : dvAt g d (mx F F2 (2 + k + 1)) H1 := by
  obtain ⟨g1, g2, g3, g4, g5, g6⟩ := h
  have hk' := dvo_lt hk
  refine ⟨by rw [dvfs_cg (mx_s (by rw [show rank 0 = 0 by decide]; omega)) (mx_s (by rw [show rank 1 = 1 by decide]; omega))]; exact g1.kept (ho _ (by omega)), fun j hj => ?_, g3.kept (ho _ (by omega)), fun s' hs' => ((g4 s' hs').kept (ho _ (by omega))).cg (fun l hl => (mx_s (by rw [rank_l _ _ hl]; omega)).symm), g5.kept (ho _ (by omega)), fun s' hs' => ((g6 s' hs').kept (ho _ (by omega))).cg (fun p hp => (mx_s (by rw [rank_w _ _ hp]; omega)).symm)⟩
  by_cases hjk : j = k
  · subst hjk
    exact h1.cg (fun s' hs' => (mx_lt (by rw [rank_c _ _ hj]; omega)).symm)
  · have hj' := dvo_lt hj
    have hne : dvo j ≠ dvo k := fun e => hjk (dvo_inj hj hk e)
    exact ((g2 j hj).kept (ho _ (by omega))).cg (fun s' hs' => (mx_s (by rw [rank_c _ _ hj]; omega)).symm)
theorem dvAt.mxl (s : Nat) (hs : s < 5) (h : dvAt g d (mx F F2 (9 + 2 * s)) H) (h1 : aAt g (d + 6 + s) 5 (fun l => F2 (2 + 52 * s + (7 + l))) H1) (ho : ∀ b : Nat, b ≠ d + 6 + s → H1[b]? = H[b]?) : dvAt g d (mx F F2 (9 + 2 * s + 1)) H1 := by
  obtain ⟨g1, g2, g3, g4, g5, g6⟩ := h
  refine ⟨by rw [dvfs_cg (mx_s (by rw [show rank 0 = 0 by decide]; omega)) (mx_s (by rw [show rank 1 = 1 by decide]; omega))]; exact g1.kept (ho _ (by omega)), fun j hj => ((g2 j hj).kept (ho _ (by have := dvo_lt hj; omega))).cg (fun s' hs' => (mx_s (by rw [rank_c _ _ hj]; omega)).symm), g3.kept (ho _ (by omega)), fun s' hs' => ?_, g5.kept (ho _ (by omega)), fun s' hs' => ((g6 s' hs').kept (ho _ (by omega))).cg (fun p hp => (mx_s (by rw [rank_w _ _ hp]; omega)).symm)⟩
  by_cases e : s' = s
  · subst e
    exact h1.cg (fun l hl => (mx_lt (by rw [rank_l _ _ hl]; omega)).symm)
  · exact ((g4 s' hs').kept (ho _ (by omega))).cg (fun l hl => (mx_s (by rw [rank_l _ _ hl]; omega)).symm)
theorem dvAt.mxw (s : Nat) (hs : s < 5) (h : dvAt g d (mx F F2 (10 + 2 * s)) H) (h1 : aAt g (d + 12 + s) 40 (fun p => F2 (2 + 52 * s + (12 + p))) H1) (ho : ∀ b : Nat, b ≠ d + 12 + s → H1[b]? = H[b]?) : dvAt g d (mx F F2 (10 + 2 * s + 1)) H1 := by
  obtain ⟨g1, g2, g3, g4, g5, g6⟩ := h
  refine ⟨by rw [dvfs_cg (mx_s (by rw [show rank 0 = 0 by decide]; omega)) (mx_s (by rw [show rank 1 = 1 by decide]; omega))]; exact g1.kept (ho _ (by omega)), fun j hj => ((g2 j hj).kept (ho _ (by have := dvo_lt hj; omega))).cg (fun s' hs' => (mx_s (by rw [rank_c _ _ hj]; omega)).symm), g3.kept (ho _ (by omega)), fun s' hs' => ((g4 s' hs').kept (ho _ (by omega))).cg (fun l hl => (mx_s (by rw [rank_l _ _ hl]; omega)).symm), g5.kept (ho _ (by omega)), fun s' hs' => ?_⟩
  by_cases e : s' = s
  · subst e
    exact h1.cg (fun p hp => (mx_lt (by rw [rank_w _ _ hp]; omega)).symm)
  · exact ((g6 s' hs').kept (ho _ (by omega))).cg (fun p hp => (mx_s (by rw [rank_w _ _ hp]; omega)).symm)
theorem dvAt.mxe (h : dvAt g d (mx F F2 19) H) : dvAt g d F2 H := h.cg (fun j hj => mx_lt (by unfold rank; split <;> (try split) <;> (try split) <;> omega))
end BEC
/-! ===== more of the spec ===== -/
theorem mn_b (a b : Int) : mn a b ≤ a ∧ mn a b ≤ b ∧ (mn a b = a ∨ mn a b = b) := by unfold mn; split <;> omega
/-- the first space from i on, of k, that has lost since -/
def fls (F F2 : Nat → Int) : Nat → Nat → Int
  | 0, _ => -1
  | k + 1, i => if F2 (2 + 52 * i + 5) < F (2 + 52 * i + 5) then (i : Int) else fls F F2 k (i + 1)
theorem fls_b {F F2 : Nat → Int} : ∀ k i : Nat, -1 ≤ fls F F2 k i ∧ fls F F2 k i < k + i
  | 0, i => by simp only [fls]; omega
  | k + 1, i => by
    have := fls_b (F := F) (F2 := F2) k (i + 1)
    simp only [fls]
    split <;> omega
def nAll (F : Nat → Int) (w : Int) : Int :=
  if w = 0 then F 0 else if w = 1 then tkA F else if w = 2 then 60 - S5 F 0 else if w = 3 then free F else if w = 4 then borrA F else if w = 5 then F 1 else if w = 6 then S5 F 4 else if w = 7 then S5 F 5 else S5 F 6
def nOf (F : Nat → Int) (s : Nat) (w : Int) : Int :=
  if w = 0 then F (2 + 52 * s + 0) else if w = 1 then F (2 + 52 * s + 1) else if w = 2 then tk F s else if w = 3 then F (2 + 52 * s + 2) else if w = 4 then F (2 + 52 * s + 3) else if w = 5 then borr F s else if w = 6 then S5 F (7 + s) else if w = 7 then idle F s else if w = 8 then F (2 + 52 * s + 4) else if w = 9 then F (2 + 52 * s + 5) else F (2 + 52 * s + 6)
theorem rc1_0 (F : Nat → Int) (s : Nat) : rc1 F s 0 = F 0 := by
  unfold rc1 inc dec
  rw [up_n _ _ (by omega), up_n _ _ (by omega)]
theorem oa_cg {F G : Nat → Int} {s : Nat} {t : Int} : ∀ {n : Nat}, (∀ p, p < n → F (2 + 52 * s + (12 + p)) = G (2 + 52 * s + (12 + p))) → oa F s t n = oa G s t n
  | 0, _ => rfl
  | n + 1, h => by
    have ih := oa_cg (F := F) (G := G) (s := s) (t := t) (n := n) (fun p hp => h p (by omega))
    have hb := oa_b (F := G) s t n
    simp only [oa]
    rw [ih, h n (by omega)]
    by_cases e : oa G s t n = -1
    · rw [e]; simp
    · rw [h (oa G s t n).toNat (by omega)]
theorem tk_pos {F : Nat → Int} (hS : Sm F) {s l : Nat} (hs : s < 5) (hl : l < 5) (hp : 0 < F (2 + 52 * s + (7 + l))) : 0 < tk F s := by
  have h2 := hS.f s 2 hs (by omega)
  have h3 := hS.f s 3 hs (by omega)
  have g0 := hS.f s (7 + 0) hs (by omega)
  have g1 := hS.f s (7 + 1) hs (by omega)
  have g2 := hS.f s (7 + 2) hs (by omega)
  have g3 := hS.f s (7 + 3) hs (by omega)
  have g4 := hS.f s (7 + 4) hs (by omega)
  unfold tk borr
  rw [sumI_5]
  have : l = 0 ∨ l = 1 ∨ l = 2 ∨ l = 3 ∨ l = 4 := by omega
  rcases this with q | q | q | q | q <;> subst q <;> omega
theorem rc1_page (F : Nat → Int) {s b p : Nat} (hs : s < 5) (hb : b < 5) (hm : mostOf F s < 5) (hp : p < 40) : rc1 F s (2 + 52 * b + (12 + p)) = F (2 + 52 * b + (12 + p)) := by
  unfold rc1 inc dec
  rw [up_n _ _ (by omega), up_n _ _ (by omega)]
theorem rc1_least {F : Nat → Int} (hS : Sm F) {s : Nat} (hs : s < 5) (hm : mostOf F s < 5) (hne : mostOf F s ≠ s) (hp : 0 < F (2 + 52 * mostOf F s + (7 + s))) (hpg : Pg F s) : least (rc1 F s) (mostOf F s) ≠ -1 := by
  have := hpg _ hm hne (tk_pos hS hm hs hp)
  unfold least at *
  rw [oa_cg (G := F) (fun p hp => rc1_page F hs hm hm hp)]
  exact this
theorem needR_b (F : Nat → Int) (s : Nat) : 0 ≤ needR F s ∧ needR F s ≤ 5 := by unfold needR; (repeat' split) <;> omega
theorem lender_b {F : Nat → Int} (h : Sm F) (x y : Nat) : -1 ≤ lender F x y ∧ lender F x y < F 0 ∧ F 0 ≤ 5 := by
  have := lnd_b (F := F) x y (F 0).toNat
  have := h.n
  unfold lender
  omega
end
section
theorem s_RX0_111 : SiteV "LentRoom$Device" 111 "LentRoom$Device" yX0_smallestFloor cX0_smallestFloor 2 (some .int) 1 := ⟨⟨q_481, q_482, q_483, q_32, q_484⟩, rfl, by decide, by decide, by decide +kernel⟩
theorem s_RX0_114 : SiteV "LentRoom$Device" 114 "LentRoom$Device" yX0_greatestFloor cX0_greatestFloor 2 (some .int) 1 := ⟨⟨q_485, q_486, q_487, q_32, q_488⟩, rfl, by decide, by decide, by decide +kernel⟩
theorem s_RX0_105 : SiteV "LentRoom$Device" 105 "LentRoom$Device" yX0_areBounds cX0_areBounds 3 (some .boolean) 2 := ⟨⟨q_402, q_403, q_404, q_32, q_405⟩, rfl, by decide, by decide, by decide +kernel⟩
theorem s_RX0_83 : SiteV "LentRoom$Device" 83 "LentRoom$Device" yX0_pagesOfAll cX0_pagesOfAll 3 (some .int) 0 := ⟨⟨q_501, q_502, q_503, q_32, q_504⟩, rfl, by decide, by decide, by decide +kernel⟩
theorem s_RX0_87 : SiteV "LentRoom$Device" 87 "LentRoom$Device" yX0_commonRoom cX0_commonRoom 1 (some .int) 0 := ⟨⟨q_505, q_506, q_507, q_32, q_508⟩, rfl, by decide, by decide, by decide +kernel⟩
theorem s_RX0_93 : SiteV "LentRoom$Device" 93 "LentRoom$Device" yX0_loansOfAll cX0_loansOfAll 3 (some .int) 0 := ⟨⟨q_509, q_510, q_511, q_32, q_512⟩, rfl, by decide, by decide, by decide +kernel⟩
theorem s_RX0_96 : SiteV "LentRoom$Device" 96 "LentRoom$Device" yX0_lostByAll cX0_lostByAll 1 (some .int) 0 := ⟨⟨q_513, q_514, q_515, q_32, q_516⟩, rfl, by decide, by decide, by decide +kernel⟩
theorem s_RX0_99 : SiteV "LentRoom$Device" 99 "LentRoom$Device" yX0_lendsOf cX0_lendsOf 2 (some .int) 1 := ⟨⟨q_550, q_551, q_552, q_32, q_553⟩, rfl, by decide, by decide, by decide +kernel⟩
set_option maxHeartbeats 4000000 in
theorem k_X0_greatestFloor (l : Launch) (g : Gt) (d : Nat) (F : Nat → Int) (hSm : Sm F) (x : Int) (s : Nat) (hx : x = (s : Int)) (hs : s < 5) : CP l yX0_greatestFloor cX0_greatestFloor 2 (some .int) 2 45 g [.ref d, .int (iI x)] (dvAt g d F) (some (.int (iI (mn (F (2 + 52 * s + 1)) (F (2 + 52 * s + 0) + free F))))) := by
  refine cp_of "LentRoom$Device" (by decide) rfl (Nat.le_of_ble_eq_true rfl) ?_
  intro zp ze zs zm za zb zt zc ls C hP hl
  have hd := hP
  have hl : lv_has ls 2 [(0, .ref d), (1, .int (iI x))] := hl
  refine r_aload_n C rfl (lv_at hl 0 rfl) dX0_greatestFloor_0 ?_
  refine r_get C (ci := 0) (v := .ref (d + 2)) rfl uin0 hd.o 3 (by decide) q_83 rfl rfl dX0_greatestFloor_1 ?_
  refine r_iload_n C rfl (lv_at hl 1 rfl) dX0_greatestFloor_4 ?_
  refine r_iald (v := F (2 + 52 * s + 1)) C hd.c1 s (by omega) (by omega) (by omega) rfl dX0_greatestFloor_5 ?_
  have b1 := hSm.1 (2 + 52 * s + 1) (by omega)
  refine r_aload_n C rfl (lv_at hl 0 rfl) dX0_greatestFloor_6 ?_
  refine r_get C (ci := 0) (v := .ref (d + 1)) rfl uin0 hd.o 2 (by decide) q_81 rfl rfl dX0_greatestFloor_7 ?_
  refine r_iload_n C rfl (lv_at hl 1 rfl) dX0_greatestFloor_10 ?_
  refine r_iald (v := F (2 + 52 * s + 0)) C hd.c0 s (by omega) (by omega) (by omega) rfl dX0_greatestFloor_11 ?_
  have b2 := hSm.1 (2 + 52 * s + 0) (by omega)
  refine r_aload_n C rfl (lv_at hl 0 rfl) dX0_greatestFloor_12 ?_
  refine r_vPi (rest := [.int (iI (F (2 + 52 * s + 0))), .int (iI (F (2 + 52 * s + 1)))]) C (k_X0_freeCommonRoom l g d F hSm) s_RX0_90 hd (recv C (ci := 0) rfl hd.o) hl.1 rfl ⟨by decide, by decide⟩ rfl (Nat.le_of_ble_eq_true rfl) ⟨Nat.le_refl 0, Nat.le_refl 0⟩ dX0_greatestFloor_13 ?_
  have b3 := free_b hSm
  refine r_iadd C dX0_greatestFloor_16 ?_
  refine r_min C hl.1 q_381 q_382 q_44 q_383 (by omega) (by omega) (by decide) (Nat.le_of_ble_eq_true rfl) (Nat.le_refl 0) (Nat.le_refl 0) dX0_greatestFloor_17 ?_
  exact r_iretP C rfl rfl (congrArg iI (by rfl)) dX0_greatestFloor_20
set_option maxHeartbeats 4000000 in
theorem k_X0_takesFloor (l : Launch) (g : Gt) (d : Nat) (F : Nat → Int) (hSm : Sm F) (x v : Int) (s : Nat) (hx : Rg x) (hv : Rg v) (hs : 0 ≤ x → x = (s : Int)) : CP l yX0_takesFloor cX0_takesFloor 3 (some .boolean) 3 66 g [.ref d, .int (iI x), .int (iI v)] (dvAt g d F) (some (.int (iI (pI ((0 ≤ x ∧ x < F 0) ∧ okFl F s v))))) := by
  refine cp_of "LentRoom$Device" (by decide) rfl (Nat.le_of_ble_eq_true rfl) ?_
  intro zp ze zs zm za zb zt zc ls C hP hl
  have hd := hP
  have hl : lv_has ls 3 [(0, .ref d), (1, .int (iI x)), (2, .int (iI v))] := hl
  refine r_aload_n C rfl (lv_at hl 0 rfl) dX0_takesFloor_0 ?_
  refine r_iload_n C rfl (lv_at hl 1 rfl) dX0_takesFloor_1 ?_
  refine r_vPi (rest := []) C (k_X0_hasSpace l g d F hSm x (by omega)) s_RX0_64 hd (recv C (ci := 0) rfl hd.o) hl.1 rfl ⟨by decide, by decide⟩ rfl (Nat.le_of_ble_eq_true rfl) ⟨Nat.le_refl 0, Nat.le_refl 0⟩ dX0_takesFloor_2 ?_
  have b1 := hSm.n
  refine r_ifP_eq (tgt := 30) C (by decide) dX0_takesFloor_5 (fun c2 => ?_) (fun c2 => ?_)
  · refine r_iconst C dX0_takesFloor_30 ?_
    exact r_iretP C rfl rfl (congrArg iI (pI_f (by omega)).symm) dX0_takesFloor_31
  · refine r_iload_n C rfl (lv_at hl 2 rfl) dX0_takesFloor_8 ?_
    refine r_aload_n C rfl (lv_at hl 0 rfl) dX0_takesFloor_9 ?_
    refine r_iload_n C rfl (lv_at hl 1 rfl) dX0_takesFloor_10 ?_
    refine r_vPi (rest := [.int (iI v)]) C (k_X0_smallestFloor l g d F hSm x s (by omega) (by omega)) s_RX0_111 hd (recv C (ci := 0) rfl hd.o) hl.1 rfl ⟨by decide, by decide⟩ rfl (Nat.le_of_ble_eq_true rfl) ⟨Nat.le_refl 0, Nat.le_refl 0⟩ dX0_takesFloor_11 ?_
    have b3 := idle_b hSm s (by omega)
    have b4 := hSm.f s 0 (by omega) (by omega)
    refine r_icmp_lt (tgt := 30) C (by decide) (by omega) (by omega) dX0_takesFloor_14 (fun c5 => ?_) (fun c5 => ?_)
    · refine r_iconst C dX0_takesFloor_30 ?_
      exact r_iretP C rfl rfl (congrArg iI (pI_f (by omega)).symm) dX0_takesFloor_31
    · refine r_iload_n C rfl (lv_at hl 2 rfl) dX0_takesFloor_17 ?_
      refine r_aload_n C rfl (lv_at hl 0 rfl) dX0_takesFloor_18 ?_
      refine r_iload_n C rfl (lv_at hl 1 rfl) dX0_takesFloor_19 ?_
      refine r_vPi (rest := [.int (iI v)]) C (k_X0_greatestFloor l g d F hSm x s (by omega) (by omega)) s_RX0_114 hd (recv C (ci := 0) rfl hd.o) hl.1 rfl ⟨by decide, by decide⟩ rfl (Nat.le_of_ble_eq_true rfl) ⟨Nat.le_refl 0, Nat.le_refl 0⟩ dX0_takesFloor_20 ?_
      have b6 := hSm.f s 1 (by omega) (by omega)
      have b7 := hSm.f s 0 (by omega) (by omega)
      have b8 := free_b hSm
      have b9 := mn_b (F (2 + 52 * s + 1)) (F (2 + 52 * s + 0) + free F)
      refine r_icmp_gt (tgt := 30) C (by decide) (by omega) (by omega) dX0_takesFloor_23 (fun c10 => ?_) (fun c10 => ?_)
      · refine r_iconst C dX0_takesFloor_30 ?_
        exact r_iretP C rfl rfl (congrArg iI (pI_f (by omega)).symm) dX0_takesFloor_31
      · refine r_iconst C dX0_takesFloor_26 ?_
        refine r_goto (tgt := 31) C (by decide) dX0_takesFloor_27 ?_
        exact r_iretP C rfl rfl (congrArg iI (pI_t (by omega)).symm) dX0_takesFloor_31
set_option maxHeartbeats 4000000 in
theorem k_X0_takesCeiling (l : Launch) (g : Gt) (d : Nat) (F : Nat → Int) (hSm : Sm F) (x v : Int) (s : Nat) (hx : Rg x) (hv : Rg v) (hs : 0 ≤ x → x = (s : Int)) : CP l yX0_takesCeiling cX0_takesCeiling 3 (some .boolean) 1 22 g [.ref d, .int (iI x), .int (iI v)] (dvAt g d F) (some (.int (iI (pI ((0 ≤ x ∧ x < F 0) ∧ okCe F s v))))) := by
  refine cp_of "LentRoom$Device" (by decide) rfl (Nat.le_of_ble_eq_true rfl) ?_
  intro zp ze zs zm za zb zt zc ls C hP hl
  have hd := hP
  have hl : lv_has ls 3 [(0, .ref d), (1, .int (iI x)), (2, .int (iI v))] := hl
  refine r_aload_n C rfl (lv_at hl 0 rfl) dX0_takesCeiling_0 ?_
  refine r_iload_n C rfl (lv_at hl 1 rfl) dX0_takesCeiling_1 ?_
  refine r_vPi (rest := []) C (k_X0_hasSpace l g d F hSm x (by omega)) s_RX0_64 hd (recv C (ci := 0) rfl hd.o) hl.1 rfl ⟨by decide, by decide⟩ rfl (Nat.le_of_ble_eq_true rfl) ⟨Nat.le_refl 0, Nat.le_refl 0⟩ dX0_takesCeiling_2 ?_
  have b1 := hSm.n
  refine r_ifP_eq (tgt := 26) C (by decide) dX0_takesCeiling_5 (fun c2 => ?_) (fun c2 => ?_)
  · refine r_iconst C dX0_takesCeiling_26 ?_
    exact r_iretP C rfl rfl (congrArg iI (pI_f (by omega)).symm) dX0_takesCeiling_27
  · refine r_aload_n C rfl (lv_at hl 0 rfl) dX0_takesCeiling_8 ?_
    refine r_aload_n C rfl (lv_at hl 0 rfl) dX0_takesCeiling_9 ?_
    refine r_get C (ci := 0) (v := .ref (d + 1)) rfl uin0 hd.o 2 (by decide) q_81 rfl rfl dX0_takesCeiling_10 ?_
    refine r_iload_n C rfl (lv_at hl 1 rfl) dX0_takesCeiling_13 ?_
    refine r_iald (v := F (2 + 52 * s + 0)) C hd.c0 s (by omega) (by omega) (by omega) rfl dX0_takesCeiling_14 ?_
    have b3 := hSm.1 (2 + 52 * s + 0) (by omega)
    refine r_iload_n C rfl (lv_at hl 2 rfl) dX0_takesCeiling_15 ?_
    refine r_vPi (rest := []) C (k_X0_areBounds l g d F hSm (F (2 + 52 * s + 0)) v (by omega) (by omega)) s_RX0_105 hd (recv C (ci := 0) rfl hd.o) hl.1 rfl ⟨by decide, by decide⟩ rfl (Nat.le_of_ble_eq_true rfl) ⟨Nat.le_refl 0, Nat.le_refl 0⟩ dX0_takesCeiling_16 ?_
    refine r_ifP_eq (tgt := 26) C (by decide) dX0_takesCeiling_19 (fun c4 => ?_) (fun c4 => ?_)
    · refine r_iconst C dX0_takesCeiling_26 ?_
      exact r_iretP C rfl rfl (congrArg iI (pI_f (by omega)).symm) dX0_takesCeiling_27
    · refine r_iconst C dX0_takesCeiling_22 ?_
      refine r_goto (tgt := 27) C (by decide) dX0_takesCeiling_23 ?_
      exact r_iretP C rfl rfl (congrArg iI (pI_t (by omega)).symm) dX0_takesCeiling_27
set_option maxHeartbeats 4000000 in
theorem k_X0_firstLoserSince (l : Launch) (g : Gt) (d : Nat) (F : Nat → Int) (hSm : Sm F) (d2 : Nat) (F2 : Nat → Int) (hSm2 : Sm F2) : CP l yX0_firstLoserSince cX0_firstLoserSince 3 (some .int) 0 0 g [.ref d, .ref d2] (fun H => dvAt g d F H ∧ dvAt g d2 F2 H) (some (.int (iI (fls F F2 (F 0).toNat 0)))) := by
  refine cp_of "LentRoom$Device" (by decide) rfl (Nat.le_of_ble_eq_true rfl) ?_
  intro zp ze zs zm za zb zt zc ls C hP hl
  obtain ⟨hd, hd2⟩ := hP
  have hl : lv_has ls 3 [(0, .ref d), (1, .ref d2)] := hl
  have cut2 : ∀ (N : Nat) (i : Nat) (v2 : Int), 5 - i < N → ((i : Int) ≤ F 0) → (fls F F2 (F 0).toNat 0 = fls F F2 ((F 0).toNat - i) i) → (v2 = (i : Int)) → ∀ ls : Array Slot, lv_has ls 3 [(0, .ref d), (1, .ref d2), (2, .int (iI v2))] → W zp l ze (rmc 0 0) zs zm za zb zt zc zs.heap [] 0 0 (MQ zb (PQ (some (.int (iI (fls F F2 (F 0).toNat 0))))) za zs 0 0 (fun _ => False)) (F0 zm 2 ls []) := by
    intro N
    induction N with
    | zero => intro i v2; exact fun hms => absurd hms (Nat.not_lt_zero _)
    | succ N ih =>
      intro i v2 hms hi hq hv2 ls hl
      refine r_iload_n C rfl (lv_at hl 2 rfl) dX0_firstLoserSince_2 ?_
      refine r_aload_n C rfl (lv_at hl 0 rfl) dX0_firstLoserSince_3 ?_
      refine r_get C (ci := 0) (v := .int (iI (F 0))) rfl uin0 hd.o 0 (by decide) q_78 rfl rfl dX0_firstLoserSince_4 ?_
      have b1 := hSm.1 0 (by omega)
      have b2 := hSm.2
      refine r_icmp_ge (tgt := 33) C (by decide) (by omega) (by omega) dX0_firstLoserSince_7 (fun c3 => ?_) (fun c3 => ?_)
      · refine r_iconst C dX0_firstLoserSince_33 ?_
        exact r_iretP C rfl rfl (congrArg iI (by rw [hq, show (F 0).toNat - i = 0 by omega]; rfl)) dX0_firstLoserSince_34
      · refine r_aload_n C rfl (lv_at hl 0 rfl) dX0_firstLoserSince_10 ?_
        refine r_get C (ci := 0) (v := .ref (d + 18)) rfl uin0 hd.o 9 (by decide) q_92 rfl rfl dX0_firstLoserSince_11 ?_
        refine r_iload_n C rfl (lv_at hl 2 rfl) dX0_firstLoserSince_14 ?_
        refine r_iald (v := F (2 + 52 * i + 5)) C hd.c5 i (by omega) (by omega) (by omega) rfl dX0_firstLoserSince_15 ?_
        have b4 := hSm.1 (2 + 52 * i + 5) (by omega)
        refine r_aload_n C rfl (lv_at hl 1 rfl) dX0_firstLoserSince_16 ?_
        refine r_get C (ci := 0) (v := .ref (d2 + 18)) rfl uin0 hd2.o 9 (by decide) q_92 rfl rfl dX0_firstLoserSince_17 ?_
        refine r_iload_n C rfl (lv_at hl 2 rfl) dX0_firstLoserSince_20 ?_
        refine r_iald (v := F2 (2 + 52 * i + 5)) C hd2.c5 i (by omega) (by omega) (by omega) rfl dX0_firstLoserSince_21 ?_
        have b5 := hSm2.1 (2 + 52 * i + 5) (by omega)
        refine r_icmp_le (tgt := 27) C (by decide) (by omega) (by omega) dX0_firstLoserSince_22 (fun c6 => ?_) (fun c6 => ?_)
        · refine r_iinc (lv' := [(2, .int (iI (v2 + 1))), (0, .ref d), (1, .ref d2)]) C hl (q := 2) rfl (by decide) rfl dX0_firstLoserSince_27 (fun ls hl => ?_)
          refine r_goto (tgt := 2) C (by decide) dX0_firstLoserSince_30 ?_
          exact ih (i + 1) (v2 + 1) (by omega) (by omega) (by rw [hq, show (F 0).toNat - i = ((F 0).toNat - (i + 1)) + 1 by omega]; simp only [fls]; rw [if_neg (by omega)]) (by omega) _ (lv_sub hl [1, 2, 0] rfl)
        · refine r_iload_n C rfl (lv_at hl 2 rfl) dX0_firstLoserSince_25 ?_
          exact r_iretP C rfl rfl (congrArg iI (by rw [hq, show (F 0).toNat - i = ((F 0).toNat - (i + 1)) + 1 by omega]; simp only [fls]; rw [if_pos (by omega), hv2])) dX0_firstLoserSince_26
  refine r_iconst C dX0_firstLoserSince_0 ?_
  refine r_istore_n (lv' := [(2, .int (iI 0)), (0, .ref d), (1, .ref d2)]) C rfl hl (by decide) rfl dX0_firstLoserSince_1 (fun ls hl => ?_)
  exact cut2 _ 0 0 (Nat.lt_succ_self _) (by have := hSm.n; omega) (by rfl) (by omega) _ (lv_sub hl [1, 2, 0] rfl)
set_option maxHeartbeats 4000000 in
theorem k_X0_numberOfAll (l : Launch) (g : Gt) (d : Nat) (F : Nat → Int) (hSm : Sm F) (hZ : Zr F) (w : Int) (hw : 0 ≤ w ∧ w ≤ 8) : CP l yX0_numberOfAll cX0_numberOfAll 2 (some .int) 3 68 g [.ref d, .int (iI w)] (dvAt g d F) (some (.int (iI (nAll F w)))) := by
  refine cp_of "LentRoom$Device" (by decide) rfl (Nat.le_of_ble_eq_true rfl) ?_
  intro zp ze zs zm za zb zt zc ls C hP hl
  have hd := hP
  have hl : lv_has ls 2 [(0, .ref d), (1, .int (iI w))] := hl
  refine r_iload_n C rfl (lv_at hl 1 rfl) dX0_numberOfAll_0 ?_
  by_cases e1 : w = 0
  · refine r_tsIn (tgt := 48) C (by omega) 0 e1 (by decide) (by decide) rfl (by decide) dX0_numberOfAll_1 ?_
    refine r_aload_n C rfl (lv_at hl 0 rfl) dX0_numberOfAll_48 ?_
    refine r_get C (ci := 0) (v := .int (iI (F 0))) rfl uin0 hd.o 0 (by decide) q_78 rfl rfl dX0_numberOfAll_49 ?_
    have b2 := hSm.1 0 (by omega)
    have b3 := hSm.2
    exact r_iretP C rfl rfl (congrArg iI (by unfold nAll; rw [if_pos (by omega)])) dX0_numberOfAll_52
  by_cases e4 : w = 1
  · refine r_tsIn (tgt := 53) C (by omega) 1 e4 (by decide) (by decide) rfl (by decide) dX0_numberOfAll_1 ?_
    refine r_aload_n C rfl (lv_at hl 0 rfl) dX0_numberOfAll_53 ?_
    refine r_vPi (rest := []) C (k_X0_pagesOfAll l g d F hSm hZ) s_RX0_83 hd (recv C (ci := 0) rfl hd.o) hl.1 rfl ⟨by decide, by decide⟩ rfl (Nat.le_of_ble_eq_true rfl) ⟨Nat.le_refl 0, Nat.le_refl 0⟩ dX0_numberOfAll_54 ?_
    have b5 := tkA_b hSm
    exact r_iretP C rfl rfl (congrArg iI (by unfold nAll; rw [if_neg (by omega), if_pos (by omega)])) dX0_numberOfAll_57
  by_cases e6 : w = 2
  · refine r_tsIn (tgt := 58) C (by omega) 2 e6 (by decide) (by decide) rfl (by decide) dX0_numberOfAll_1 ?_
    refine r_aload_n C rfl (lv_at hl 0 rfl) dX0_numberOfAll_58 ?_
    refine r_vPi (rest := []) C (k_X0_commonRoom l g d F hSm) s_RX0_87 hd (recv C (ci := 0) rfl hd.o) hl.1 rfl ⟨by decide, by decide⟩ rfl (Nat.le_of_ble_eq_true rfl) ⟨Nat.le_refl 0, Nat.le_refl 0⟩ dX0_numberOfAll_59 ?_
    exact r_iretP C rfl rfl (congrArg iI (by unfold nAll; rw [if_neg (by omega), if_neg (by omega), if_pos (by omega)])) dX0_numberOfAll_62
  by_cases e7 : w = 3
  · refine r_tsIn (tgt := 63) C (by omega) 3 e7 (by decide) (by decide) rfl (by decide) dX0_numberOfAll_1 ?_
    refine r_aload_n C rfl (lv_at hl 0 rfl) dX0_numberOfAll_63 ?_
    refine r_vPi (rest := []) C (k_X0_freeCommonRoom l g d F hSm) s_RX0_90 hd (recv C (ci := 0) rfl hd.o) hl.1 rfl ⟨by decide, by decide⟩ rfl (Nat.le_of_ble_eq_true rfl) ⟨Nat.le_refl 0, Nat.le_refl 0⟩ dX0_numberOfAll_64 ?_
    have b8 := free_b hSm
    exact r_iretP C rfl rfl (congrArg iI (by unfold nAll; rw [if_neg (by omega), if_neg (by omega), if_neg (by omega), if_pos (by omega)])) dX0_numberOfAll_67
  by_cases e9 : w = 4
  · refine r_tsIn (tgt := 68) C (by omega) 4 e9 (by decide) (by decide) rfl (by decide) dX0_numberOfAll_1 ?_
    refine r_aload_n C rfl (lv_at hl 0 rfl) dX0_numberOfAll_68 ?_
    refine r_vPi (rest := []) C (k_X0_loansOfAll l g d F hSm hZ) s_RX0_93 hd (recv C (ci := 0) rfl hd.o) hl.1 rfl ⟨by decide, by decide⟩ rfl (Nat.le_of_ble_eq_true rfl) ⟨Nat.le_refl 0, Nat.le_refl 0⟩ dX0_numberOfAll_69 ?_
    exact r_iretP C rfl rfl (congrArg iI (by unfold nAll; rw [if_neg (by omega), if_neg (by omega), if_neg (by omega), if_neg (by omega), if_pos (by omega)])) dX0_numberOfAll_72
  by_cases e10 : w = 5
  · refine r_tsIn (tgt := 73) C (by omega) 5 e10 (by decide) (by decide) rfl (by decide) dX0_numberOfAll_1 ?_
    refine r_aload_n C rfl (lv_at hl 0 rfl) dX0_numberOfAll_73 ?_
    refine r_get C (ci := 0) (v := .int (iI (F 1))) rfl uin0 hd.o 1 (by decide) q_80 rfl rfl dX0_numberOfAll_74 ?_
    have b11 := hSm.1 1 (by omega)
    exact r_iretP C rfl rfl (congrArg iI (by unfold nAll; rw [if_neg (by omega), if_neg (by omega), if_neg (by omega), if_neg (by omega), if_neg (by omega), if_pos (by omega)])) dX0_numberOfAll_77
  by_cases e12 : w = 6
  · refine r_tsIn (tgt := 78) C (by omega) 6 e12 (by decide) (by decide) rfl (by decide) dX0_numberOfAll_1 ?_
    refine r_aload_n C rfl (lv_at hl 0 rfl) dX0_numberOfAll_78 ?_
    refine r_get C (ci := 0) (v := .ref (d + 17)) rfl uin0 hd.o 8 (by decide) q_91 rfl rfl dX0_numberOfAll_79 ?_
    refine r_sPi (rest := []) C (k_X0_sum l g (d + 17) 5 (fun z => F (2 + 52 * z + 4)) 1000000 (by omega) (by omega) (fun z hz => hSm.f z 4 hz (by omega))) s_RX0_72 hd.c4 hl.1 rfl ⟨by decide, by decide⟩ rfl (Nat.le_of_ble_eq_true rfl) ⟨Nat.le_refl 0, Nat.le_refl 0⟩ dX0_numberOfAll_82 ?_
    exact r_iretP C rfl rfl (congrArg iI (by unfold nAll; rw [if_neg (by omega), if_neg (by omega), if_neg (by omega), if_neg (by omega), if_neg (by omega), if_neg (by omega), if_pos (by omega)]; rfl)) dX0_numberOfAll_85
  by_cases e13 : w = 7
  · refine r_tsIn (tgt := 86) C (by omega) 7 e13 (by decide) (by decide) rfl (by decide) dX0_numberOfAll_1 ?_
    refine r_aload_n C rfl (lv_at hl 0 rfl) dX0_numberOfAll_86 ?_
    refine r_vPi (rest := []) C (k_X0_lostByAll l g d F hSm) s_RX0_96 hd (recv C (ci := 0) rfl hd.o) hl.1 rfl ⟨by decide, by decide⟩ rfl (Nat.le_of_ble_eq_true rfl) ⟨Nat.le_refl 0, Nat.le_refl 0⟩ dX0_numberOfAll_87 ?_
    have b14 := S5_b hSm 5 (by omega)
    exact r_iretP C rfl rfl (congrArg iI (by unfold nAll; rw [if_neg (by omega), if_neg (by omega), if_neg (by omega), if_neg (by omega), if_neg (by omega), if_neg (by omega), if_neg (by omega), if_pos (by omega)])) dX0_numberOfAll_90
  refine r_tsOut (tgt := 91) C (by omega) (by omega) (by decide) dX0_numberOfAll_1 ?_
  refine r_aload_n C rfl (lv_at hl 0 rfl) dX0_numberOfAll_91 ?_
  refine r_get C (ci := 0) (v := .ref (d + 19)) rfl uin0 hd.o 10 (by decide) q_93 rfl rfl dX0_numberOfAll_92 ?_
  refine r_sPi (rest := []) C (k_X0_sum l g (d + 19) 5 (fun z => F (2 + 52 * z + 6)) 1000000 (by omega) (by omega) (fun z hz => hSm.f z 6 hz (by omega))) s_RX0_72 hd.c6 hl.1 rfl ⟨by decide, by decide⟩ rfl (Nat.le_of_ble_eq_true rfl) ⟨Nat.le_refl 0, Nat.le_refl 0⟩ dX0_numberOfAll_95 ?_
  exact r_iretP C rfl rfl (congrArg iI (by unfold nAll; rw [if_neg (by omega), if_neg (by omega), if_neg (by omega), if_neg (by omega), if_neg (by omega), if_neg (by omega), if_neg (by omega), if_neg (by omega)]; rfl)) dX0_numberOfAll_98
set_option maxHeartbeats 4000000 in
theorem k_X0_sizeOf (l : Launch) (g : Gt) (d : Nat) (F : Nat → Int) (hSm : Sm F) (x : Int) (s : Nat) (hx : x = (s : Int)) (hs : s < 5) (w : Int) (hw : 0 ≤ w ∧ w ≤ 7) : CP l yX0_sizeOf cX0_sizeOf 3 (some .int) 2 46 g [.ref d, .int (iI x), .int (iI w)] (dvAt g d F) (some (.int (iI (nOf F s w)))) := by
  refine cp_of "LentRoom$Device" (by decide) rfl (Nat.le_of_ble_eq_true rfl) ?_
  intro zp ze zs zm za zb zt zc ls C hP hl
  have hd := hP
  have hl : lv_has ls 3 [(0, .ref d), (1, .int (iI x)), (2, .int (iI w))] := hl
  refine r_iload_n C rfl (lv_at hl 2 rfl) dX0_sizeOf_0 ?_
  by_cases e1 : w = 0
  · refine r_tsIn (tgt := 44) C (by omega) 0 e1 (by decide) (by decide) rfl (by decide) dX0_sizeOf_1 ?_
    refine r_aload_n C rfl (lv_at hl 0 rfl) dX0_sizeOf_44 ?_
    refine r_get C (ci := 0) (v := .ref (d + 1)) rfl uin0 hd.o 2 (by decide) q_81 rfl rfl dX0_sizeOf_45 ?_
    refine r_iload_n C rfl (lv_at hl 1 rfl) dX0_sizeOf_48 ?_
    refine r_iald (v := F (2 + 52 * s + 0)) C hd.c0 s (by omega) (by omega) (by omega) rfl dX0_sizeOf_49 ?_
    have b2 := hSm.1 (2 + 52 * s + 0) (by omega)
    exact r_iretP C rfl rfl (congrArg iI (by unfold nOf; rw [if_pos (by omega)])) dX0_sizeOf_50
  by_cases e3 : w = 1
  · refine r_tsIn (tgt := 51) C (by omega) 1 e3 (by decide) (by decide) rfl (by decide) dX0_sizeOf_1 ?_
    refine r_aload_n C rfl (lv_at hl 0 rfl) dX0_sizeOf_51 ?_
    refine r_get C (ci := 0) (v := .ref (d + 2)) rfl uin0 hd.o 3 (by decide) q_83 rfl rfl dX0_sizeOf_52 ?_
    refine r_iload_n C rfl (lv_at hl 1 rfl) dX0_sizeOf_55 ?_
    refine r_iald (v := F (2 + 52 * s + 1)) C hd.c1 s (by omega) (by omega) (by omega) rfl dX0_sizeOf_56 ?_
    have b4 := hSm.1 (2 + 52 * s + 1) (by omega)
    exact r_iretP C rfl rfl (congrArg iI (by unfold nOf; rw [if_neg (by omega), if_pos (by omega)])) dX0_sizeOf_57
  by_cases e5 : w = 2
  · refine r_tsIn (tgt := 58) C (by omega) 2 e5 (by decide) (by decide) rfl (by decide) dX0_sizeOf_1 ?_
    refine r_aload_n C rfl (lv_at hl 0 rfl) dX0_sizeOf_58 ?_
    refine r_iload_n C rfl (lv_at hl 1 rfl) dX0_sizeOf_59 ?_
    refine r_vPi (rest := []) C (k_X0_pagesOf l g d F hSm x s (by omega) (by omega)) s_RX0_76 hd (recv C (ci := 0) rfl hd.o) hl.1 rfl ⟨by decide, by decide⟩ rfl (Nat.le_of_ble_eq_true rfl) ⟨Nat.le_refl 0, Nat.le_refl 0⟩ dX0_sizeOf_60 ?_
    have b6 := tk_b hSm s (by omega)
    exact r_iretP C rfl rfl (congrArg iI (by unfold nOf; rw [if_neg (by omega), if_neg (by omega), if_pos (by omega)])) dX0_sizeOf_63
  by_cases e7 : w = 3
  · refine r_tsIn (tgt := 64) C (by omega) 3 e7 (by decide) (by decide) rfl (by decide) dX0_sizeOf_1 ?_
    refine r_aload_n C rfl (lv_at hl 0 rfl) dX0_sizeOf_64 ?_
    refine r_get C (ci := 0) (v := .ref (d + 3)) rfl uin0 hd.o 4 (by decide) q_85 rfl rfl dX0_sizeOf_65 ?_
    refine r_iload_n C rfl (lv_at hl 1 rfl) dX0_sizeOf_68 ?_
    refine r_iald (v := F (2 + 52 * s + 2)) C hd.c2 s (by omega) (by omega) (by omega) rfl dX0_sizeOf_69 ?_
    have b8 := hSm.1 (2 + 52 * s + 2) (by omega)
    exact r_iretP C rfl rfl (congrArg iI (by unfold nOf; rw [if_neg (by omega), if_neg (by omega), if_neg (by omega), if_pos (by omega)])) dX0_sizeOf_70
  by_cases e9 : w = 4
  · refine r_tsIn (tgt := 71) C (by omega) 4 e9 (by decide) (by decide) rfl (by decide) dX0_sizeOf_1 ?_
    refine r_aload_n C rfl (lv_at hl 0 rfl) dX0_sizeOf_71 ?_
    refine r_get C (ci := 0) (v := .ref (d + 4)) rfl uin0 hd.o 5 (by decide) q_86 rfl rfl dX0_sizeOf_72 ?_
    refine r_iload_n C rfl (lv_at hl 1 rfl) dX0_sizeOf_75 ?_
    refine r_iald (v := F (2 + 52 * s + 3)) C hd.c3 s (by omega) (by omega) (by omega) rfl dX0_sizeOf_76 ?_
    have b10 := hSm.1 (2 + 52 * s + 3) (by omega)
    exact r_iretP C rfl rfl (congrArg iI (by unfold nOf; rw [if_neg (by omega), if_neg (by omega), if_neg (by omega), if_neg (by omega), if_pos (by omega)])) dX0_sizeOf_77
  by_cases e11 : w = 5
  · refine r_tsIn (tgt := 78) C (by omega) 5 e11 (by decide) (by decide) rfl (by decide) dX0_sizeOf_1 ?_
    refine r_aload_n C rfl (lv_at hl 0 rfl) dX0_sizeOf_78 ?_
    refine r_get C (ci := 0) (v := .ref (d + 5)) rfl uin0 hd.o 6 (by decide) q_87 rfl rfl dX0_sizeOf_79 ?_
    refine r_iload_n C rfl (lv_at hl 1 rfl) dX0_sizeOf_82 ?_
    refine r_aaldr (v := d + 6 + s) C hd.rl s (by omega) (by omega) (by omega) rfl dX0_sizeOf_83 ?_
    refine r_sPi (rest := []) C (k_X0_sum l g (d + 6 + s) 5 (fun z => F (2 + 52 * s + (7 + z))) 1000000 (by omega) (by omega) (fun z hz => hSm.f s (7 + z) (by omega) (by omega))) s_RX0_72 (hd.l s (by omega)) hl.1 rfl ⟨by decide, by decide⟩ rfl (Nat.le_of_ble_eq_true rfl) ⟨Nat.le_refl 0, Nat.le_refl 0⟩ dX0_sizeOf_84 ?_
    exact r_iretP C rfl rfl (congrArg iI (by unfold nOf; rw [if_neg (by omega), if_neg (by omega), if_neg (by omega), if_neg (by omega), if_neg (by omega), if_pos (by omega)]; rfl)) dX0_sizeOf_87
  by_cases e12 : w = 6
  · refine r_tsIn (tgt := 88) C (by omega) 6 e12 (by decide) (by decide) rfl (by decide) dX0_sizeOf_1 ?_
    refine r_aload_n C rfl (lv_at hl 0 rfl) dX0_sizeOf_88 ?_
    refine r_iload_n C rfl (lv_at hl 1 rfl) dX0_sizeOf_89 ?_
    refine r_vPi (rest := []) C (k_X0_lendsOf l g d F hSm x s (by omega) (by omega)) s_RX0_99 hd (recv C (ci := 0) rfl hd.o) hl.1 rfl ⟨by decide, by decide⟩ rfl (Nat.le_of_ble_eq_true rfl) ⟨Nat.le_refl 0, Nat.le_refl 0⟩ dX0_sizeOf_90 ?_
    exact r_iretP C rfl rfl (congrArg iI (by unfold nOf; rw [if_neg (by omega), if_neg (by omega), if_neg (by omega), if_neg (by omega), if_neg (by omega), if_neg (by omega), if_pos (by omega)])) dX0_sizeOf_93
  refine r_tsOut (tgt := 94) C (by omega) (by omega) (by decide) dX0_sizeOf_1 ?_
  refine r_aload_n C rfl (lv_at hl 0 rfl) dX0_sizeOf_94 ?_
  refine r_iload_n C rfl (lv_at hl 1 rfl) dX0_sizeOf_95 ?_
  refine r_vPi (rest := []) C (k_X0_idleOf l g d F hSm x s (by omega) (by omega)) s_RX0_80 hd (recv C (ci := 0) rfl hd.o) hl.1 rfl ⟨by decide, by decide⟩ rfl (Nat.le_of_ble_eq_true rfl) ⟨Nat.le_refl 0, Nat.le_refl 0⟩ dX0_sizeOf_96 ?_
  have b13 := idle_b hSm s (by omega)
  exact r_iretP C rfl rfl (congrArg iI (by unfold nOf; rw [if_neg (by omega), if_neg (by omega), if_neg (by omega), if_neg (by omega), if_neg (by omega), if_neg (by omega), if_neg (by omega), if_pos (by omega)])) dX0_sizeOf_99
set_option maxHeartbeats 4000000 in
theorem k_X0_countOf (l : Launch) (g : Gt) (d : Nat) (F : Nat → Int) (hSm : Sm F) (x : Int) (s : Nat) (hx : x = (s : Int)) (hs : s < 5) (w : Int) (hw : 8 ≤ w ∧ w ≤ 10) : CP l yX0_countOf cX0_countOf 3 (some .int) 0 0 g [.ref d, .int (iI x), .int (iI w)] (dvAt g d F) (some (.int (iI (nOf F s w)))) := by
  refine cp_of "LentRoom$Device" (by decide) rfl (Nat.le_of_ble_eq_true rfl) ?_
  intro zp ze zs zm za zb zt zc ls C hP hl
  have hd := hP
  have hl : lv_has ls 3 [(0, .ref d), (1, .int (iI x)), (2, .int (iI w))] := hl
  refine r_iload_n C rfl (lv_at hl 2 rfl) dX0_countOf_0 ?_
  by_cases e1 : w = 8
  · refine r_lk (tgt := 28) (off := 27) C (by omega) (by decide) (by rw [e1]; rfl) (by decide) dX0_countOf_1 ?_
    refine r_aload_n C rfl (lv_at hl 0 rfl) dX0_countOf_28 ?_
    refine r_get C (ci := 0) (v := .ref (d + 17)) rfl uin0 hd.o 8 (by decide) q_91 rfl rfl dX0_countOf_29 ?_
    refine r_iload_n C rfl (lv_at hl 1 rfl) dX0_countOf_32 ?_
    refine r_iald (v := F (2 + 52 * s + 4)) C hd.c4 s (by omega) (by omega) (by omega) rfl dX0_countOf_33 ?_
    have b2 := hSm.1 (2 + 52 * s + 4) (by omega)
    exact r_iretP C rfl rfl (congrArg iI (by unfold nOf; rw [if_neg (by omega), if_neg (by omega), if_neg (by omega), if_neg (by omega), if_neg (by omega), if_neg (by omega), if_neg (by omega), if_neg (by omega), if_pos (by omega)])) dX0_countOf_34
  by_cases e3 : w = 9
  · refine r_lk (tgt := 35) (off := 34) C (by omega) (by decide) (by rw [e3]; rfl) (by decide) dX0_countOf_1 ?_
    refine r_aload_n C rfl (lv_at hl 0 rfl) dX0_countOf_35 ?_
    refine r_get C (ci := 0) (v := .ref (d + 18)) rfl uin0 hd.o 9 (by decide) q_92 rfl rfl dX0_countOf_36 ?_
    refine r_iload_n C rfl (lv_at hl 1 rfl) dX0_countOf_39 ?_
    refine r_iald (v := F (2 + 52 * s + 5)) C hd.c5 s (by omega) (by omega) (by omega) rfl dX0_countOf_40 ?_
    have b4 := hSm.1 (2 + 52 * s + 5) (by omega)
    exact r_iretP C rfl rfl (congrArg iI (by unfold nOf; rw [if_neg (by omega), if_neg (by omega), if_neg (by omega), if_neg (by omega), if_neg (by omega), if_neg (by omega), if_neg (by omega), if_neg (by omega), if_neg (by omega), if_pos (by omega)])) dX0_countOf_41
  refine r_lk (tgt := 42) (off := 41) C (by omega) (by decide) (by show (if (8 : Int) = w then 27 else if (9 : Int) = w then 34 else 41) = _; rw [if_neg (by omega), if_neg (by omega)]) (by decide) dX0_countOf_1 ?_
  refine r_aload_n C rfl (lv_at hl 0 rfl) dX0_countOf_42 ?_
  refine r_get C (ci := 0) (v := .ref (d + 19)) rfl uin0 hd.o 10 (by decide) q_93 rfl rfl dX0_countOf_43 ?_
  refine r_iload_n C rfl (lv_at hl 1 rfl) dX0_countOf_46 ?_
  refine r_iald (v := F (2 + 52 * s + 6)) C hd.c6 s (by omega) (by omega) (by omega) rfl dX0_countOf_47 ?_
  have b5 := hSm.1 (2 + 52 * s + 6) (by omega)
  exact r_iretP C rfl rfl (congrArg iI (by unfold nOf; rw [if_neg (by omega), if_neg (by omega), if_neg (by omega), if_neg (by omega), if_neg (by omega), if_neg (by omega), if_neg (by omega), if_neg (by omega), if_neg (by omega), if_neg (by omega)])) dX0_countOf_48
end
section
theorem s_RX0_108 : SiteV "LentRoom$Device" 108 "LentRoom$Device" yX0_hasRoomForSpace cX0_hasRoomForSpace 2 (some .boolean) 1 := ⟨⟨q_406, q_407, q_408, q_32, q_409⟩, rfl, by decide, by decide, by decide +kernel⟩
theorem s_RX0_117 : SiteV "LentRoom$Device" 117 "LentRoom$Device" yX0_takesFloor cX0_takesFloor 3 (some .boolean) 2 := ⟨⟨q_477, q_478, q_479, q_32, q_480⟩, rfl, by decide, by decide, by decide +kernel⟩
theorem s_RX0_120 : SiteV "LentRoom$Device" 120 "LentRoom$Device" yX0_takesCeiling cX0_takesCeiling 3 (some .boolean) 2 := ⟨⟨q_649, q_641, q_642, q_32, q_643⟩, rfl, by decide, by decide, by decide +kernel⟩
theorem s_RX0_139 : SiteV "LentRoom$Device" 139 "LentRoom$Device" yX0_greatestBorrower cX0_greatestBorrower 4 (some .int) 1 := ⟨⟨q_449, q_451, q_4, q_32, q_452⟩, rfl, by decide, by decide, by decide +kernel⟩
theorem s_RX0_136 : SiteV "LentRoom$Device" 136 "LentRoom$Device" yX0_idlestBut cX0_idlestBut 7 (some .int) 2 := ⟨⟨q_453, q_455, q_5, q_32, q_456⟩, rfl, by decide, by decide, by decide +kernel⟩
theorem s_RX0_142 : SiteV "LentRoom$Device" 142 "LentRoom$Device" yX0_loseOldest cX0_loseOldest 3 none 1 := ⟨⟨q_457, q_459, q_6, q_32, q_460⟩, rfl, by decide, by decide, by decide +kernel⟩
theorem s_RX0_132 : SiteV "LentRoom$Device" 132 "LentRoom$Device" yX0_recallLoan cX0_recallLoan 4 none 1 := ⟨⟨q_445, q_447, q_3, q_32, q_448⟩, rfl, by decide, by decide, by decide +kernel⟩
set_option maxHeartbeats 4000000 in
theorem k_X0_addSpace (l : Launch) (g : Gt) (d : Nat) (F : Nat → Int) (M : Int) (hS : Sn F M) (hM : M ≤ 999000) (x y : Int) (hx : Rg x) (hy : Rg y) : CH l yX0_addSpace cX0_addSpace 3 (some .int) 3 66 g [.ref d, .int (iI x), .int (iI y)] (dvAt g d F) (some (.int (iI (if okMk F x y then F 0 else -1)))) (Dvp d) (dvAt g d (if okMk F x y then mkF F x y else F)) := by
  refine ch_of "LentRoom$Device" (by decide) rfl (Nat.le_of_ble_eq_true rfl) ?_
  intro zp ze zs zm za zb zt zc ls C hP hF hl
  have hd := hP
  have hl : lv_has ls 3 [(0, .ref d), (1, .int (iI x)), (2, .int (iI y))] := hl
  have hSm : Sm F := hS.m (by omega)
  refine r_aload_n C rfl (lv_at hl 0 rfl) dX0_addSpace_0 ?_
  refine r_iload_n C rfl (lv_at hl 1 rfl) dX0_addSpace_1 ?_
  refine r_iload_n C rfl (lv_at hl 2 rfl) dX0_addSpace_2 ?_
  refine r_vPi (rest := []) C (k_X0_areBounds l g d F hSm x y (by omega) (by omega)) s_RX0_105 hd (recv C (ci := 0) rfl hd.o) hl.1 rfl ⟨by decide, by decide⟩ rfl (Nat.le_of_ble_eq_true rfl) ⟨Nat.le_refl 0, Nat.le_refl 0⟩ dX0_addSpace_3 ?_
  refine r_ifP_eq (tgt := 17) C (by decide) dX0_addSpace_6 (fun c1 => ?_) (fun c1 => ?_)
  · refine r_iconst C dX0_addSpace_17 ?_
    exact r_iretH C rfl rfl (congrArg iI (by rw [if_neg (by unfold okMk; omega)])) hF (by rw [if_neg (by unfold okMk; omega)]; exact hd) dX0_addSpace_18
  · refine r_aload_n C rfl (lv_at hl 0 rfl) dX0_addSpace_9 ?_
    refine r_iload_n C rfl (lv_at hl 1 rfl) dX0_addSpace_10 ?_
    refine r_vPi (rest := []) C (k_X0_hasRoomForSpace l g d F hSm x (by omega)) s_RX0_108 hd (recv C (ci := 0) rfl hd.o) hl.1 rfl ⟨by decide, by decide⟩ rfl (Nat.le_of_ble_eq_true rfl) ⟨Nat.le_refl 0, Nat.le_refl 0⟩ dX0_addSpace_11 ?_
    refine r_ifP_ne (tgt := 19) C (by decide) dX0_addSpace_14 (fun c2 => ?_) (fun c2 => ?_)
    · have hn := hSm.n
      have hok : okMk F x y := (by unfold okMk; exact ⟨by omega, by omega⟩)
      refine r_aload_n C rfl (lv_at hl 0 rfl) dX0_addSpace_19 ?_
      refine r_get C (ci := 0) (v := .ref (d + 1)) rfl uin0 hd.o 2 (by decide) q_81 rfl rfl dX0_addSpace_20 ?_
      refine r_aload_n C rfl (lv_at hl 0 rfl) dX0_addSpace_23 ?_
      refine r_get C (ci := 0) (v := .int (iI (F 0))) rfl uin0 hd.o 0 (by decide) q_78 rfl rfl dX0_addSpace_24 ?_
      have b3 := hSm.1 0 (by omega)
      have b4 := hSm.2
      refine r_iload_n C rfl (lv_at hl 1 rfl) dX0_addSpace_27 ?_
      refine r_iast C hd.c0 hF (is_dvp (by omega)) ((F 0).toNat) (by omega) (by omega) (by omega) dX0_addSpace_28 (fun H5 locs5 h5 ho5 hz5 hF => ?_)
      have hd : dvAt g d (up F (2 + 52 * ((F 0).toNat) + 0) x) H5 := hd.putc 0 ((F 0).toNat) (by decide) h5 ho5
      refine r_aload_n C rfl (lv_at hl 0 rfl) dX0_addSpace_29 ?_
      refine r_get C (ci := 0) (v := .ref (d + 2)) rfl uin0 hd.o 3 (by decide) q_83 rfl rfl dX0_addSpace_30 ?_
      refine r_aload_n C rfl (lv_at hl 0 rfl) dX0_addSpace_33 ?_
      refine r_get C (ci := 0) (v := .int (iI ((up F (2 + 52 * ((F 0).toNat) + 0) x) 0))) rfl uin0 hd.o 0 (by decide) q_78 rfl rfl dX0_addSpace_34 ?_
      have er6 : (up F (2 + 52 * ((F 0).toNat) + 0) x) 0 = F 0 := (by rw [up_n _ _ (by omega)])
      rw [er6]
      refine r_iload_n C rfl (lv_at hl 2 rfl) dX0_addSpace_37 ?_
      refine r_iast C hd.c1 hF (is_dvp (by omega)) ((F 0).toNat) (by omega) (by omega) (by omega) dX0_addSpace_38 (fun H7 locs7 h7 ho7 hz7 hF => ?_)
      have hd : dvAt g d (up (up F (2 + 52 * ((F 0).toNat) + 0) x) (2 + 52 * ((F 0).toNat) + 1) y) H7 := hd.putc 1 ((F 0).toNat) (by decide) h7 ho7
      refine r_aload_n C rfl (lv_at hl 0 rfl) dX0_addSpace_39 ?_
      refine r_dup C rfl dX0_addSpace_40 ?_
      refine r_get C (ci := 0) (v := .int (iI ((up (up F (2 + 52 * ((F 0).toNat) + 0) x) (2 + 52 * ((F 0).toNat) + 1) y) 0))) rfl uin0 hd.o 0 (by decide) q_78 rfl rfl dX0_addSpace_41 ?_
      have er8 : (up (up F (2 + 52 * ((F 0).toNat) + 0) x) (2 + 52 * ((F 0).toNat) + 1) y) 0 = F 0 := (by rw [up_n _ _ (by omega), up_n _ _ (by omega)])
      rw [er8]
      refine r_iconst C dX0_addSpace_44 ?_
      refine r_iadd C dX0_addSpace_45 ?_
      refine r_put C (ci := 0) rfl uin0 tyX0_ok nmX0 hd.o hF (is_dvp (by omega)) 0 (by decide) q_78 rfl rfl rfl rfl (by show 0 < 11; decide) dX0_addSpace_46 (fun H9 locs9 h9 ho9 hz9 hF => ?_)
      have hd : dvAt g d (up (up (up F (2 + 52 * ((F 0).toNat) + 0) x) (2 + 52 * ((F 0).toNat) + 1) y) 0 ((F 0) + 1)) H9 := hd.put0 h9 ho9
      refine r_aload_n C rfl (lv_at hl 0 rfl) dX0_addSpace_49 ?_
      refine r_get C (ci := 0) (v := .int (iI ((up (up (up F (2 + 52 * ((F 0).toNat) + 0) x) (2 + 52 * ((F 0).toNat) + 1) y) 0 ((F 0) + 1)) 0))) rfl uin0 hd.o 0 (by decide) q_78 rfl rfl dX0_addSpace_50 ?_
      have er10 : (up (up (up F (2 + 52 * ((F 0).toNat) + 0) x) (2 + 52 * ((F 0).toNat) + 1) y) 0 ((F 0) + 1)) 0 = (F 0) + 1 := (by rw [up_s])
      rw [er10]
      refine r_iconst C dX0_addSpace_53 ?_
      refine r_isub C dX0_addSpace_54 ?_
      exact r_iretH C rfl rfl (congrArg iI (by rw [if_pos hok]; omega)) hF (by rw [if_pos hok]; exact hd) dX0_addSpace_55
    · refine r_iconst C dX0_addSpace_17 ?_
      exact r_iretH C rfl rfl (congrArg iI (by rw [if_neg (by unfold okMk; omega)])) hF (by rw [if_neg (by unfold okMk; omega)]; exact hd) dX0_addSpace_18
set_option maxHeartbeats 4000000 in
theorem k_X0_changeFloor (l : Launch) (g : Gt) (d : Nat) (F : Nat → Int) (M : Int) (hS : Sn F M) (hM : M ≤ 999000) (x v : Int) (s : Nat) (hx : Rg x) (hv : Rg v) (hs : 0 ≤ x → x = (s : Int)) : CH l yX0_changeFloor cX0_changeFloor 3 (some .boolean) 4 88 g [.ref d, .int (iI x), .int (iI v)] (dvAt g d F) (some (.int (iI (pI ((0 ≤ x ∧ x < F 0) ∧ okFl F s v))))) (Dvp d) (dvAt g d (if (0 ≤ x ∧ x < F 0) ∧ okFl F s v then up F (2 + 52 * s + 0) v else F)) := by
  refine ch_of "LentRoom$Device" (by decide) rfl (Nat.le_of_ble_eq_true rfl) ?_
  intro zp ze zs zm za zb zt zc ls C hP hF hl
  have hd := hP
  have hl : lv_has ls 3 [(0, .ref d), (1, .int (iI x)), (2, .int (iI v))] := hl
  have hSm : Sm F := hS.m (by omega)
  refine r_aload_n C rfl (lv_at hl 0 rfl) dX0_changeFloor_0 ?_
  refine r_iload_n C rfl (lv_at hl 1 rfl) dX0_changeFloor_1 ?_
  refine r_iload_n C rfl (lv_at hl 2 rfl) dX0_changeFloor_2 ?_
  refine r_vPi (rest := []) C (k_X0_takesFloor l g d F hSm x v s (by omega) (by omega) (by omega)) s_RX0_117 hd (recv C (ci := 0) rfl hd.o) hl.1 rfl ⟨by decide, by decide⟩ rfl (Nat.le_of_ble_eq_true rfl) ⟨Nat.le_refl 0, Nat.le_refl 0⟩ dX0_changeFloor_3 ?_
  have b1 := hSm.n
  refine r_ifP_ne (tgt := 11) C (by decide) dX0_changeFloor_6 (fun c2 => ?_) (fun c2 => ?_)
  · have hn := hSm.n
    refine r_aload_n C rfl (lv_at hl 0 rfl) dX0_changeFloor_11 ?_
    refine r_get C (ci := 0) (v := .ref (d + 1)) rfl uin0 hd.o 2 (by decide) q_81 rfl rfl dX0_changeFloor_12 ?_
    refine r_iload_n C rfl (lv_at hl 1 rfl) dX0_changeFloor_15 ?_
    refine r_iload_n C rfl (lv_at hl 2 rfl) dX0_changeFloor_16 ?_
    refine r_iast C hd.c0 hF (is_dvp (by omega)) s (by omega) (by omega) (by omega) dX0_changeFloor_17 (fun H3 locs3 h3 ho3 hz3 hF => ?_)
    have hd : dvAt g d (up F (2 + 52 * s + 0) v) H3 := hd.putc 0 s (by decide) h3 ho3
    refine r_iconst C dX0_changeFloor_18 ?_
    exact r_iretH C rfl rfl (congrArg iI (pI_t (by assumption)).symm) hF (by rw [if_pos c2]; exact hd) dX0_changeFloor_19
  · refine r_iconst C dX0_changeFloor_9 ?_
    exact r_iretH C rfl rfl (congrArg iI (pI_f (by assumption)).symm) hF (by rw [if_neg c2]; exact hd) dX0_changeFloor_10
set_option maxHeartbeats 4000000 in
theorem k_X0_changeCeiling (l : Launch) (g : Gt) (d : Nat) (F : Nat → Int) (M : Int) (hS : Sn F M) (hM : M ≤ 999000) (x v : Int) (s : Nat) (hx : Rg x) (hv : Rg v) (hs : 0 ≤ x → x = (s : Int)) : CH l yX0_changeCeiling cX0_changeCeiling 3 (some .boolean) 2 44 g [.ref d, .int (iI x), .int (iI v)] (dvAt g d F) (some (.int (iI (pI ((0 ≤ x ∧ x < F 0) ∧ okCe F s v))))) (Dvp d) (dvAt g d (if (0 ≤ x ∧ x < F 0) ∧ okCe F s v then up F (2 + 52 * s + 1) v else F)) := by
  refine ch_of "LentRoom$Device" (by decide) rfl (Nat.le_of_ble_eq_true rfl) ?_
  intro zp ze zs zm za zb zt zc ls C hP hF hl
  have hd := hP
  have hl : lv_has ls 3 [(0, .ref d), (1, .int (iI x)), (2, .int (iI v))] := hl
  have hSm : Sm F := hS.m (by omega)
  refine r_aload_n C rfl (lv_at hl 0 rfl) dX0_changeCeiling_0 ?_
  refine r_iload_n C rfl (lv_at hl 1 rfl) dX0_changeCeiling_1 ?_
  refine r_iload_n C rfl (lv_at hl 2 rfl) dX0_changeCeiling_2 ?_
  refine r_vPi (rest := []) C (k_X0_takesCeiling l g d F hSm x v s (by omega) (by omega) (by omega)) s_RX0_120 hd (recv C (ci := 0) rfl hd.o) hl.1 rfl ⟨by decide, by decide⟩ rfl (Nat.le_of_ble_eq_true rfl) ⟨Nat.le_refl 0, Nat.le_refl 0⟩ dX0_changeCeiling_3 ?_
  have b1 := hSm.n
  refine r_ifP_ne (tgt := 11) C (by decide) dX0_changeCeiling_6 (fun c2 => ?_) (fun c2 => ?_)
  · have hn := hSm.n
    refine r_aload_n C rfl (lv_at hl 0 rfl) dX0_changeCeiling_11 ?_
    refine r_get C (ci := 0) (v := .ref (d + 2)) rfl uin0 hd.o 3 (by decide) q_83 rfl rfl dX0_changeCeiling_12 ?_
    refine r_iload_n C rfl (lv_at hl 1 rfl) dX0_changeCeiling_15 ?_
    refine r_iload_n C rfl (lv_at hl 2 rfl) dX0_changeCeiling_16 ?_
    refine r_iast C hd.c1 hF (is_dvp (by omega)) s (by omega) (by omega) (by omega) dX0_changeCeiling_17 (fun H3 locs3 h3 ho3 hz3 hF => ?_)
    have hd : dvAt g d (up F (2 + 52 * s + 1) v) H3 := hd.putc 1 s (by decide) h3 ho3
    refine r_iconst C dX0_changeCeiling_18 ?_
    exact r_iretH C rfl rfl (congrArg iI (pI_t (by assumption)).symm) hF (by rw [if_pos c2]; exact hd) dX0_changeCeiling_19
  · refine r_iconst C dX0_changeCeiling_9 ?_
    exact r_iretH C rfl rfl (congrArg iI (pI_f (by assumption)).symm) hF (by rw [if_neg c2]; exact hd) dX0_changeCeiling_10
set_option maxHeartbeats 4000000 in
theorem k_X0_loseOldest (l : Launch) (g : Gt) (d : Nat) (F : Nat → Int) (M : Int) (hS : Sn F M) (hM : M ≤ 999000) (x : Int) (s : Nat) (hx : x = (s : Int)) (hs : s < 5) (hp : least F s ≠ -1) : CH l yX0_loseOldest cX0_loseOldest 3 none 1 24 g [.ref d, .int (iI x)] (dvAt g d F) (none) (Dvp d) (dvAt g d (lose F s)) := by
  refine ch_of "LentRoom$Device" (by decide) rfl (Nat.le_of_ble_eq_true rfl) ?_
  intro zp ze zs zm za zb zt zc ls C hP hF hl
  have hd := hP
  have hl : lv_has ls 3 [(0, .ref d), (1, .int (iI x))] := hl
  have hSm : Sm F := hS.m (by omega)
  refine r_aload_n C rfl (lv_at hl 0 rfl) dX0_loseOldest_0 ?_
  refine r_iload_n C rfl (lv_at hl 1 rfl) dX0_loseOldest_1 ?_
  refine r_iconst C dX0_loseOldest_2 ?_
  refine r_vPi (rest := []) C (k_X0_oldestAfter l g d F hSm x s (by omega) (by omega) 0 (by omega)) s_RX0_102 hd (recv C (ci := 0) rfl hd.o) hl.1 rfl ⟨by decide, by decide⟩ rfl (Nat.le_of_ble_eq_true rfl) ⟨Nat.le_refl 0, Nat.le_refl 0⟩ dX0_loseOldest_3 ?_
  have b1 := oa_b (F := F) s 0 40
  refine r_istore_n (lv' := [(2, .int (iI (oa F s 0 40))), (0, .ref d), (1, .int (iI x))]) C rfl hl (by decide) rfl dX0_loseOldest_6 (fun ls hl => ?_)
  have hlb := oa_b (F := F) s 0 40
  refine r_iload_n C rfl (lv_at hl 0 rfl) dX0_loseOldest_7 ?_
  refine r_iconst C dX0_loseOldest_8 ?_
  refine r_icmp_eq (tgt := 31) C (by decide) (by omega) (by decide) dX0_loseOldest_9 (fun c2 => ?_) (fun c2 => ?_)
  · exact absurd c2 hp
  · refine r_aload_n C rfl (lv_at hl 1 rfl) dX0_loseOldest_12 ?_
    refine r_get C (ci := 0) (v := .ref (d + 11)) rfl uin0 hd.o 7 (by decide) q_89 rfl rfl dX0_loseOldest_13 ?_
    refine r_iload_n C rfl (lv_at hl 2 rfl) dX0_loseOldest_16 ?_
    refine r_aaldr (v := d + 12 + s) C hd.rw s (by omega) (by omega) (by omega) rfl dX0_loseOldest_17 ?_
    refine r_iload_n C rfl (lv_at hl 0 rfl) dX0_loseOldest_18 ?_
    refine r_iconst C dX0_loseOldest_19 ?_
    refine r_iast C (hd.w s (by omega)) hF (is_dvp (by omega)) ((oa F s 0 40).toNat) (by omega) (by omega) (by omega) dX0_loseOldest_20 (fun H3 locs3 h3 ho3 hz3 hF => ?_)
    have hd : dvAt g d (up F (2 + 52 * s + (12 + ((oa F s 0 40).toNat))) 0) H3 := hd.putw s ((oa F s 0 40).toNat) (by omega) (by omega) h3 ho3
    refine r_aload_n C rfl (lv_at hl 1 rfl) dX0_loseOldest_21 ?_
    refine r_get C (ci := 0) (v := .ref (d + 18)) rfl uin0 hd.o 9 (by decide) q_92 rfl rfl dX0_loseOldest_22 ?_
    refine r_iload_n C rfl (lv_at hl 2 rfl) dX0_loseOldest_25 ?_
    refine r_dup2 C rfl rfl dX0_loseOldest_26 ?_
    refine r_iald (v := (up F (2 + 52 * s + (12 + ((oa F s 0 40).toNat))) 0) (2 + 52 * s + 5)) C hd.c5 s (by omega) (by omega) (by omega) rfl dX0_loseOldest_27 ?_
    refine r_iconst C dX0_loseOldest_28 ?_
    refine r_iadd C dX0_loseOldest_29 ?_
    refine r_iast C hd.c5 hF (is_dvp (by omega)) s (by omega) (by omega) (by omega) dX0_loseOldest_30 (fun H4 locs4 h4 ho4 hz4 hF => ?_)
    have hd : dvAt g d (up (up F (2 + 52 * s + (12 + ((oa F s 0 40).toNat))) 0) (2 + 52 * s + 5) (((up F (2 + 52 * s + (12 + ((oa F s 0 40).toNat))) 0) (2 + 52 * s + 5)) + 1)) H4 := hd.putc 5 s (by decide) h4 ho4
    exact r_vretH C rfl hF (by unfold lose inc; rw [if_neg hp]; exact hd) dX0_loseOldest_31
set_option maxHeartbeats 4000000 in
theorem k_X0_recallLoan (l : Launch) (g : Gt) (d : Nat) (F : Nat → Int) (M : Int) (hS : Sn F M) (hM : M ≤ 998000) (hZ : Zr F) (hg : Dg F) (x : Int) (s : Nat) (hx : x = (s : Int)) (hs : s < 5) (hpg : Pg F s) (hp : 0 < S5 F (7 + s)) : CH l yX0_recallLoan cX0_recallLoan 4 none 2 49 g [.ref d, .int (iI x)] (dvAt g d F) (none) (Dvp d) (dvAt g d (recall F s)) := by
  refine ch_of "LentRoom$Device" (by decide) rfl (Nat.le_of_ble_eq_true rfl) ?_
  intro zp ze zs zm za zb zt zc ls C hP hF hl
  have hd := hP
  have hl : lv_has ls 4 [(0, .ref d), (1, .int (iI x))] := hl
  have hSm : Sm F := hS.m (by omega)
  refine r_aload_n C rfl (lv_at hl 0 rfl) dX0_recallLoan_0 ?_
  refine r_iload_n C rfl (lv_at hl 1 rfl) dX0_recallLoan_1 ?_
  refine r_vPi (rest := []) C (k_X0_greatestBorrower l g d F hSm x s (by omega) (by omega)) s_RX0_139 hd (recv C (ci := 0) rfl hd.o) hl.1 rfl ⟨by decide, by decide⟩ rfl (Nat.le_of_ble_eq_true rfl) ⟨Nat.le_refl 0, Nat.le_refl 0⟩ dX0_recallLoan_2 ?_
  have b1 := gb_b (F := F) s (F 0).toNat
  obtain ⟨hgb, hb5, hlo⟩ := gb_most hSm hZ hs hp
  rw [hgb]
  have hbs : mostOf F s ≠ s := (fun h => by have h9 := hg s hs; rw [h] at hlo; omega)
  have hn := hSm.n
  refine r_istore_n (lv' := [(2, .int (iI ((mostOf F s : Nat) : Int))), (0, .ref d), (1, .int (iI x))]) C rfl hl (by decide) rfl dX0_recallLoan_5 (fun ls hl => ?_)
  refine r_iload_n C rfl (lv_at hl 0 rfl) dX0_recallLoan_6 ?_
  refine r_iconst C dX0_recallLoan_7 ?_
  refine r_icmp_ne (tgt := 12) C (by decide) (by omega) (by decide) dX0_recallLoan_8 (fun c2 => ?_) (fun c2 => ?_)
  · refine r_aload_n C rfl (lv_at hl 1 rfl) dX0_recallLoan_12 ?_
    refine r_get C (ci := 0) (v := .ref (d + 5)) rfl uin0 hd.o 6 (by decide) q_87 rfl rfl dX0_recallLoan_13 ?_
    refine r_iload_n C rfl (lv_at hl 0 rfl) dX0_recallLoan_16 ?_
    refine r_aaldr (v := d + 6 + (mostOf F s)) C hd.rl (mostOf F s) (by omega) (by omega) (by omega) rfl dX0_recallLoan_17 ?_
    refine r_iload_n C rfl (lv_at hl 2 rfl) dX0_recallLoan_18 ?_
    refine r_dup2 C rfl rfl dX0_recallLoan_19 ?_
    refine r_iald (v := F (2 + 52 * (mostOf F s) + (7 + s))) C (hd.l (mostOf F s) (by omega)) s (by omega) (by omega) (by omega) rfl dX0_recallLoan_20 ?_
    have b3 := hSm.1 (2 + 52 * (mostOf F s) + (7 + s)) (by omega)
    refine r_iconst C dX0_recallLoan_21 ?_
    refine r_isub C dX0_recallLoan_22 ?_
    refine r_iast C (hd.l (mostOf F s) (by omega)) hF (is_dvp (by omega)) s (by omega) (by omega) (by omega) dX0_recallLoan_23 (fun H4 locs4 h4 ho4 hz4 hF => ?_)
    have hd : dvAt g d (up F (2 + 52 * (mostOf F s) + (7 + s)) ((F (2 + 52 * (mostOf F s) + (7 + s))) - 1)) H4 := hd.putl (mostOf F s) s (by omega) (by omega) h4 ho4
    refine r_aload_n C rfl (lv_at hl 1 rfl) dX0_recallLoan_24 ?_
    refine r_get C (ci := 0) (v := .ref (d + 17)) rfl uin0 hd.o 8 (by decide) q_91 rfl rfl dX0_recallLoan_25 ?_
    refine r_iload_n C rfl (lv_at hl 2 rfl) dX0_recallLoan_28 ?_
    refine r_dup2 C rfl rfl dX0_recallLoan_29 ?_
    refine r_iald (v := (up F (2 + 52 * (mostOf F s) + (7 + s)) ((F (2 + 52 * (mostOf F s) + (7 + s))) - 1)) (2 + 52 * s + 4)) C hd.c4 s (by omega) (by omega) (by omega) rfl dX0_recallLoan_30 ?_
    refine r_iconst C dX0_recallLoan_31 ?_
    refine r_iadd C dX0_recallLoan_32 ?_
    refine r_iast C hd.c4 hF (is_dvp (by omega)) s (by omega) (by omega) (by omega) dX0_recallLoan_33 (fun H5 locs5 h5 ho5 hz5 hF => ?_)
    have hd : dvAt g d (up (up F (2 + 52 * (mostOf F s) + (7 + s)) ((F (2 + 52 * (mostOf F s) + (7 + s))) - 1)) (2 + 52 * s + 4) (((up F (2 + 52 * (mostOf F s) + (7 + s)) ((F (2 + 52 * (mostOf F s) + (7 + s))) - 1)) (2 + 52 * s + 4)) + 1)) H5 := hd.putc 4 s (by decide) h5 ho5
    have hd : dvAt g d (rc1 F s) H5 := hd
    have hS1 : Sn (rc1 F s) (M + 1) := rc1_S hS (by omega) hZ hs hp
    have hSm1 : Sm (rc1 F s) := hS1.m (by omega)
    have e0 : rc1 F s 0 = F 0 := rc1_0 F s
    have hls : least (rc1 F s) (mostOf F s) ≠ -1 := rc1_least hSm hs (by omega) hbs hlo hpg
    refine r_aload_n C rfl (lv_at hl 1 rfl) dX0_recallLoan_34 ?_
    refine r_iload_n C rfl (lv_at hl 0 rfl) dX0_recallLoan_35 ?_
    refine r_vPi (rest := []) C (k_X0_idleOf l g d (rc1 F s) hSm1 ((mostOf F s : Nat) : Int) (mostOf F s) (by omega) (by omega)) s_RX0_80 hd (recv C (ci := 0) rfl hd.o) hl.1 rfl ⟨by decide, by decide⟩ rfl (Nat.le_of_ble_eq_true rfl) ⟨Nat.le_refl 0, Nat.le_refl 0⟩ dX0_recallLoan_36 ?_
    have b6 := idle_b hSm1 (mostOf F s) (by omega)
    refine r_if_le (tgt := 53) C (by decide) (by omega) dX0_recallLoan_39 (fun c7 => ?_) (fun c7 => ?_)
    · refine r_aload_n C rfl (lv_at hl 1 rfl) dX0_recallLoan_53 ?_
      refine r_vPi (rest := []) C (k_X0_freeCommonRoom l g d (rc1 F s) hSm1) s_RX0_90 hd (recv C (ci := 0) rfl hd.o) hl.1 rfl ⟨by decide, by decide⟩ rfl (Nat.le_of_ble_eq_true rfl) ⟨Nat.le_refl 0, Nat.le_refl 0⟩ dX0_recallLoan_54 ?_
      have b8 := free_b hSm1
      refine r_if_le (tgt := 71) C (by decide) (by omega) dX0_recallLoan_57 (fun c9 => ?_) (fun c9 => ?_)
      · refine r_aload_n C rfl (lv_at hl 1 rfl) dX0_recallLoan_71 ?_
        refine r_iload_n C rfl (lv_at hl 0 rfl) dX0_recallLoan_72 ?_
        refine r_iload_n C rfl (lv_at hl 2 rfl) dX0_recallLoan_73 ?_
        refine r_vPi (rest := []) C (k_X0_idlestBut l g d (rc1 F s) hSm1 ((mostOf F s : Nat) : Int) x (mostOf F s) s (by omega) (by omega) (by omega) (by omega)) s_RX0_136 hd (recv C (ci := 0) rfl hd.o) hl.1 rfl ⟨by decide, by decide⟩ rfl (Nat.le_of_ble_eq_true rfl) ⟨Nat.le_refl 0, Nat.le_refl 0⟩ dX0_recallLoan_74 ?_
        have b10 := lender_b hSm1 (mostOf F s) s
        refine r_istore_n (lv' := [(3, .int (iI (lender (rc1 F s) (mostOf F s) s))), (2, .int (iI ((mostOf F s : Nat) : Int))), (0, .ref d), (1, .int (iI x))]) C rfl hl (by decide) rfl dX0_recallLoan_77 (fun ls hl => ?_)
        refine r_iload_n C rfl (lv_at hl 0 rfl) dX0_recallLoan_78 ?_
        refine r_iconst C dX0_recallLoan_79 ?_
        refine r_icmp_eq (tgt := 98) C (by decide) (by omega) (by decide) dX0_recallLoan_80 (fun c11 => ?_) (fun c11 => ?_)
        · refine r_aload_n C rfl (lv_at hl 2 rfl) dX0_recallLoan_98 ?_
          refine r_iload_n C rfl (lv_at hl 1 rfl) dX0_recallLoan_99 ?_
          refine r_vHn (rest := []) C (k_X0_loseOldest l g d (rc1 F s) (M + 1) hS1 (by omega) ((mostOf F s : Nat) : Int) (mostOf F s) (by omega) (by omega) hls) s_RX0_142 hd hF (fun _ h => h) (recv C (ci := 0) rfl hd.o) hl.1 rfl ⟨by decide, by decide⟩ rfl (Nat.le_of_ble_eq_true rfl) ⟨Nat.le_refl 0, Nat.le_refl 0⟩ dX0_recallLoan_100 (fun H12 locs12 h12 ho12 hz12 hF => ?_)
          have hd := h12
          exact r_vretH C rfl hF (by unfold recall rehouse; rw [if_neg (by omega), if_neg (by omega), if_pos (by omega)]; exact hd) dX0_recallLoan_103
        · refine r_aload_n C rfl (lv_at hl 2 rfl) dX0_recallLoan_83 ?_
          refine r_get C (ci := 0) (v := .ref (d + 5)) rfl uin0 hd.o 6 (by decide) q_87 rfl rfl dX0_recallLoan_84 ?_
          refine r_iload_n C rfl (lv_at hl 1 rfl) dX0_recallLoan_87 ?_
          refine r_aaldr (v := d + 6 + (mostOf F s)) C hd.rl (mostOf F s) (by omega) (by omega) (by omega) rfl dX0_recallLoan_88 ?_
          refine r_iload_n C rfl (lv_at hl 0 rfl) dX0_recallLoan_89 ?_
          refine r_dup2 C rfl rfl dX0_recallLoan_90 ?_
          refine r_iald (v := (rc1 F s) (2 + 52 * (mostOf F s) + (7 + ((lender (rc1 F s) (mostOf F s) s).toNat)))) C (hd.l (mostOf F s) (by omega)) ((lender (rc1 F s) (mostOf F s) s).toNat) (by omega) (by omega) (by omega) rfl dX0_recallLoan_91 ?_
          have b13 := hSm1.1 (2 + 52 * (mostOf F s) + (7 + ((lender (rc1 F s) (mostOf F s) s).toNat))) (by omega)
          refine r_iconst C dX0_recallLoan_92 ?_
          refine r_iadd C dX0_recallLoan_93 ?_
          refine r_iast C (hd.l (mostOf F s) (by omega)) hF (is_dvp (by omega)) ((lender (rc1 F s) (mostOf F s) s).toNat) (by omega) (by omega) (by omega) dX0_recallLoan_94 (fun H14 locs14 h14 ho14 hz14 hF => ?_)
          have hd : dvAt g d (up (rc1 F s) (2 + 52 * (mostOf F s) + (7 + ((lender (rc1 F s) (mostOf F s) s).toNat))) (((rc1 F s) (2 + 52 * (mostOf F s) + (7 + ((lender (rc1 F s) (mostOf F s) s).toNat)))) + 1)) H14 := hd.putl (mostOf F s) ((lender (rc1 F s) (mostOf F s) s).toNat) (by omega) (by omega) h14 ho14
          refine r_goto (tgt := 103) C (by decide) dX0_recallLoan_95 ?_
          exact r_vretH C rfl hF (by unfold recall rehouse; rw [if_neg (by omega), if_neg (by omega), if_neg (by omega)]; exact hd) dX0_recallLoan_103
      · refine r_aload_n C rfl (lv_at hl 1 rfl) dX0_recallLoan_60 ?_
        refine r_get C (ci := 0) (v := .ref (d + 4)) rfl uin0 hd.o 5 (by decide) q_86 rfl rfl dX0_recallLoan_61 ?_
        refine r_iload_n C rfl (lv_at hl 0 rfl) dX0_recallLoan_64 ?_
        refine r_dup2 C rfl rfl dX0_recallLoan_65 ?_
        refine r_iald (v := (rc1 F s) (2 + 52 * (mostOf F s) + 3)) C hd.c3 (mostOf F s) (by omega) (by omega) (by omega) rfl dX0_recallLoan_66 ?_
        have b15 := hSm1.1 (2 + 52 * (mostOf F s) + 3) (by omega)
        refine r_iconst C dX0_recallLoan_67 ?_
        refine r_iadd C dX0_recallLoan_68 ?_
        refine r_iast C hd.c3 hF (is_dvp (by omega)) (mostOf F s) (by omega) (by omega) (by omega) dX0_recallLoan_69 (fun H16 locs16 h16 ho16 hz16 hF => ?_)
        have hd : dvAt g d (up (rc1 F s) (2 + 52 * (mostOf F s) + 3) (((rc1 F s) (2 + 52 * (mostOf F s) + 3)) + 1)) H16 := hd.putc 3 (mostOf F s) (by decide) h16 ho16
        exact r_vretH C rfl hF (by unfold recall rehouse; rw [if_neg (by omega), if_pos (by omega)]; exact hd) dX0_recallLoan_70
    · refine r_aload_n C rfl (lv_at hl 1 rfl) dX0_recallLoan_42 ?_
      refine r_get C (ci := 0) (v := .ref (d + 3)) rfl uin0 hd.o 4 (by decide) q_85 rfl rfl dX0_recallLoan_43 ?_
      refine r_iload_n C rfl (lv_at hl 0 rfl) dX0_recallLoan_46 ?_
      refine r_dup2 C rfl rfl dX0_recallLoan_47 ?_
      refine r_iald (v := (rc1 F s) (2 + 52 * (mostOf F s) + 2)) C hd.c2 (mostOf F s) (by omega) (by omega) (by omega) rfl dX0_recallLoan_48 ?_
      have b17 := hSm1.1 (2 + 52 * (mostOf F s) + 2) (by omega)
      refine r_iconst C dX0_recallLoan_49 ?_
      refine r_iadd C dX0_recallLoan_50 ?_
      refine r_iast C hd.c2 hF (is_dvp (by omega)) (mostOf F s) (by omega) (by omega) (by omega) dX0_recallLoan_51 (fun H18 locs18 h18 ho18 hz18 hF => ?_)
      have hd : dvAt g d (up (rc1 F s) (2 + 52 * (mostOf F s) + 2) (((rc1 F s) (2 + 52 * (mostOf F s) + 2)) + 1)) H18 := hd.putc 2 (mostOf F s) (by decide) h18 ho18
      exact r_vretH C rfl hF (by unfold recall rehouse; rw [if_pos (by omega)]; exact hd) dX0_recallLoan_52
  · exact absurd c2 (by omega)
set_option maxHeartbeats 4000000 in
theorem k_X0_takeBlock (l : Launch) (g : Gt) (d : Nat) (F : Nat → Int) (M : Int) (hS : Sn F M) (hM : M ≤ 998000) (hZ : Zr F) (hg : Dg F) (x : Int) (s : Nat) (hx : x = (s : Int)) (hs : s < 5) (hpg : Pg F s) : CH l yX0_takeBlock cX0_takeBlock 3 (some .int) 3 72 g [.ref d, .int (iI x)] (dvAt g d F) (some (.int (iI (needR F s)))) (Dvp d) (dvAt g d (needF F s)) := by
  refine ch_of "LentRoom$Device" (by decide) rfl (Nat.le_of_ble_eq_true rfl) ?_
  intro zp ze zs zm za zb zt zc ls C hP hF hl
  have hd := hP
  have hl : lv_has ls 3 [(0, .ref d), (1, .int (iI x))] := hl
  have hSm : Sm F := hS.m (by omega)
  have hid : idle F s = F (2 + 52 * s + 0) - F (2 + 52 * s + 2) - S5 F (7 + s) := rfl
  have hib := S5_b hSm (7 + s) (by omega)
  have hlb := lnd_b (F := F) s s (F 0).toNat
  have hn := hSm.n
  have hle : lender F s s = lnd F s s (F 0).toNat := rfl
  refine r_aload_n C rfl (lv_at hl 0 rfl) dX0_takeBlock_0 ?_
  refine r_iload_n C rfl (lv_at hl 1 rfl) dX0_takeBlock_1 ?_
  refine r_vPi (rest := []) C (k_X0_pagesOf l g d F hSm x s (by omega) (by omega)) s_RX0_76 hd (recv C (ci := 0) rfl hd.o) hl.1 rfl ⟨by decide, by decide⟩ rfl (Nat.le_of_ble_eq_true rfl) ⟨Nat.le_refl 0, Nat.le_refl 0⟩ dX0_takeBlock_2 ?_
  have b1 := tk_b hSm s (by omega)
  refine r_aload_n C rfl (lv_at hl 0 rfl) dX0_takeBlock_5 ?_
  refine r_get C (ci := 0) (v := .ref (d + 2)) rfl uin0 hd.o 3 (by decide) q_83 rfl rfl dX0_takeBlock_6 ?_
  refine r_iload_n C rfl (lv_at hl 1 rfl) dX0_takeBlock_9 ?_
  refine r_iald (v := F (2 + 52 * s + 1)) C hd.c1 s (by omega) (by omega) (by omega) rfl dX0_takeBlock_10 ?_
  have b2 := hSm.1 (2 + 52 * s + 1) (by omega)
  refine r_icmp_lt (tgt := 16) C (by decide) (by omega) (by omega) dX0_takeBlock_11 (fun c3 => ?_) (fun c3 => ?_)
  · refine r_aload_n C rfl (lv_at hl 0 rfl) dX0_takeBlock_16 ?_
    refine r_iload_n C rfl (lv_at hl 1 rfl) dX0_takeBlock_17 ?_
    refine r_vPi (rest := []) C (k_X0_idleOf l g d F hSm x s (by omega) (by omega)) s_RX0_80 hd (recv C (ci := 0) rfl hd.o) hl.1 rfl ⟨by decide, by decide⟩ rfl (Nat.le_of_ble_eq_true rfl) ⟨Nat.le_refl 0, Nat.le_refl 0⟩ dX0_takeBlock_18 ?_
    have b4 := idle_b hSm s (by omega)
    refine r_if_le (tgt := 36) C (by decide) (by omega) dX0_takeBlock_21 (fun c5 => ?_) (fun c5 => ?_)
    · refine r_aload_n C rfl (lv_at hl 0 rfl) dX0_takeBlock_36 ?_
      refine r_get C (ci := 0) (v := .ref (d + 3)) rfl uin0 hd.o 4 (by decide) q_85 rfl rfl dX0_takeBlock_37 ?_
      refine r_iload_n C rfl (lv_at hl 1 rfl) dX0_takeBlock_40 ?_
      refine r_iald (v := F (2 + 52 * s + 2)) C hd.c2 s (by omega) (by omega) (by omega) rfl dX0_takeBlock_41 ?_
      have b6 := hSm.1 (2 + 52 * s + 2) (by omega)
      refine r_aload_n C rfl (lv_at hl 0 rfl) dX0_takeBlock_42 ?_
      refine r_get C (ci := 0) (v := .ref (d + 1)) rfl uin0 hd.o 2 (by decide) q_81 rfl rfl dX0_takeBlock_43 ?_
      refine r_iload_n C rfl (lv_at hl 1 rfl) dX0_takeBlock_46 ?_
      refine r_iald (v := F (2 + 52 * s + 0)) C hd.c0 s (by omega) (by omega) (by omega) rfl dX0_takeBlock_47 ?_
      have b7 := hSm.1 (2 + 52 * s + 0) (by omega)
      refine r_icmp_ge (tgt := 68) C (by decide) (by omega) (by omega) dX0_takeBlock_48 (fun c8 => ?_) (fun c8 => ?_)
      · refine r_aload_n C rfl (lv_at hl 0 rfl) dX0_takeBlock_68 ?_
        refine r_vPi (rest := []) C (k_X0_freeCommonRoom l g d F hSm) s_RX0_90 hd (recv C (ci := 0) rfl hd.o) hl.1 rfl ⟨by decide, by decide⟩ rfl (Nat.le_of_ble_eq_true rfl) ⟨Nat.le_refl 0, Nat.le_refl 0⟩ dX0_takeBlock_69 ?_
        have b9 := free_b hSm
        refine r_if_le (tgt := 87) C (by decide) (by omega) dX0_takeBlock_72 (fun c10 => ?_) (fun c10 => ?_)
        · refine r_aload_n C rfl (lv_at hl 0 rfl) dX0_takeBlock_87 ?_
          refine r_iload_n C rfl (lv_at hl 1 rfl) dX0_takeBlock_88 ?_
          refine r_iload_n C rfl (lv_at hl 1 rfl) dX0_takeBlock_89 ?_
          refine r_vPi (rest := []) C (k_X0_idlestBut l g d F hSm x x s s (by omega) (by omega) (by omega) (by omega)) s_RX0_136 hd (recv C (ci := 0) rfl hd.o) hl.1 rfl ⟨by decide, by decide⟩ rfl (Nat.le_of_ble_eq_true rfl) ⟨Nat.le_refl 0, Nat.le_refl 0⟩ dX0_takeBlock_90 ?_
          have b11 := lender_b hSm s s
          refine r_istore_n (lv' := [(2, .int (iI (lender F s s))), (0, .ref d), (1, .int (iI x))]) C rfl hl (by decide) rfl dX0_takeBlock_93 (fun ls hl => ?_)
          refine r_iload_n C rfl (lv_at hl 0 rfl) dX0_takeBlock_94 ?_
          refine r_iconst C dX0_takeBlock_95 ?_
          refine r_icmp_ne (tgt := 101) C (by decide) (by omega) (by decide) dX0_takeBlock_96 (fun c12 => ?_) (fun c12 => ?_)
          · refine r_aload_n C rfl (lv_at hl 1 rfl) dX0_takeBlock_101 ?_
            refine r_get C (ci := 0) (v := .ref (d + 5)) rfl uin0 hd.o 6 (by decide) q_87 rfl rfl dX0_takeBlock_102 ?_
            refine r_iload_n C rfl (lv_at hl 2 rfl) dX0_takeBlock_105 ?_
            refine r_aaldr (v := d + 6 + s) C hd.rl s (by omega) (by omega) (by omega) rfl dX0_takeBlock_106 ?_
            refine r_iload_n C rfl (lv_at hl 0 rfl) dX0_takeBlock_107 ?_
            refine r_dup2 C rfl rfl dX0_takeBlock_108 ?_
            refine r_iald (v := F (2 + 52 * s + (7 + ((lender F s s).toNat)))) C (hd.l s (by omega)) ((lender F s s).toNat) (by omega) (by omega) (by omega) rfl dX0_takeBlock_109 ?_
            have b13 := hSm.1 (2 + 52 * s + (7 + ((lender F s s).toNat))) (by omega)
            refine r_iconst C dX0_takeBlock_110 ?_
            refine r_iadd C dX0_takeBlock_111 ?_
            refine r_iast C (hd.l s (by omega)) hF (is_dvp (by omega)) ((lender F s s).toNat) (by omega) (by omega) (by omega) dX0_takeBlock_112 (fun H14 locs14 h14 ho14 hz14 hF => ?_)
            have hd : dvAt g d (up F (2 + 52 * s + (7 + ((lender F s s).toNat))) ((F (2 + 52 * s + (7 + ((lender F s s).toNat)))) + 1)) H14 := hd.putl s ((lender F s s).toNat) (by omega) (by omega) h14 ho14
            refine r_iconst C dX0_takeBlock_113 ?_
            exact r_iretH C rfl rfl (congrArg iI (by unfold needR; rw [if_neg (by omega), if_neg (by omega), if_neg (by omega), if_neg (by omega)])) hF (by unfold needF; rw [if_neg (by omega), if_neg (by omega), if_neg (by omega), if_neg (by omega)]; exact hd) dX0_takeBlock_114
          · refine r_iconst C dX0_takeBlock_99 ?_
            exact r_iretH C rfl rfl (congrArg iI (by unfold needR; rw [if_neg (by omega), if_neg (by omega), if_neg (by omega), if_pos (by omega)])) hF (by unfold needF; rw [if_neg (by omega), if_neg (by omega), if_neg (by omega), if_pos (by omega)]; exact hd) dX0_takeBlock_100
        · refine r_aload_n C rfl (lv_at hl 0 rfl) dX0_takeBlock_75 ?_
          refine r_get C (ci := 0) (v := .ref (d + 4)) rfl uin0 hd.o 5 (by decide) q_86 rfl rfl dX0_takeBlock_76 ?_
          refine r_iload_n C rfl (lv_at hl 1 rfl) dX0_takeBlock_79 ?_
          refine r_dup2 C rfl rfl dX0_takeBlock_80 ?_
          refine r_iald (v := F (2 + 52 * s + 3)) C hd.c3 s (by omega) (by omega) (by omega) rfl dX0_takeBlock_81 ?_
          have b15 := hSm.1 (2 + 52 * s + 3) (by omega)
          refine r_iconst C dX0_takeBlock_82 ?_
          refine r_iadd C dX0_takeBlock_83 ?_
          refine r_iast C hd.c3 hF (is_dvp (by omega)) s (by omega) (by omega) (by omega) dX0_takeBlock_84 (fun H16 locs16 h16 ho16 hz16 hF => ?_)
          have hd : dvAt g d (up F (2 + 52 * s + 3) ((F (2 + 52 * s + 3)) + 1)) H16 := hd.putc 3 s (by decide) h16 ho16
          refine r_iconst C dX0_takeBlock_85 ?_
          exact r_iretH C rfl rfl (congrArg iI (by unfold needR; rw [if_neg (by omega), if_neg (by omega), if_pos (by omega)])) hF (by unfold needF; rw [if_neg (by omega), if_neg (by omega), if_pos (by omega)]; exact hd) dX0_takeBlock_86
      · refine r_aload_n C rfl (lv_at hl 0 rfl) dX0_takeBlock_51 ?_
        refine r_iload_n C rfl (lv_at hl 1 rfl) dX0_takeBlock_52 ?_
        refine r_vHn (rest := []) C (k_X0_recallLoan l g d F M hS (by omega) hZ hg x s (by omega) (by omega) hpg (by omega)) s_RX0_132 hd hF (fun _ h => h) (recv C (ci := 0) rfl hd.o) hl.1 rfl ⟨by decide, by decide⟩ rfl (Nat.le_of_ble_eq_true rfl) ⟨Nat.le_refl 0, Nat.le_refl 0⟩ dX0_takeBlock_53 (fun H17 locs17 h17 ho17 hz17 hF => ?_)
        have hd := h17
        refine r_aload_n C rfl (lv_at hl 0 rfl) dX0_takeBlock_56 ?_
        refine r_get C (ci := 0) (v := .ref (d + 3)) rfl uin0 hd.o 4 (by decide) q_85 rfl rfl dX0_takeBlock_57 ?_
        refine r_iload_n C rfl (lv_at hl 1 rfl) dX0_takeBlock_60 ?_
        refine r_dup2 C rfl rfl dX0_takeBlock_61 ?_
        refine r_iald (v := (recall F s) (2 + 52 * s + 2)) C hd.c2 s (by omega) (by omega) (by omega) rfl dX0_takeBlock_62 ?_
        refine r_iconst C dX0_takeBlock_63 ?_
        refine r_iadd C dX0_takeBlock_64 ?_
        refine r_iast C hd.c2 hF (is_dvp (by omega)) s (by omega) (by omega) (by omega) dX0_takeBlock_65 (fun H18 locs18 h18 ho18 hz18 hF => ?_)
        have hd : dvAt g d (up (recall F s) (2 + 52 * s + 2) (((recall F s) (2 + 52 * s + 2)) + 1)) H18 := hd.putc 2 s (by decide) h18 ho18
        refine r_iconst C dX0_takeBlock_66 ?_
        exact r_iretH C rfl rfl (congrArg iI (by unfold needR; rw [if_neg (by omega), if_pos (by omega), if_neg (by omega)])) hF (by unfold needF; rw [if_neg (by omega), if_pos (by omega), if_neg (by omega)]; exact hd) dX0_takeBlock_67
    · refine r_aload_n C rfl (lv_at hl 0 rfl) dX0_takeBlock_24 ?_
      refine r_get C (ci := 0) (v := .ref (d + 3)) rfl uin0 hd.o 4 (by decide) q_85 rfl rfl dX0_takeBlock_25 ?_
      refine r_iload_n C rfl (lv_at hl 1 rfl) dX0_takeBlock_28 ?_
      refine r_dup2 C rfl rfl dX0_takeBlock_29 ?_
      refine r_iald (v := F (2 + 52 * s + 2)) C hd.c2 s (by omega) (by omega) (by omega) rfl dX0_takeBlock_30 ?_
      have b19 := hSm.1 (2 + 52 * s + 2) (by omega)
      refine r_iconst C dX0_takeBlock_31 ?_
      refine r_iadd C dX0_takeBlock_32 ?_
      refine r_iast C hd.c2 hF (is_dvp (by omega)) s (by omega) (by omega) (by omega) dX0_takeBlock_33 (fun H20 locs20 h20 ho20 hz20 hF => ?_)
      have hd : dvAt g d (up F (2 + 52 * s + 2) ((F (2 + 52 * s + 2)) + 1)) H20 := hd.putc 2 s (by decide) h20 ho20
      refine r_iconst C dX0_takeBlock_34 ?_
      exact r_iretH C rfl rfl (congrArg iI (by unfold needR; rw [if_neg (by omega), if_pos (by omega), if_pos (by omega)])) hF (by unfold needF; rw [if_neg (by omega), if_pos (by omega), if_pos (by omega)]; exact hd) dX0_takeBlock_35
  · refine r_iconst C dX0_takeBlock_14 ?_
    exact r_iretH C rfl rfl (congrArg iI (by unfold needR; rw [if_pos (by omega)])) hF (by unfold needF; rw [if_pos (by omega)]; exact hd) dX0_takeBlock_15
end
section
theorem zz_end : True := trivial
end
