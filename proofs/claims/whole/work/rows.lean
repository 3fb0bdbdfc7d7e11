section
/-- a private method of a class that the tables say can be made, by its rows of tables_1 -/
def lw_okq (q : MethodName × Nat) : Prop := (q.1.cls ≠ "java/lang/invoke/MethodHandle" ∧ q.1.cls ≠ "java/lang/invoke/VarHandle") ∧ Cond.instantiable q.1.cls q.2 ∈ tables_1 ∧ Cond.privateMethod q.1 ∈ tables_1 ∧ Cond.instanceMethod q.1 ∈ tables_1
theorem lw_p0 : lw_okq (⟨"PagedMemory", "pagesLeft", "()I"⟩, 12) := ⟨⟨by decide +kernel, by decide +kernel⟩, List.mem_of_getElem? (i := 21) (by decide +kernel), List.mem_of_getElem? (i := 103) (by decide +kernel), List.mem_of_getElem? (i := 104) (by decide +kernel)⟩
theorem lw_p1 : lw_okq (⟨"PagedMemory", "pagesOf", "(I)I"⟩, 12) := ⟨⟨by decide +kernel, by decide +kernel⟩, List.mem_of_getElem? (i := 21) (by decide +kernel), List.mem_of_getElem? (i := 124) (by decide +kernel), List.mem_of_getElem? (i := 125) (by decide +kernel)⟩
theorem lw_p2 : lw_okq (⟨"java/lang/Throwable", "fillInStackTrace", "(I)Ljava/lang/Throwable;"⟩, 6) := ⟨⟨by decide +kernel, by decide +kernel⟩, List.mem_of_getElem? (i := 191) (by decide +kernel), List.mem_of_getElem? (i := 189) (by decide +kernel), List.mem_of_getElem? (i := 190) (by decide +kernel)⟩
theorem lw_p3 : lw_okq (⟨"PagedMemory", "placeOf", "(LPagedMemory$Layout;IJJI)I"⟩, 12) := ⟨⟨by decide +kernel, by decide +kernel⟩, List.mem_of_getElem? (i := 21) (by decide +kernel), List.mem_of_getElem? (i := 526) (by decide +kernel), List.mem_of_getElem? (i := 527) (by decide +kernel)⟩
theorem lw_p4 : lw_okq (⟨"PagedMemoryModel", "isMemory", "(I)Z"⟩, 37) := ⟨⟨by decide +kernel, by decide +kernel⟩, List.mem_of_getElem? (i := 638) (by decide +kernel), List.mem_of_getElem? (i := 770) (by decide +kernel), List.mem_of_getElem? (i := 771) (by decide +kernel)⟩
theorem lw_p5 : lw_okq (⟨"PagedMemoryModel", "begin", "(Z)Z"⟩, 37) := ⟨⟨by decide +kernel, by decide +kernel⟩, List.mem_of_getElem? (i := 638) (by decide +kernel), List.mem_of_getElem? (i := 785) (by decide +kernel), List.mem_of_getElem? (i := 786) (by decide +kernel)⟩
theorem lw_p6 : lw_okq (⟨"PagedMemoryModel", "all", "(I)J"⟩, 37) := ⟨⟨by decide +kernel, by decide +kernel⟩, List.mem_of_getElem? (i := 638) (by decide +kernel), List.mem_of_getElem? (i := 789) (by decide +kernel), List.mem_of_getElem? (i := 790) (by decide +kernel)⟩
theorem lw_p7 : lw_okq (⟨"PagedMemoryModel", "fits", "(IJJJ)Z"⟩, 37) := ⟨⟨by decide +kernel, by decide +kernel⟩, List.mem_of_getElem? (i := 638) (by decide +kernel), List.mem_of_getElem? (i := 794) (by decide +kernel), List.mem_of_getElem? (i := 795) (by decide +kernel)⟩
theorem lw_p8 : lw_okq (⟨"PagedMemoryModel", "trapped", "()Z"⟩, 37) := ⟨⟨by decide +kernel, by decide +kernel⟩, List.mem_of_getElem? (i := 638) (by decide +kernel), List.mem_of_getElem? (i := 798) (by decide +kernel), List.mem_of_getElem? (i := 799) (by decide +kernel)⟩
theorem lw_p9 : lw_okq (⟨"PagedMemoryModel", "byteAt", "(II)I"⟩, 37) := ⟨⟨by decide +kernel, by decide +kernel⟩, List.mem_of_getElem? (i := 638) (by decide +kernel), List.mem_of_getElem? (i := 802) (by decide +kernel), List.mem_of_getElem? (i := 803) (by decide +kernel)⟩
theorem lw_p10 : lw_okq (⟨"PagedMemoryModel", "write", "(IIJJIJ)V"⟩, 37) := ⟨⟨by decide +kernel, by decide +kernel⟩, List.mem_of_getElem? (i := 638) (by decide +kernel), List.mem_of_getElem? (i := 814) (by decide +kernel), List.mem_of_getElem? (i := 815) (by decide +kernel)⟩
theorem lw_p11 : lw_okq (⟨"PagedMemoryModel", "isTable", "(I)Z"⟩, 37) := ⟨⟨by decide +kernel, by decide +kernel⟩, List.mem_of_getElem? (i := 638) (by decide +kernel), List.mem_of_getElem? (i := 850) (by decide +kernel), List.mem_of_getElem? (i := 851) (by decide +kernel)⟩
theorem lw_p12 : lw_okq (⟨"PagedMemoryModel", "entryAt", "(II)I"⟩, 37) := ⟨⟨by decide +kernel, by decide +kernel⟩, List.mem_of_getElem? (i := 638) (by decide +kernel), List.mem_of_getElem? (i := 854) (by decide +kernel), List.mem_of_getElem? (i := 855) (by decide +kernel)⟩
theorem lw_p13 : lw_okq (⟨"PagedMemoryModel", "change", "(IIJJII)V"⟩, 37) := ⟨⟨by decide +kernel, by decide +kernel⟩, List.mem_of_getElem? (i := 638) (by decide +kernel), List.mem_of_getElem? (i := 862) (by decide +kernel), List.mem_of_getElem? (i := 863) (by decide +kernel)⟩
def lw_privs_1 : List (MethodName × Nat) := [(⟨"PagedMemory", "pagesLeft", "()I"⟩, 12), (⟨"PagedMemory", "pagesOf", "(I)I"⟩, 12), (⟨"java/lang/Throwable", "fillInStackTrace", "(I)Ljava/lang/Throwable;"⟩, 6), (⟨"PagedMemory", "placeOf", "(LPagedMemory$Layout;IJJI)I"⟩, 12), (⟨"PagedMemoryModel", "isMemory", "(I)Z"⟩, 37), (⟨"PagedMemoryModel", "begin", "(Z)Z"⟩, 37), (⟨"PagedMemoryModel", "all", "(I)J"⟩, 37), (⟨"PagedMemoryModel", "fits", "(IJJJ)Z"⟩, 37), (⟨"PagedMemoryModel", "trapped", "()Z"⟩, 37), (⟨"PagedMemoryModel", "byteAt", "(II)I"⟩, 37), (⟨"PagedMemoryModel", "write", "(IIJJIJ)V"⟩, 37), (⟨"PagedMemoryModel", "isTable", "(I)Z"⟩, 37), (⟨"PagedMemoryModel", "entryAt", "(II)I"⟩, 37), (⟨"PagedMemoryModel", "change", "(IIJJII)V"⟩, 37)]
theorem lw_r1 : ∀ q ∈ lw_privs_1, lw_okq q := List.forall_mem_cons.mpr ⟨lw_p0, List.forall_mem_cons.mpr ⟨lw_p1, List.forall_mem_cons.mpr ⟨lw_p2, List.forall_mem_cons.mpr ⟨lw_p3, List.forall_mem_cons.mpr ⟨lw_p4, List.forall_mem_cons.mpr ⟨lw_p5, List.forall_mem_cons.mpr ⟨lw_p6, List.forall_mem_cons.mpr ⟨lw_p7, List.forall_mem_cons.mpr ⟨lw_p8, List.forall_mem_cons.mpr ⟨lw_p9, List.forall_mem_cons.mpr ⟨lw_p10, List.forall_mem_cons.mpr ⟨lw_p11, List.forall_mem_cons.mpr ⟨lw_p12, List.forall_mem_cons.mpr ⟨lw_p13, fun _ h => absurd h List.not_mem_nil⟩⟩⟩⟩⟩⟩⟩⟩⟩⟩⟩⟩⟩⟩
def lw_privs : List (MethodName × Nat) := lw_privs_1
def lw_tbl : List Cond := k2_sels lw_privs ++ tables_1
theorem lw_privs_ok : ∀ q ∈ lw_privs, lw_okq q := lw_r1
end
section
def R_Ly : String := "PagedMemory$Layout"
def R_Pm : String := "PagedMemory"
def R_Md : String := "PagedMemoryModel"
def R_Lw : String := "PagedMemoryLaw"
def R_Ar : String := "java/util/Arrays"
def T_Ly : u_T := fun k => match k with
  | 0 => ("PagedMemory$Layout", "room", "I", true)
  | 1 => ("PagedMemory$Layout", "starts", "[I", true)
  | 2 => ("PagedMemory$Layout", "lengths", "[I", true)
  | 3 => ("PagedMemory$Layout", "givenUp", "[Z", true)
  | 4 => ("PagedMemory$Layout", "count", "I", false)
  | _ => ("PagedMemory$Layout", "used", "I", false)
def ty_Ly : Nat → FieldType := fun k => match k with
  | 0 => .int
  | 1 => .array .int
  | 2 => .array .int
  | 3 => .array .boolean
  | 4 => .int
  | _ => .int
theorem nm_Ly : ∀ a, a < 6 → ∀ b, b < 6 → a ≠ b → (T_Ly a).2.1 ≠ (T_Ly b).2.1 := by decide +kernel
theorem tk_Ly : ∀ k, k < 6 → parseFieldDescriptor (T_Ly k).2.2.1 = some (ty_Ly k) := by decide +kernel
def T_Pm : u_T := fun k => match k with
  | 0 => ("PagedMemory", "memories", "LPagedMemory$Layout;", true)
  | 1 => ("PagedMemory", "memoryLimits", "[I", true)
  | 2 => ("PagedMemory", "memoryBytes", "[B", true)
  | 3 => ("PagedMemory", "tables", "LPagedMemory$Layout;", true)
  | 4 => ("PagedMemory", "tableLimits", "[I", true)
  | 5 => ("PagedMemory", "tableTypes", "[I", true)
  | 6 => ("PagedMemory", "tableEntries", "[I", true)
  | 7 => ("PagedMemory", "byteSegments", "LPagedMemory$Layout;", true)
  | 8 => ("PagedMemory", "segmentBytes", "[B", true)
  | 9 => ("PagedMemory", "referenceSegments", "LPagedMemory$Layout;", true)
  | 10 => ("PagedMemory", "segmentReferences", "[I", true)
  | _ => ("PagedMemory", "latestTrap", "I", false)
def ty_Pm : Nat → FieldType := fun k => match k with
  | 0 => .object "PagedMemory$Layout"
  | 1 => .array .int
  | 2 => .array .byte
  | 3 => .object "PagedMemory$Layout"
  | 4 => .array .int
  | 5 => .array .int
  | 6 => .array .int
  | 7 => .object "PagedMemory$Layout"
  | 8 => .array .byte
  | 9 => .object "PagedMemory$Layout"
  | 10 => .array .int
  | _ => .int
theorem nm_Pm : ∀ a, a < 12 → ∀ b, b < 12 → a ≠ b → (T_Pm a).2.1 ≠ (T_Pm b).2.1 := by decide +kernel
theorem tk_Pm : ∀ k, k < 12 → parseFieldDescriptor (T_Pm k).2.2.1 = some (ty_Pm k) := by decide +kernel
def T_Md : u_T := fun k => match k with
  | 0 => ("PagedMemoryModel", "thrown", "I", false)
  | 1 => ("PagedMemoryModel", "trap", "I", false)
  | 2 => ("PagedMemoryModel", "memories", "I", false)
  | 3 => ("PagedMemoryModel", "tables", "I", false)
  | 4 => ("PagedMemoryModel", "pagesLeft", "I", false)
  | 5 => ("PagedMemoryModel", "entriesLeft", "I", false)
  | 6 => ("PagedMemoryModel", "pages", "[I", true)
  | 7 => ("PagedMemoryModel", "limits", "[I", true)
  | 8 => ("PagedMemoryModel", "types", "[I", true)
  | 9 => ("PagedMemoryModel", "entries", "[I", true)
  | 10 => ("PagedMemoryModel", "tableLimits", "[I", true)
  | 11 => ("PagedMemoryModel", "segments", "I", false)
  | 12 => ("PagedMemoryModel", "used", "I", false)
  | 13 => ("PagedMemoryModel", "rows", "I", false)
  | 14 => ("PagedMemoryModel", "usedRows", "I", false)
  | 15 => ("PagedMemoryModel", "starts", "[I", true)
  | 16 => ("PagedMemoryModel", "many", "[I", true)
  | 17 => ("PagedMemoryModel", "dropped", "[Z", true)
  | 18 => ("PagedMemoryModel", "held", "[I", true)
  | 19 => ("PagedMemoryModel", "rowStarts", "[I", true)
  | 20 => ("PagedMemoryModel", "rowMany", "[I", true)
  | 21 => ("PagedMemoryModel", "rowDropped", "[Z", true)
  | 22 => ("PagedMemoryModel", "heldRows", "[I", true)
  | 23 => ("PagedMemoryModel", "writings", "I", false)
  | 24 => ("PagedMemoryModel", "changes", "I", false)
  | 25 => ("PagedMemoryModel", "kind", "[I", true)
  | 26 => ("PagedMemoryModel", "into", "[I", true)
  | 27 => ("PagedMemoryModel", "place", "[I", true)
  | 28 => ("PagedMemoryModel", "length", "[I", true)
  | 29 => ("PagedMemoryModel", "source", "[I", true)
  | 30 => ("PagedMemoryModel", "value", "[J", true)
  | 31 => ("PagedMemoryModel", "changeKind", "[I", true)
  | 32 => ("PagedMemoryModel", "changeInto", "[I", true)
  | 33 => ("PagedMemoryModel", "changePlace", "[I", true)
  | 34 => ("PagedMemoryModel", "changeLength", "[I", true)
  | 35 => ("PagedMemoryModel", "changeSource", "[I", true)
  | _ => ("PagedMemoryModel", "changeValue", "[I", true)
def ty_Md : Nat → FieldType := fun k => match k with
  | 0 => .int
  | 1 => .int
  | 2 => .int
  | 3 => .int
  | 4 => .int
  | 5 => .int
  | 6 => .array .int
  | 7 => .array .int
  | 8 => .array .int
  | 9 => .array .int
  | 10 => .array .int
  | 11 => .int
  | 12 => .int
  | 13 => .int
  | 14 => .int
  | 15 => .array .int
  | 16 => .array .int
  | 17 => .array .boolean
  | 18 => .array .int
  | 19 => .array .int
  | 20 => .array .int
  | 21 => .array .boolean
  | 22 => .array .int
  | 23 => .int
  | 24 => .int
  | 25 => .array .int
  | 26 => .array .int
  | 27 => .array .int
  | 28 => .array .int
  | 29 => .array .int
  | 30 => .array .long
  | 31 => .array .int
  | 32 => .array .int
  | 33 => .array .int
  | 34 => .array .int
  | 35 => .array .int
  | _ => .array .int
theorem nm_Md : ∀ a, a < 37 → ∀ b, b < 37 → a ≠ b → (T_Md a).2.1 ≠ (T_Md b).2.1 := by decide +kernel
theorem tk_Md : ∀ k, k < 37 → parseFieldDescriptor (T_Md k).2.2.1 = some (ty_Md k) := by decide +kernel
abbrev vwC : List vw_C := [(R_Ly, T_Ly, 6), (R_Pm, T_Pm, 12), (R_Md, T_Md, 37)]
abbrev b_Pm_new : ByteArray := prog_1_method_1_code
def y_Pm_new : MethodName := ⟨R_Pm, "<init>", "()V"⟩
abbrev b_Ly_new : ByteArray := prog_2_method_1_code
def y_Ly_new : MethodName := ⟨R_Ly, "<init>", "(II)V"⟩
abbrev b_Pm_memory : ByteArray := prog_1_method_2_code
def y_Pm_memory : MethodName := ⟨R_Pm, "memory", "(II)I"⟩
abbrev b_Ly_isFull : ByteArray := prog_2_method_3_code
def y_Ly_isFull : MethodName := ⟨R_Ly, "isFull", "()Z"⟩
abbrev b_Pm_pagesLeft : ByteArray := prog_1_method_22_code
def y_Pm_pagesLeft : MethodName := ⟨R_Pm, "pagesLeft", "()I"⟩
abbrev b_Ly_left : ByteArray := prog_2_method_6_code
def y_Ly_left : MethodName := ⟨R_Ly, "left", "()I"⟩
abbrev b_Ly_append : ByteArray := prog_2_method_10_code
def y_Ly_append : MethodName := ⟨R_Ly, "append", "(I)I"⟩
abbrev b_Pm_grow : ByteArray := prog_1_method_3_code
def y_Pm_grow : MethodName := ⟨R_Pm, "grow", "(II)I"⟩
abbrev b_Ly_has : ByteArray := prog_2_method_2_code
def y_Ly_has : MethodName := ⟨R_Ly, "has", "(I)Z"⟩
abbrev b_Pm_pagesOf : ByteArray := prog_1_method_21_code
def y_Pm_pagesOf : MethodName := ⟨R_Pm, "pagesOf", "(I)I"⟩
abbrev b_Ly_lengthOf : ByteArray := prog_2_method_8_code
def y_Ly_lengthOf : MethodName := ⟨R_Ly, "lengthOf", "(I)I"⟩
abbrev b_Pm_unsigned : ByteArray := prog_1_method_25_code
def y_Pm_unsigned : MethodName := ⟨R_Pm, "unsigned", "(I)J"⟩
abbrev b_Ly_endOf : ByteArray := prog_2_method_9_code
def y_Ly_endOf : MethodName := ⟨R_Ly, "endOf", "(I)I"⟩
abbrev b_Ly_used : ByteArray := prog_2_method_5_code
def y_Ly_used : MethodName := ⟨R_Ly, "used", "()I"⟩
abbrev b_Ar_fillB : ByteArray := prog_19_method_110_code
def y_Ar_fillB : MethodName := ⟨R_Ar, "fill", "([BIIB)V"⟩
abbrev b_Ar_rangeCheck : ByteArray := prog_19_method_30_code
def y_Ar_rangeCheck : MethodName := ⟨R_Ar, "rangeCheck", "(III)V"⟩
abbrev b_Ar_copyOf : ByteArray := prog_19_method_121_code
def y_Ar_copyOf : MethodName := ⟨R_Ar, "copyOf", "([BI)[B"⟩
abbrev b_Ar_copyOfRange : ByteArray := prog_19_method_132_code
def y_Ar_copyOfRange : MethodName := ⟨R_Ar, "copyOfRange", "([BII)[B"⟩
abbrev b_Ar_copyOfRangeByte : ByteArray := prog_19_method_133_code
def y_Ar_copyOfRangeByte : MethodName := ⟨R_Ar, "copyOfRangeByte", "([BII)[B"⟩
abbrev b_Ar_checkLength : ByteArray := prog_19_method_131_code
def y_Ar_checkLength : MethodName := ⟨R_Ar, "checkLength", "(II)V"⟩
abbrev b_Ly_widen : ByteArray := prog_2_method_11_code
def y_Ly_widen : MethodName := ⟨R_Ly, "widen", "(II)V"⟩
abbrev b_Pm_data : ByteArray := prog_1_method_9_code
def y_Pm_data : MethodName := ⟨R_Pm, "data", "(JIZ)I"⟩
abbrev b_Ly_canTake : ByteArray := prog_2_method_12_code
def y_Ly_canTake : MethodName := ⟨R_Ly, "canTake", "(IZ)Z"⟩
abbrev b_Pm_putLowestBytes : ByteArray := prog_1_method_28_code
def y_Pm_putLowestBytes : MethodName := ⟨R_Pm, "putLowestBytes", "(JI[BI)V"⟩
abbrev b_Ly_take : ByteArray := prog_2_method_13_code
def y_Ly_take : MethodName := ⟨R_Ly, "take", "(IZ)I"⟩
abbrev b_Pm_table : ByteArray := prog_1_method_11_code
def y_Pm_table : MethodName := ⟨R_Pm, "table", "(III)I"⟩
abbrev b_Ar_fillI : ByteArray := prog_19_method_104_code
def y_Ar_fillI : MethodName := ⟨R_Ar, "fill", "([IIII)V"⟩
abbrev b_Pm_growTable : ByteArray := prog_1_method_14_code
def y_Pm_growTable : MethodName := ⟨R_Pm, "growTable", "(III)I"⟩
abbrev b_Pm_isReference : ByteArray := prog_1_method_24_code
def y_Pm_isReference : MethodName := ⟨R_Pm, "isReference", "(I)Z"⟩
abbrev b_Pm_element : ByteArray := prog_1_method_18_code
def y_Pm_element : MethodName := ⟨R_Pm, "element", "(IZ)I"⟩
abbrev b_Pm_trap : ByteArray := prog_1_method_19_code
def y_Pm_trap : MethodName := ⟨R_Pm, "trap", "()I"⟩
abbrev b_Pm_size : ByteArray := prog_1_method_20_code
def y_Pm_size : MethodName := ⟨R_Pm, "size", "(II)I"⟩
abbrev b_Ly_count : ByteArray := prog_2_method_4_code
def y_Ly_count : MethodName := ⟨R_Ly, "count", "()I"⟩
abbrev b_Lw_load : ByteArray := method_3_code
def y_Lw_load : MethodName := ⟨R_Lw, "load", "(LPagedMemory;IIII[J)I"⟩
abbrev b_Pm_load : ByteArray := prog_1_method_4_code
def y_Pm_load : MethodName := ⟨R_Pm, "load", "(IIII)J"⟩
abbrev b_Pm_widthOf : ByteArray := prog_1_method_26_code
def y_Pm_widthOf : MethodName := ⟨R_Pm, "widthOf", "(II[I)I"⟩
abbrev b_Pm_placeOf : ByteArray := prog_1_method_23_code
def y_Pm_placeOf : MethodName := ⟨R_Pm, "placeOf", "(LPagedMemory$Layout;IJJI)I"⟩
abbrev b_Ly_startOf : ByteArray := prog_2_method_7_code
def y_Ly_startOf : MethodName := ⟨R_Ly, "startOf", "(I)I"⟩
abbrev b_Pm_extended : ByteArray := prog_1_method_27_code
def y_Pm_extended : MethodName := ⟨R_Pm, "extended", "(IJ)J"⟩
abbrev b_Lw_store : ByteArray := method_4_code
def y_Lw_store : MethodName := ⟨R_Lw, "store", "(LPagedMemory;IIIIJ)I"⟩
abbrev b_Pm_store : ByteArray := prog_1_method_5_code
def y_Pm_store : MethodName := ⟨R_Pm, "store", "(IIIIJ)V"⟩
abbrev b_Lw_fill : ByteArray := method_5_code
def y_Lw_fill : MethodName := ⟨R_Lw, "fill", "(LPagedMemory;IIII)I"⟩
abbrev b_Pm_fill : ByteArray := prog_1_method_6_code
def y_Pm_fill : MethodName := ⟨R_Pm, "fill", "(IIII)V"⟩
abbrev b_Lw_copy : ByteArray := method_6_code
def y_Lw_copy : MethodName := ⟨R_Lw, "copy", "(LPagedMemory;IIII)I"⟩
abbrev b_Pm_copy : ByteArray := prog_1_method_7_code
def y_Pm_copy : MethodName := ⟨R_Pm, "copy", "(IIII)V"⟩
abbrev b_Lw_init : ByteArray := method_7_code
def y_Lw_init : MethodName := ⟨R_Lw, "init", "(LPagedMemory;IIIII)I"⟩
abbrev b_Pm_init : ByteArray := prog_1_method_8_code
def y_Pm_init : MethodName := ⟨R_Pm, "init", "(IIIII)V"⟩
abbrev b_Lw_drop : ByteArray := method_8_code
def y_Lw_drop : MethodName := ⟨R_Lw, "drop", "(LPagedMemory;IZ)I"⟩
abbrev b_Pm_drop : ByteArray := prog_1_method_10_code
def y_Pm_drop : MethodName := ⟨R_Pm, "drop", "(IZ)V"⟩
abbrev b_Ly_giveUp : ByteArray := prog_2_method_14_code
def y_Ly_giveUp : MethodName := ⟨R_Ly, "giveUp", "(I)V"⟩
abbrev b_Lw_get : ByteArray := method_9_code
def y_Lw_get : MethodName := ⟨R_Lw, "get", "(LPagedMemory;II[J)I"⟩
abbrev b_Pm_get : ByteArray := prog_1_method_12_code
def y_Pm_get : MethodName := ⟨R_Pm, "get", "(II)I"⟩
abbrev b_Lw_set : ByteArray := method_10_code
def y_Lw_set : MethodName := ⟨R_Lw, "set", "(LPagedMemory;III)I"⟩
abbrev b_Pm_set : ByteArray := prog_1_method_13_code
def y_Pm_set : MethodName := ⟨R_Pm, "set", "(III)V"⟩
abbrev b_Lw_fillTable : ByteArray := method_11_code
def y_Lw_fillTable : MethodName := ⟨R_Lw, "fillTable", "(LPagedMemory;IIII)I"⟩
abbrev b_Pm_fillTable : ByteArray := prog_1_method_15_code
def y_Pm_fillTable : MethodName := ⟨R_Pm, "fillTable", "(IIII)V"⟩
abbrev b_Lw_copyTable : ByteArray := method_12_code
def y_Lw_copyTable : MethodName := ⟨R_Lw, "copyTable", "(LPagedMemory;IIIII)I"⟩
abbrev b_Pm_copyTable : ByteArray := prog_1_method_16_code
def y_Pm_copyTable : MethodName := ⟨R_Pm, "copyTable", "(IIIII)V"⟩
abbrev b_Lw_initTable : ByteArray := method_13_code
def y_Lw_initTable : MethodName := ⟨R_Lw, "initTable", "(LPagedMemory;IIIII)I"⟩
abbrev b_Pm_initTable : ByteArray := prog_1_method_17_code
def y_Pm_initTable : MethodName := ⟨R_Pm, "initTable", "(IIIII)V"⟩
abbrev b_Md_new : ByteArray := prog_4_method_1_code
def y_Md_new : MethodName := ⟨R_Md, "<init>", "()V"⟩
abbrev b_Md_thrown : ByteArray := prog_4_method_2_code
def y_Md_thrown : MethodName := ⟨R_Md, "thrown", "()I"⟩
abbrev b_Md_memory : ByteArray := prog_4_method_12_code
def y_Md_memory : MethodName := ⟨R_Md, "memory", "(II)I"⟩
abbrev b_Md_grow : ByteArray := prog_4_method_13_code
def y_Md_grow : MethodName := ⟨R_Md, "grow", "(II)I"⟩
abbrev b_Md_isMemory : ByteArray := prog_4_method_4_code
def y_Md_isMemory : MethodName := ⟨R_Md, "isMemory", "(I)Z"⟩
abbrev b_Md_wide : ByteArray := prog_4_method_3_code
def y_Md_wide : MethodName := ⟨R_Md, "wide", "(I)J"⟩
abbrev b_Md_load : ByteArray := prog_4_method_18_code
def y_Md_load : MethodName := ⟨R_Md, "load", "(IIII)J"⟩
abbrev b_Md_loads : ByteArray := prog_4_method_14_code
def y_Md_loads : MethodName := ⟨R_Md, "loads", "(I)I"⟩
abbrev b_Md_begin : ByteArray := prog_4_method_16_code
def y_Md_begin : MethodName := ⟨R_Md, "begin", "(Z)Z"⟩
abbrev b_Md_all : ByteArray := prog_4_method_7_code
def y_Md_all : MethodName := ⟨R_Md, "all", "(I)J"⟩
abbrev b_Md_fits : ByteArray := prog_4_method_6_code
def y_Md_fits : MethodName := ⟨R_Md, "fits", "(IJJJ)Z"⟩
abbrev b_Md_trapped : ByteArray := prog_4_method_17_code
def y_Md_trapped : MethodName := ⟨R_Md, "trapped", "()Z"⟩
abbrev b_Md_byteAt : ByteArray := prog_4_method_10_code
def y_Md_byteAt : MethodName := ⟨R_Md, "byteAt", "(II)I"⟩
abbrev b_Md_store : ByteArray := prog_4_method_19_code
def y_Md_store : MethodName := ⟨R_Md, "store", "(IIIIJ)V"⟩
abbrev b_Md_stores : ByteArray := prog_4_method_15_code
def y_Md_stores : MethodName := ⟨R_Md, "stores", "(I)I"⟩
abbrev b_Md_write : ByteArray := prog_4_method_8_code
def y_Md_write : MethodName := ⟨R_Md, "write", "(IIJJIJ)V"⟩
abbrev b_Md_fill : ByteArray := prog_4_method_20_code
def y_Md_fill : MethodName := ⟨R_Md, "fill", "(IIII)V"⟩
abbrev b_Md_copy : ByteArray := prog_4_method_21_code
def y_Md_copy : MethodName := ⟨R_Md, "copy", "(IIII)V"⟩
abbrev b_Md_init : ByteArray := prog_4_method_22_code
def y_Md_init : MethodName := ⟨R_Md, "init", "(IIIII)V"⟩
abbrev b_Md_data : ByteArray := prog_4_method_23_code
def y_Md_data : MethodName := ⟨R_Md, "data", "(JIZ)I"⟩
abbrev b_Md_element : ByteArray := prog_4_method_24_code
def y_Md_element : MethodName := ⟨R_Md, "element", "(IZ)I"⟩
abbrev b_Md_drop : ByteArray := prog_4_method_25_code
def y_Md_drop : MethodName := ⟨R_Md, "drop", "(IZ)V"⟩
abbrev b_Md_table : ByteArray := prog_4_method_26_code
def y_Md_table : MethodName := ⟨R_Md, "table", "(III)I"⟩
abbrev b_Md_get : ByteArray := prog_4_method_27_code
def y_Md_get : MethodName := ⟨R_Md, "get", "(II)I"⟩
abbrev b_Md_isTable : ByteArray := prog_4_method_5_code
def y_Md_isTable : MethodName := ⟨R_Md, "isTable", "(I)Z"⟩
abbrev b_Md_entryAt : ByteArray := prog_4_method_11_code
def y_Md_entryAt : MethodName := ⟨R_Md, "entryAt", "(II)I"⟩
abbrev b_Md_set : ByteArray := prog_4_method_28_code
def y_Md_set : MethodName := ⟨R_Md, "set", "(III)V"⟩
abbrev b_Md_change : ByteArray := prog_4_method_9_code
def y_Md_change : MethodName := ⟨R_Md, "change", "(IIJJII)V"⟩
abbrev b_Md_growTable : ByteArray := prog_4_method_29_code
def y_Md_growTable : MethodName := ⟨R_Md, "growTable", "(III)I"⟩
abbrev b_Md_fillTable : ByteArray := prog_4_method_30_code
def y_Md_fillTable : MethodName := ⟨R_Md, "fillTable", "(IIII)V"⟩
abbrev b_Md_copyTable : ByteArray := prog_4_method_31_code
def y_Md_copyTable : MethodName := ⟨R_Md, "copyTable", "(IIIII)V"⟩
abbrev b_Md_initTable : ByteArray := prog_4_method_32_code
def y_Md_initTable : MethodName := ⟨R_Md, "initTable", "(IIIII)V"⟩
abbrev b_Md_trap : ByteArray := prog_4_method_33_code
def y_Md_trap : MethodName := ⟨R_Md, "trap", "()I"⟩
abbrev b_Md_size : ByteArray := prog_4_method_34_code
def y_Md_size : MethodName := ⟨R_Md, "size", "(II)I"⟩
def bw : List Cond := lw_tbl.filter goodWord
theorem bw_of {w : Cond} (i : Nat) (h : lw_tbl[i]? = some w) (g : goodWord w = true) : w ∈ bw := List.mem_filter.mpr ⟨List.mem_of_getElem? h, g⟩
theorem bw_good : ∀ w ∈ bw, goodWord w = true := fun _ h => (List.mem_filter.mp h).2
theorem in_Ly : ∀ w ∈ u_ws R_Ly T_Ly 6, w ∈ bw := fun w h => List.mem_filter.mpr ((by decide +kernel : ∀ w ∈ u_ws R_Ly T_Ly 6, w ∈ lw_tbl ∧ goodWord w = true) w h)
theorem in_Pm : ∀ w ∈ u_ws R_Pm T_Pm 12, w ∈ bw := fun w h => List.mem_filter.mpr ((by decide +kernel : ∀ w ∈ u_ws R_Pm T_Pm 12, w ∈ lw_tbl ∧ goodWord w = true) w h)
theorem in_Md : ∀ w ∈ u_ws R_Md T_Md 37, w ∈ bw := fun w h => List.mem_filter.mpr ((by decide +kernel : ∀ w ∈ u_ws R_Md T_Md 37, w ∈ lw_tbl ∧ goodWord w = true) w h)
theorem ini_Lw : Cond.initialized R_Lw ∈ bw := bw_of 14 (by decide +kernel) (by decide +kernel)
theorem ini_Pm : Cond.initialized R_Pm ∈ bw := bw_of 15 (by decide +kernel) (by decide +kernel)
theorem ini_Ly : Cond.initialized R_Ly ∈ bw := bw_of 16 (by decide +kernel) (by decide +kernel)
theorem ini_Md : Cond.initialized R_Md ∈ bw := bw_of 17 (by decide +kernel) (by decide +kernel)
theorem ini_System : Cond.initialized "java/lang/System" ∈ bw := bw_of 18 (by decide +kernel) (by decide +kernel)
theorem ini_Ar : Cond.initialized R_Ar ∈ bw := bw_of 19 (by decide +kernel) (by decide +kernel)
theorem cl_Lw_8 : Cond.classLink R_Lw 8 R_Pm ∈ bw := bw_of 34 (by decide +kernel) (by decide +kernel)
theorem inst_Pm : Cond.instantiable R_Pm 12 ∈ bw := bw_of 35 (by decide +kernel) (by decide +kernel)
theorem ml_Lw_53 : Cond.methodLink R_Lw 53 y_Pm_new ∈ bw := bw_of 36 (by decide +kernel) (by decide +kernel)
theorem im_Pm_new : Cond.instanceMethod y_Pm_new ∈ bw := bw_of 37 (by decide +kernel) (by decide +kernel)
theorem co_Pm_new : Cond.code y_Pm_new b_Pm_new 1 none ∈ bw := bw_of 38 (by decide +kernel) (by decide +kernel)
theorem ml_Pm_1 : Cond.methodLink R_Pm 1 objectInit ∈ bw := bw_of 39 (by decide +kernel) (by decide +kernel)
theorem im_objectInit : Cond.instanceMethod objectInit ∈ bw := bw_of 40 (by decide +kernel) (by decide +kernel)
theorem co_objectInit : Cond.code objectInit ⟨#[0xb1]⟩ 1 none ∈ bw := bw_of 41 (by decide +kernel) (by decide +kernel)
theorem cl_Pm_7 : Cond.classLink R_Pm 7 R_Ly ∈ bw := bw_of 42 (by decide +kernel) (by decide +kernel)
theorem inst_Ly : Cond.instantiable R_Ly 6 ∈ bw := bw_of 43 (by decide +kernel) (by decide +kernel)
theorem ml_Pm_11 : Cond.methodLink R_Pm 11 y_Ly_new ∈ bw := bw_of 44 (by decide +kernel) (by decide +kernel)
theorem im_Ly_new : Cond.instanceMethod y_Ly_new ∈ bw := bw_of 45 (by decide +kernel) (by decide +kernel)
theorem co_Ly_new : Cond.code y_Ly_new b_Ly_new 3 none ∈ bw := bw_of 46 (by decide +kernel) (by decide +kernel)
theorem ml_Ly_3 : Cond.methodLink R_Ly 3 objectInit ∈ bw := bw_of 47 (by decide +kernel) (by decide +kernel)
theorem fl_Ly_9 : Cond.fieldLink R_Ly 9 "PagedMemory$Layout" "room" "I" ∈ bw := bw_of 48 (by decide +kernel) (by decide +kernel)
theorem fl_Ly_15 : Cond.fieldLink R_Ly 15 "PagedMemory$Layout" "starts" "[I" ∈ bw := bw_of 49 (by decide +kernel) (by decide +kernel)
theorem fl_Ly_19 : Cond.fieldLink R_Ly 19 "PagedMemory$Layout" "lengths" "[I" ∈ bw := bw_of 50 (by decide +kernel) (by decide +kernel)
theorem fl_Ly_22 : Cond.fieldLink R_Ly 22 "PagedMemory$Layout" "givenUp" "[Z" ∈ bw := bw_of 51 (by decide +kernel) (by decide +kernel)
theorem fl_Ly_26 : Cond.fieldLink R_Ly 26 "PagedMemory$Layout" "count" "I" ∈ bw := bw_of 52 (by decide +kernel) (by decide +kernel)
theorem fl_Ly_29 : Cond.fieldLink R_Ly 29 "PagedMemory$Layout" "used" "I" ∈ bw := bw_of 53 (by decide +kernel) (by decide +kernel)
theorem ac_int : Cond.arrayClass .int ∈ bw := bw_of 67 (by decide +kernel) (by decide +kernel)
theorem ac_boolean : Cond.arrayClass .boolean ∈ bw := bw_of 68 (by decide +kernel) (by decide +kernel)
theorem fl_Pm_14 : Cond.fieldLink R_Pm 14 "PagedMemory" "memories" "LPagedMemory$Layout;" ∈ bw := bw_of 69 (by decide +kernel) (by decide +kernel)
theorem fl_Pm_18 : Cond.fieldLink R_Pm 18 "PagedMemory" "memoryLimits" "[I" ∈ bw := bw_of 70 (by decide +kernel) (by decide +kernel)
theorem fl_Pm_22 : Cond.fieldLink R_Pm 22 "PagedMemory" "memoryBytes" "[B" ∈ bw := bw_of 71 (by decide +kernel) (by decide +kernel)
theorem fl_Pm_26 : Cond.fieldLink R_Pm 26 "PagedMemory" "tables" "LPagedMemory$Layout;" ∈ bw := bw_of 72 (by decide +kernel) (by decide +kernel)
theorem fl_Pm_29 : Cond.fieldLink R_Pm 29 "PagedMemory" "tableLimits" "[I" ∈ bw := bw_of 73 (by decide +kernel) (by decide +kernel)
theorem fl_Pm_32 : Cond.fieldLink R_Pm 32 "PagedMemory" "tableTypes" "[I" ∈ bw := bw_of 74 (by decide +kernel) (by decide +kernel)
theorem fl_Pm_35 : Cond.fieldLink R_Pm 35 "PagedMemory" "tableEntries" "[I" ∈ bw := bw_of 75 (by decide +kernel) (by decide +kernel)
theorem fl_Pm_38 : Cond.fieldLink R_Pm 38 "PagedMemory" "byteSegments" "LPagedMemory$Layout;" ∈ bw := bw_of 76 (by decide +kernel) (by decide +kernel)
theorem fl_Pm_41 : Cond.fieldLink R_Pm 41 "PagedMemory" "segmentBytes" "[B" ∈ bw := bw_of 77 (by decide +kernel) (by decide +kernel)
theorem fl_Pm_44 : Cond.fieldLink R_Pm 44 "PagedMemory" "referenceSegments" "LPagedMemory$Layout;" ∈ bw := bw_of 78 (by decide +kernel) (by decide +kernel)
theorem fl_Pm_47 : Cond.fieldLink R_Pm 47 "PagedMemory" "segmentReferences" "[I" ∈ bw := bw_of 79 (by decide +kernel) (by decide +kernel)
theorem fl_Pm_50 : Cond.fieldLink R_Pm 50 "PagedMemory" "latestTrap" "I" ∈ bw := bw_of 80 (by decide +kernel) (by decide +kernel)
theorem ac_byte : Cond.arrayClass .byte ∈ bw := bw_of 106 (by decide +kernel) (by decide +kernel)
theorem ml_Lw_57 : Cond.methodLink R_Lw 57 y_Pm_memory ∈ bw := bw_of 107 (by decide +kernel) (by decide +kernel)
theorem im_Pm_memory : Cond.instanceMethod y_Pm_memory ∈ bw := bw_of 108 (by decide +kernel) (by decide +kernel)
theorem se_Pm_memory : Cond.selects R_Pm y_Pm_memory y_Pm_memory ∈ bw := bw_of 109 (by decide +kernel) (by decide +kernel)
theorem co_Pm_memory : Cond.code y_Pm_memory b_Pm_memory 4 (some .int) ∈ bw := bw_of 110 (by decide +kernel) (by decide +kernel)
theorem ml_Pm_54 : Cond.methodLink R_Pm 54 y_Ly_isFull ∈ bw := bw_of 111 (by decide +kernel) (by decide +kernel)
theorem im_Ly_isFull : Cond.instanceMethod y_Ly_isFull ∈ bw := bw_of 112 (by decide +kernel) (by decide +kernel)
theorem se_Ly_isFull : Cond.selects R_Ly y_Ly_isFull y_Ly_isFull ∈ bw := bw_of 113 (by decide +kernel) (by decide +kernel)
theorem co_Ly_isFull : Cond.code y_Ly_isFull b_Ly_isFull 1 (some .boolean) ∈ bw := bw_of 114 (by decide +kernel) (by decide +kernel)
theorem k_Pm_58 : Cond.constant R_Pm 58 65536 ∈ bw := bw_of 115 (by decide +kernel) (by decide +kernel)
theorem ml_Pm_59 : Cond.methodLink R_Pm 59 y_Pm_pagesLeft ∈ bw := bw_of 116 (by decide +kernel) (by decide +kernel)
theorem im_Pm_pagesLeft : Cond.instanceMethod y_Pm_pagesLeft ∈ bw := bw_of 118 (by decide +kernel) (by decide +kernel)
theorem co_Pm_pagesLeft : Cond.code y_Pm_pagesLeft b_Pm_pagesLeft 1 (some .int) ∈ bw := bw_of 119 (by decide +kernel) (by decide +kernel)
theorem ml_Pm_150 : Cond.methodLink R_Pm 150 y_Ly_left ∈ bw := bw_of 120 (by decide +kernel) (by decide +kernel)
theorem im_Ly_left : Cond.instanceMethod y_Ly_left ∈ bw := bw_of 121 (by decide +kernel) (by decide +kernel)
theorem se_Ly_left : Cond.selects R_Ly y_Ly_left y_Ly_left ∈ bw := bw_of 122 (by decide +kernel) (by decide +kernel)
theorem co_Ly_left : Cond.code y_Ly_left b_Ly_left 1 (some .int) ∈ bw := bw_of 123 (by decide +kernel) (by decide +kernel)
theorem ml_Pm_63 : Cond.methodLink R_Pm 63 y_Ly_append ∈ bw := bw_of 124 (by decide +kernel) (by decide +kernel)
theorem im_Ly_append : Cond.instanceMethod y_Ly_append ∈ bw := bw_of 125 (by decide +kernel) (by decide +kernel)
theorem se_Ly_append : Cond.selects R_Ly y_Ly_append y_Ly_append ∈ bw := bw_of 126 (by decide +kernel) (by decide +kernel)
theorem co_Ly_append : Cond.code y_Ly_append b_Ly_append 2 (some .int) ∈ bw := bw_of 127 (by decide +kernel) (by decide +kernel)
theorem ml_Ly_36 : Cond.methodLink R_Ly 36 y_Ly_isFull ∈ bw := bw_of 128 (by decide +kernel) (by decide +kernel)
theorem ml_Lw_61 : Cond.methodLink R_Lw 61 y_Pm_grow ∈ bw := bw_of 129 (by decide +kernel) (by decide +kernel)
theorem im_Pm_grow : Cond.instanceMethod y_Pm_grow ∈ bw := bw_of 130 (by decide +kernel) (by decide +kernel)
theorem se_Pm_grow : Cond.selects R_Pm y_Pm_grow y_Pm_grow ∈ bw := bw_of 131 (by decide +kernel) (by decide +kernel)
theorem co_Pm_grow : Cond.code y_Pm_grow b_Pm_grow 8 (some .int) ∈ bw := bw_of 132 (by decide +kernel) (by decide +kernel)
theorem ml_Pm_67 : Cond.methodLink R_Pm 67 y_Ly_has ∈ bw := bw_of 133 (by decide +kernel) (by decide +kernel)
theorem im_Ly_has : Cond.instanceMethod y_Ly_has ∈ bw := bw_of 134 (by decide +kernel) (by decide +kernel)
theorem se_Ly_has : Cond.selects R_Ly y_Ly_has y_Ly_has ∈ bw := bw_of 135 (by decide +kernel) (by decide +kernel)
theorem co_Ly_has : Cond.code y_Ly_has b_Ly_has 2 (some .boolean) ∈ bw := bw_of 136 (by decide +kernel) (by decide +kernel)
theorem ml_Pm_71 : Cond.methodLink R_Pm 71 y_Pm_pagesOf ∈ bw := bw_of 137 (by decide +kernel) (by decide +kernel)
theorem im_Pm_pagesOf : Cond.instanceMethod y_Pm_pagesOf ∈ bw := bw_of 139 (by decide +kernel) (by decide +kernel)
theorem co_Pm_pagesOf : Cond.code y_Pm_pagesOf b_Pm_pagesOf 2 (some .int) ∈ bw := bw_of 140 (by decide +kernel) (by decide +kernel)
theorem ml_Pm_163 : Cond.methodLink R_Pm 163 y_Ly_lengthOf ∈ bw := bw_of 141 (by decide +kernel) (by decide +kernel)
theorem im_Ly_lengthOf : Cond.instanceMethod y_Ly_lengthOf ∈ bw := bw_of 142 (by decide +kernel) (by decide +kernel)
theorem se_Ly_lengthOf : Cond.selects R_Ly y_Ly_lengthOf y_Ly_lengthOf ∈ bw := bw_of 143 (by decide +kernel) (by decide +kernel)
theorem co_Ly_lengthOf : Cond.code y_Ly_lengthOf b_Ly_lengthOf 2 (some .int) ∈ bw := bw_of 144 (by decide +kernel) (by decide +kernel)
theorem ml_Ly_32 : Cond.methodLink R_Ly 32 y_Ly_has ∈ bw := bw_of 145 (by decide +kernel) (by decide +kernel)
theorem ml_Pm_74 : Cond.methodLink R_Pm 74 y_Pm_unsigned ∈ bw := bw_of 146 (by decide +kernel) (by decide +kernel)
theorem sm_Pm_unsigned : Cond.static y_Pm_unsigned ∈ bw := bw_of 147 (by decide +kernel) (by decide +kernel)
theorem co_Pm_unsigned : Cond.code y_Pm_unsigned b_Pm_unsigned 1 (some .long) ∈ bw := bw_of 148 (by decide +kernel) (by decide +kernel)
theorem k_Pm_181 : Cond.constantLong R_Pm 181 4294967295 ∈ bw := bw_of 149 (by decide +kernel) (by decide +kernel)
theorem ml_Pm_78 : Cond.methodLink R_Pm 78 y_Ly_endOf ∈ bw := bw_of 150 (by decide +kernel) (by decide +kernel)
theorem im_Ly_endOf : Cond.instanceMethod y_Ly_endOf ∈ bw := bw_of 151 (by decide +kernel) (by decide +kernel)
theorem se_Ly_endOf : Cond.selects R_Ly y_Ly_endOf y_Ly_endOf ∈ bw := bw_of 152 (by decide +kernel) (by decide +kernel)
theorem co_Ly_endOf : Cond.code y_Ly_endOf b_Ly_endOf 2 (some .int) ∈ bw := bw_of 153 (by decide +kernel) (by decide +kernel)
theorem ml_Pm_81 : Cond.methodLink R_Pm 81 y_Ly_used ∈ bw := bw_of 154 (by decide +kernel) (by decide +kernel)
theorem im_Ly_used : Cond.instanceMethod y_Ly_used ∈ bw := bw_of 155 (by decide +kernel) (by decide +kernel)
theorem se_Ly_used : Cond.selects R_Ly y_Ly_used y_Ly_used ∈ bw := bw_of 156 (by decide +kernel) (by decide +kernel)
theorem co_Ly_used : Cond.code y_Ly_used b_Ly_used 1 (some .int) ∈ bw := bw_of 157 (by decide +kernel) (by decide +kernel)
theorem ml_Pm_84 : Cond.methodLink R_Pm 84 ⟨"java/lang/System", "arraycopy", "(Ljava/lang/Object;ILjava/lang/Object;II)V"⟩ ∈ bw := bw_of 158 (by decide +kernel) (by decide +kernel)
theorem sm_arraycopy : Cond.static arraycopyName ∈ bw := bw_of 159 (by decide +kernel) (by decide +kernel)
theorem nt_arraycopy : Cond.native arraycopyName ∈ bw := bw_of 160 (by decide +kernel) (by decide +kernel)
theorem ml_Pm_90 : Cond.methodLink R_Pm 90 y_Ar_fillB ∈ bw := bw_of 161 (by decide +kernel) (by decide +kernel)
theorem sm_Ar_fillB : Cond.static y_Ar_fillB ∈ bw := bw_of 162 (by decide +kernel) (by decide +kernel)
theorem co_Ar_fillB : Cond.code y_Ar_fillB b_Ar_fillB 5 none ∈ bw := bw_of 163 (by decide +kernel) (by decide +kernel)
theorem ml_Ar_13 : Cond.methodLink R_Ar 13 y_Ar_rangeCheck ∈ bw := bw_of 164 (by decide +kernel) (by decide +kernel)
theorem sm_Ar_rangeCheck : Cond.static y_Ar_rangeCheck ∈ bw := bw_of 165 (by decide +kernel) (by decide +kernel)
theorem co_Ar_rangeCheck : Cond.code y_Ar_rangeCheck b_Ar_rangeCheck 3 none ∈ bw := bw_of 166 (by decide +kernel) (by decide +kernel)
theorem cl_Ar_43 : Cond.classLink R_Ar 43 "java/lang/IllegalArgumentException" ∈ bw := bw_of 167 (by decide +kernel) (by decide +kernel)
theorem cl_Ar_45 : Cond.classLink R_Ar 45 "java/lang/StringBuilder" ∈ bw := bw_of 207 (by decide +kernel) (by decide +kernel)
theorem ml_Ar_47 : Cond.methodLink R_Ar 47 ⟨"java/lang/StringBuilder", "<init>", "()V"⟩ ∈ bw := bw_of 209 (by decide +kernel) (by decide +kernel)
theorem ml_Ar_50 : Cond.methodLink R_Ar 50 ⟨"java/lang/StringBuilder", "append", "(Ljava/lang/String;)Ljava/lang/StringBuilder;"⟩ ∈ bw := bw_of 239 (by decide +kernel) (by decide +kernel)
theorem sm_Ar_copyOf : Cond.static y_Ar_copyOf ∈ bw := bw_of 270 (by decide +kernel) (by decide +kernel)
theorem co_Ar_copyOf : Cond.code y_Ar_copyOf b_Ar_copyOf 3 (some (.array .byte)) ∈ bw := bw_of 271 (by decide +kernel) (by decide +kernel)
theorem ml_Ar_310 : Cond.methodLink R_Ar 310 ⟨"[B", "clone", "()Ljava/lang/Object;"⟩ ∈ bw := bw_of 272 (by decide +kernel) (by decide +kernel)
theorem cl_Ar_311 : Cond.classLink R_Ar 311 "[B" ∈ bw := bw_of 278 (by decide +kernel) (by decide +kernel)
theorem ml_Ar_304 : Cond.methodLink R_Ar 304 ⟨"java/lang/Math", "min", "(II)I"⟩ ∈ bw := bw_of 279 (by decide +kernel) (by decide +kernel)
theorem ml_Ar_150 : Cond.methodLink R_Ar 150 ⟨"java/lang/System", "arraycopy", "(Ljava/lang/Object;ILjava/lang/Object;II)V"⟩ ∈ bw := bw_of 282 (by decide +kernel) (by decide +kernel)
theorem ml_Ar_54 : Cond.methodLink R_Ar 54 ⟨"java/lang/StringBuilder", "append", "(I)Ljava/lang/StringBuilder;"⟩ ∈ bw := bw_of 357 (by decide +kernel) (by decide +kernel)
theorem ml_Ar_61 : Cond.methodLink R_Ar 61 ⟨"java/lang/StringBuilder", "toString", "()Ljava/lang/String;"⟩ ∈ bw := bw_of 384 (by decide +kernel) (by decide +kernel)
theorem sm_Ar_copyOfRange : Cond.static y_Ar_copyOfRange ∈ bw := bw_of 412 (by decide +kernel) (by decide +kernel)
theorem co_Ar_copyOfRange : Cond.code y_Ar_copyOfRange b_Ar_copyOfRange 3 (some (.array .byte)) ∈ bw := bw_of 413 (by decide +kernel) (by decide +kernel)
theorem ml_Ar_339 : Cond.methodLink R_Ar 339 y_Ar_copyOfRangeByte ∈ bw := bw_of 414 (by decide +kernel) (by decide +kernel)
theorem sm_Ar_copyOfRangeByte : Cond.static y_Ar_copyOfRangeByte ∈ bw := bw_of 415 (by decide +kernel) (by decide +kernel)
theorem co_Ar_copyOfRangeByte : Cond.code y_Ar_copyOfRangeByte b_Ar_copyOfRangeByte 5 (some (.array .byte)) ∈ bw := bw_of 416 (by decide +kernel) (by decide +kernel)
theorem ml_Ar_343 : Cond.methodLink R_Ar 343 y_Ar_checkLength ∈ bw := bw_of 417 (by decide +kernel) (by decide +kernel)
theorem sm_Ar_checkLength : Cond.static y_Ar_checkLength ∈ bw := bw_of 418 (by decide +kernel) (by decide +kernel)
theorem co_Ar_checkLength : Cond.code y_Ar_checkLength b_Ar_checkLength 2 none ∈ bw := bw_of 419 (by decide +kernel) (by decide +kernel)
theorem ml_Ar_65 : Cond.methodLink R_Ar 65 ⟨"java/lang/IllegalArgumentException", "<init>", "(Ljava/lang/String;)V"⟩ ∈ bw := bw_of 421 (by decide +kernel) (by decide +kernel)
theorem ml_Pm_96 : Cond.methodLink R_Pm 96 y_Ly_widen ∈ bw := bw_of 470 (by decide +kernel) (by decide +kernel)
theorem im_Ly_widen : Cond.instanceMethod y_Ly_widen ∈ bw := bw_of 471 (by decide +kernel) (by decide +kernel)
theorem se_Ly_widen : Cond.selects R_Ly y_Ly_widen y_Ly_widen ∈ bw := bw_of 472 (by decide +kernel) (by decide +kernel)
theorem co_Ly_widen : Cond.code y_Ly_widen b_Ly_widen 4 none ∈ bw := bw_of 473 (by decide +kernel) (by decide +kernel)
theorem ml_Lw_92 : Cond.methodLink R_Lw 92 y_Pm_data ∈ bw := bw_of 474 (by decide +kernel) (by decide +kernel)
theorem im_Pm_data : Cond.instanceMethod y_Pm_data ∈ bw := bw_of 475 (by decide +kernel) (by decide +kernel)
theorem se_Pm_data : Cond.selects R_Pm y_Pm_data y_Pm_data ∈ bw := bw_of 476 (by decide +kernel) (by decide +kernel)
theorem co_Pm_data : Cond.code y_Pm_data b_Pm_data 5 (some .int) ∈ bw := bw_of 477 (by decide +kernel) (by decide +kernel)
theorem ml_Pm_136 : Cond.methodLink R_Pm 136 y_Ly_canTake ∈ bw := bw_of 478 (by decide +kernel) (by decide +kernel)
theorem im_Ly_canTake : Cond.instanceMethod y_Ly_canTake ∈ bw := bw_of 479 (by decide +kernel) (by decide +kernel)
theorem se_Ly_canTake : Cond.selects R_Ly y_Ly_canTake y_Ly_canTake ∈ bw := bw_of 480 (by decide +kernel) (by decide +kernel)
theorem co_Ly_canTake : Cond.code y_Ly_canTake b_Ly_canTake 4 (some .boolean) ∈ bw := bw_of 481 (by decide +kernel) (by decide +kernel)
theorem ml_Ly_40 : Cond.methodLink R_Ly 40 y_Ly_left ∈ bw := bw_of 482 (by decide +kernel) (by decide +kernel)
theorem ml_Pm_128 : Cond.methodLink R_Pm 128 y_Pm_putLowestBytes ∈ bw := bw_of 483 (by decide +kernel) (by decide +kernel)
theorem sm_Pm_putLowestBytes : Cond.static y_Pm_putLowestBytes ∈ bw := bw_of 484 (by decide +kernel) (by decide +kernel)
theorem co_Pm_putLowestBytes : Cond.code y_Pm_putLowestBytes b_Pm_putLowestBytes 6 none ∈ bw := bw_of 485 (by decide +kernel) (by decide +kernel)
theorem ml_Pm_140 : Cond.methodLink R_Pm 140 y_Ly_take ∈ bw := bw_of 486 (by decide +kernel) (by decide +kernel)
theorem im_Ly_take : Cond.instanceMethod y_Ly_take ∈ bw := bw_of 487 (by decide +kernel) (by decide +kernel)
theorem se_Ly_take : Cond.selects R_Ly y_Ly_take y_Ly_take ∈ bw := bw_of 488 (by decide +kernel) (by decide +kernel)
theorem co_Ly_take : Cond.code y_Ly_take b_Ly_take 3 (some .int) ∈ bw := bw_of 489 (by decide +kernel) (by decide +kernel)
theorem ml_Ly_44 : Cond.methodLink R_Ly 44 y_Ly_append ∈ bw := bw_of 490 (by decide +kernel) (by decide +kernel)
theorem ml_Ly_48 : Cond.methodLink R_Ly 48 y_Ly_widen ∈ bw := bw_of 491 (by decide +kernel) (by decide +kernel)
theorem ml_Lw_101 : Cond.methodLink R_Lw 101 y_Pm_table ∈ bw := bw_of 492 (by decide +kernel) (by decide +kernel)
theorem im_Pm_table : Cond.instanceMethod y_Pm_table ∈ bw := bw_of 493 (by decide +kernel) (by decide +kernel)
theorem se_Pm_table : Cond.selects R_Pm y_Pm_table y_Pm_table ∈ bw := bw_of 494 (by decide +kernel) (by decide +kernel)
theorem co_Pm_table : Cond.code y_Pm_table b_Pm_table 6 (some .int) ∈ bw := bw_of 495 (by decide +kernel) (by decide +kernel)
theorem ml_Pm_153 : Cond.methodLink R_Pm 153 y_Ar_fillI ∈ bw := bw_of 496 (by decide +kernel) (by decide +kernel)
theorem sm_Ar_fillI : Cond.static y_Ar_fillI ∈ bw := bw_of 497 (by decide +kernel) (by decide +kernel)
theorem co_Ar_fillI : Cond.code y_Ar_fillI b_Ar_fillI 5 none ∈ bw := bw_of 498 (by decide +kernel) (by decide +kernel)
theorem ml_Lw_114 : Cond.methodLink R_Lw 114 y_Pm_growTable ∈ bw := bw_of 499 (by decide +kernel) (by decide +kernel)
theorem im_Pm_growTable : Cond.instanceMethod y_Pm_growTable ∈ bw := bw_of 500 (by decide +kernel) (by decide +kernel)
theorem se_Pm_growTable : Cond.selects R_Pm y_Pm_growTable y_Pm_growTable ∈ bw := bw_of 501 (by decide +kernel) (by decide +kernel)
theorem co_Pm_growTable : Cond.code y_Pm_growTable b_Pm_growTable 8 (some .int) ∈ bw := bw_of 502 (by decide +kernel) (by decide +kernel)
theorem ml_Pm_158 : Cond.methodLink R_Pm 158 y_Pm_isReference ∈ bw := bw_of 503 (by decide +kernel) (by decide +kernel)
theorem sm_Pm_isReference : Cond.static y_Pm_isReference ∈ bw := bw_of 504 (by decide +kernel) (by decide +kernel)
theorem co_Pm_isReference : Cond.code y_Pm_isReference b_Pm_isReference 1 (some .boolean) ∈ bw := bw_of 505 (by decide +kernel) (by decide +kernel)
theorem ml_Lw_127 : Cond.methodLink R_Lw 127 y_Pm_element ∈ bw := bw_of 506 (by decide +kernel) (by decide +kernel)
theorem im_Pm_element : Cond.instanceMethod y_Pm_element ∈ bw := bw_of 507 (by decide +kernel) (by decide +kernel)
theorem se_Pm_element : Cond.selects R_Pm y_Pm_element y_Pm_element ∈ bw := bw_of 508 (by decide +kernel) (by decide +kernel)
theorem co_Pm_element : Cond.code y_Pm_element b_Pm_element 3 (some .int) ∈ bw := bw_of 509 (by decide +kernel) (by decide +kernel)
theorem ml_Lw_132 : Cond.methodLink R_Lw 132 y_Pm_trap ∈ bw := bw_of 510 (by decide +kernel) (by decide +kernel)
theorem im_Pm_trap : Cond.instanceMethod y_Pm_trap ∈ bw := bw_of 511 (by decide +kernel) (by decide +kernel)
theorem se_Pm_trap : Cond.selects R_Pm y_Pm_trap y_Pm_trap ∈ bw := bw_of 512 (by decide +kernel) (by decide +kernel)
theorem co_Pm_trap : Cond.code y_Pm_trap b_Pm_trap 1 (some .int) ∈ bw := bw_of 513 (by decide +kernel) (by decide +kernel)
theorem ml_Lw_136 : Cond.methodLink R_Lw 136 y_Pm_size ∈ bw := bw_of 514 (by decide +kernel) (by decide +kernel)
theorem im_Pm_size : Cond.instanceMethod y_Pm_size ∈ bw := bw_of 515 (by decide +kernel) (by decide +kernel)
theorem se_Pm_size : Cond.selects R_Pm y_Pm_size y_Pm_size ∈ bw := bw_of 516 (by decide +kernel) (by decide +kernel)
theorem co_Pm_size : Cond.code y_Pm_size b_Pm_size 3 (some .int) ∈ bw := bw_of 517 (by decide +kernel) (by decide +kernel)
theorem ml_Pm_170 : Cond.methodLink R_Pm 170 y_Ly_count ∈ bw := bw_of 518 (by decide +kernel) (by decide +kernel)
theorem im_Ly_count : Cond.instanceMethod y_Ly_count ∈ bw := bw_of 519 (by decide +kernel) (by decide +kernel)
theorem se_Ly_count : Cond.selects R_Ly y_Ly_count y_Ly_count ∈ bw := bw_of 520 (by decide +kernel) (by decide +kernel)
theorem co_Ly_count : Cond.code y_Ly_count b_Ly_count 1 (some .int) ∈ bw := bw_of 521 (by decide +kernel) (by decide +kernel)
theorem ml_Lw_65 : Cond.methodLink R_Lw 65 y_Lw_load ∈ bw := bw_of 522 (by decide +kernel) (by decide +kernel)
theorem sm_Lw_load : Cond.static y_Lw_load ∈ bw := bw_of 523 (by decide +kernel) (by decide +kernel)
theorem cl_Lw_13 : Cond.classLink R_Lw 13 "java/lang/IllegalArgumentException" ∈ bw := bw_of 525 (by decide +kernel) (by decide +kernel)
theorem cl_Lw_15 : Cond.classLink R_Lw 15 "java/lang/UnsupportedOperationException" ∈ bw := bw_of 526 (by decide +kernel) (by decide +kernel)
theorem ml_Lw_7 : Cond.methodLink R_Lw 7 y_Pm_load ∈ bw := bw_of 527 (by decide +kernel) (by decide +kernel)
theorem im_Pm_load : Cond.instanceMethod y_Pm_load ∈ bw := bw_of 528 (by decide +kernel) (by decide +kernel)
theorem se_Pm_load : Cond.selects R_Pm y_Pm_load y_Pm_load ∈ bw := bw_of 529 (by decide +kernel) (by decide +kernel)
theorem co_Pm_load : Cond.code y_Pm_load b_Pm_load 10 (some .long) ∈ bw := bw_of 530 (by decide +kernel) (by decide +kernel)
theorem fl_Pm_99 : Cond.fieldLink R_Pm 99 "PagedMemory" "LOAD_WIDTHS" "[I" ∈ bw := bw_of 531 (by decide +kernel) (by decide +kernel)
theorem ml_Pm_102 : Cond.methodLink R_Pm 102 y_Pm_widthOf ∈ bw := bw_of 533 (by decide +kernel) (by decide +kernel)
theorem sm_Pm_widthOf : Cond.static y_Pm_widthOf ∈ bw := bw_of 534 (by decide +kernel) (by decide +kernel)
theorem co_Pm_widthOf : Cond.code y_Pm_widthOf b_Pm_widthOf 3 (some .int) ∈ bw := bw_of 535 (by decide +kernel) (by decide +kernel)
theorem cl_Pm_106 : Cond.classLink R_Pm 106 "java/lang/IllegalArgumentException" ∈ bw := bw_of 536 (by decide +kernel) (by decide +kernel)
theorem ml_Pm_110 : Cond.methodLink R_Pm 110 ⟨"java/lang/IllegalArgumentException", "<init>", "(Ljava/lang/String;)V"⟩ ∈ bw := bw_of 538 (by decide +kernel) (by decide +kernel)
theorem ml_Pm_113 : Cond.methodLink R_Pm 113 y_Pm_placeOf ∈ bw := bw_of 539 (by decide +kernel) (by decide +kernel)
theorem im_Pm_placeOf : Cond.instanceMethod y_Pm_placeOf ∈ bw := bw_of 541 (by decide +kernel) (by decide +kernel)
theorem co_Pm_placeOf : Cond.code y_Pm_placeOf b_Pm_placeOf 8 (some .int) ∈ bw := bw_of 542 (by decide +kernel) (by decide +kernel)
theorem cl_Pm_173 : Cond.classLink R_Pm 173 "java/lang/UnsupportedOperationException" ∈ bw := bw_of 543 (by decide +kernel) (by decide +kernel)
theorem ml_Pm_177 : Cond.methodLink R_Pm 177 ⟨"java/lang/UnsupportedOperationException", "<init>", "(Ljava/lang/String;)V"⟩ ∈ bw := bw_of 553 (by decide +kernel) (by decide +kernel)
theorem ml_Pm_178 : Cond.methodLink R_Pm 178 y_Ly_startOf ∈ bw := bw_of 559 (by decide +kernel) (by decide +kernel)
theorem im_Ly_startOf : Cond.instanceMethod y_Ly_startOf ∈ bw := bw_of 560 (by decide +kernel) (by decide +kernel)
theorem se_Ly_startOf : Cond.selects R_Ly y_Ly_startOf y_Ly_startOf ∈ bw := bw_of 561 (by decide +kernel) (by decide +kernel)
theorem co_Ly_startOf : Cond.code y_Ly_startOf b_Ly_startOf 2 (some .int) ∈ bw := bw_of 562 (by decide +kernel) (by decide +kernel)
theorem k_Pm_117 : Cond.constantLong R_Pm 117 255 ∈ bw := bw_of 563 (by decide +kernel) (by decide +kernel)
theorem ml_Pm_119 : Cond.methodLink R_Pm 119 y_Pm_extended ∈ bw := bw_of 564 (by decide +kernel) (by decide +kernel)
theorem sm_Pm_extended : Cond.static y_Pm_extended ∈ bw := bw_of 565 (by decide +kernel) (by decide +kernel)
theorem co_Pm_extended : Cond.code y_Pm_extended b_Pm_extended 3 (some .long) ∈ bw := bw_of 566 (by decide +kernel) (by decide +kernel)
theorem ml_Lw_77 : Cond.methodLink R_Lw 77 y_Lw_store ∈ bw := bw_of 567 (by decide +kernel) (by decide +kernel)
theorem sm_Lw_store : Cond.static y_Lw_store ∈ bw := bw_of 568 (by decide +kernel) (by decide +kernel)
theorem ml_Lw_17 : Cond.methodLink R_Lw 17 y_Pm_store ∈ bw := bw_of 570 (by decide +kernel) (by decide +kernel)
theorem im_Pm_store : Cond.instanceMethod y_Pm_store ∈ bw := bw_of 571 (by decide +kernel) (by decide +kernel)
theorem se_Pm_store : Cond.selects R_Pm y_Pm_store y_Pm_store ∈ bw := bw_of 572 (by decide +kernel) (by decide +kernel)
theorem co_Pm_store : Cond.code y_Pm_store b_Pm_store 9 none ∈ bw := bw_of 573 (by decide +kernel) (by decide +kernel)
theorem fl_Pm_123 : Cond.fieldLink R_Pm 123 "PagedMemory" "STORE_WIDTHS" "[I" ∈ bw := bw_of 574 (by decide +kernel) (by decide +kernel)
theorem ml_Lw_81 : Cond.methodLink R_Lw 81 y_Lw_fill ∈ bw := bw_of 577 (by decide +kernel) (by decide +kernel)
theorem sm_Lw_fill : Cond.static y_Lw_fill ∈ bw := bw_of 578 (by decide +kernel) (by decide +kernel)
theorem ml_Lw_21 : Cond.methodLink R_Lw 21 y_Pm_fill ∈ bw := bw_of 580 (by decide +kernel) (by decide +kernel)
theorem im_Pm_fill : Cond.instanceMethod y_Pm_fill ∈ bw := bw_of 581 (by decide +kernel) (by decide +kernel)
theorem se_Pm_fill : Cond.selects R_Pm y_Pm_fill y_Pm_fill ∈ bw := bw_of 582 (by decide +kernel) (by decide +kernel)
theorem co_Pm_fill : Cond.code y_Pm_fill b_Pm_fill 6 none ∈ bw := bw_of 583 (by decide +kernel) (by decide +kernel)
theorem ml_Lw_85 : Cond.methodLink R_Lw 85 y_Lw_copy ∈ bw := bw_of 585 (by decide +kernel) (by decide +kernel)
theorem sm_Lw_copy : Cond.static y_Lw_copy ∈ bw := bw_of 586 (by decide +kernel) (by decide +kernel)
theorem ml_Lw_25 : Cond.methodLink R_Lw 25 y_Pm_copy ∈ bw := bw_of 588 (by decide +kernel) (by decide +kernel)
theorem im_Pm_copy : Cond.instanceMethod y_Pm_copy ∈ bw := bw_of 589 (by decide +kernel) (by decide +kernel)
theorem se_Pm_copy : Cond.selects R_Pm y_Pm_copy y_Pm_copy ∈ bw := bw_of 590 (by decide +kernel) (by decide +kernel)
theorem co_Pm_copy : Cond.code y_Pm_copy b_Pm_copy 7 none ∈ bw := bw_of 591 (by decide +kernel) (by decide +kernel)
theorem ml_Lw_88 : Cond.methodLink R_Lw 88 y_Lw_init ∈ bw := bw_of 592 (by decide +kernel) (by decide +kernel)
theorem sm_Lw_init : Cond.static y_Lw_init ∈ bw := bw_of 593 (by decide +kernel) (by decide +kernel)
theorem ml_Lw_28 : Cond.methodLink R_Lw 28 y_Pm_init ∈ bw := bw_of 595 (by decide +kernel) (by decide +kernel)
theorem im_Pm_init : Cond.instanceMethod y_Pm_init ∈ bw := bw_of 596 (by decide +kernel) (by decide +kernel)
theorem se_Pm_init : Cond.selects R_Pm y_Pm_init y_Pm_init ∈ bw := bw_of 597 (by decide +kernel) (by decide +kernel)
theorem co_Pm_init : Cond.code y_Pm_init b_Pm_init 8 none ∈ bw := bw_of 598 (by decide +kernel) (by decide +kernel)
theorem ml_Lw_97 : Cond.methodLink R_Lw 97 y_Lw_drop ∈ bw := bw_of 600 (by decide +kernel) (by decide +kernel)
theorem sm_Lw_drop : Cond.static y_Lw_drop ∈ bw := bw_of 601 (by decide +kernel) (by decide +kernel)
theorem ml_Lw_32 : Cond.methodLink R_Lw 32 y_Pm_drop ∈ bw := bw_of 603 (by decide +kernel) (by decide +kernel)
theorem im_Pm_drop : Cond.instanceMethod y_Pm_drop ∈ bw := bw_of 604 (by decide +kernel) (by decide +kernel)
theorem se_Pm_drop : Cond.selects R_Pm y_Pm_drop y_Pm_drop ∈ bw := bw_of 605 (by decide +kernel) (by decide +kernel)
theorem co_Pm_drop : Cond.code y_Pm_drop b_Pm_drop 4 none ∈ bw := bw_of 606 (by decide +kernel) (by decide +kernel)
theorem ml_Pm_146 : Cond.methodLink R_Pm 146 y_Ly_giveUp ∈ bw := bw_of 608 (by decide +kernel) (by decide +kernel)
theorem im_Ly_giveUp : Cond.instanceMethod y_Ly_giveUp ∈ bw := bw_of 609 (by decide +kernel) (by decide +kernel)
theorem se_Ly_giveUp : Cond.selects R_Ly y_Ly_giveUp y_Ly_giveUp ∈ bw := bw_of 610 (by decide +kernel) (by decide +kernel)
theorem co_Ly_giveUp : Cond.code y_Ly_giveUp b_Ly_giveUp 2 none ∈ bw := bw_of 611 (by decide +kernel) (by decide +kernel)
theorem ml_Lw_106 : Cond.methodLink R_Lw 106 y_Lw_get ∈ bw := bw_of 612 (by decide +kernel) (by decide +kernel)
theorem sm_Lw_get : Cond.static y_Lw_get ∈ bw := bw_of 613 (by decide +kernel) (by decide +kernel)
theorem ml_Lw_36 : Cond.methodLink R_Lw 36 y_Pm_get ∈ bw := bw_of 615 (by decide +kernel) (by decide +kernel)
theorem im_Pm_get : Cond.instanceMethod y_Pm_get ∈ bw := bw_of 616 (by decide +kernel) (by decide +kernel)
theorem se_Pm_get : Cond.selects R_Pm y_Pm_get y_Pm_get ∈ bw := bw_of 617 (by decide +kernel) (by decide +kernel)
theorem co_Pm_get : Cond.code y_Pm_get b_Pm_get 3 (some .int) ∈ bw := bw_of 618 (by decide +kernel) (by decide +kernel)
theorem ml_Lw_110 : Cond.methodLink R_Lw 110 y_Lw_set ∈ bw := bw_of 620 (by decide +kernel) (by decide +kernel)
theorem sm_Lw_set : Cond.static y_Lw_set ∈ bw := bw_of 621 (by decide +kernel) (by decide +kernel)
theorem ml_Lw_40 : Cond.methodLink R_Lw 40 y_Pm_set ∈ bw := bw_of 623 (by decide +kernel) (by decide +kernel)
theorem im_Pm_set : Cond.instanceMethod y_Pm_set ∈ bw := bw_of 624 (by decide +kernel) (by decide +kernel)
theorem se_Pm_set : Cond.selects R_Pm y_Pm_set y_Pm_set ∈ bw := bw_of 625 (by decide +kernel) (by decide +kernel)
theorem co_Pm_set : Cond.code y_Pm_set b_Pm_set 4 none ∈ bw := bw_of 626 (by decide +kernel) (by decide +kernel)
theorem ml_Lw_118 : Cond.methodLink R_Lw 118 y_Lw_fillTable ∈ bw := bw_of 628 (by decide +kernel) (by decide +kernel)
theorem sm_Lw_fillTable : Cond.static y_Lw_fillTable ∈ bw := bw_of 629 (by decide +kernel) (by decide +kernel)
theorem ml_Lw_44 : Cond.methodLink R_Lw 44 y_Pm_fillTable ∈ bw := bw_of 631 (by decide +kernel) (by decide +kernel)
theorem im_Pm_fillTable : Cond.instanceMethod y_Pm_fillTable ∈ bw := bw_of 632 (by decide +kernel) (by decide +kernel)
theorem se_Pm_fillTable : Cond.selects R_Pm y_Pm_fillTable y_Pm_fillTable ∈ bw := bw_of 633 (by decide +kernel) (by decide +kernel)
theorem co_Pm_fillTable : Cond.code y_Pm_fillTable b_Pm_fillTable 6 none ∈ bw := bw_of 634 (by decide +kernel) (by decide +kernel)
theorem ml_Lw_121 : Cond.methodLink R_Lw 121 y_Lw_copyTable ∈ bw := bw_of 635 (by decide +kernel) (by decide +kernel)
theorem sm_Lw_copyTable : Cond.static y_Lw_copyTable ∈ bw := bw_of 636 (by decide +kernel) (by decide +kernel)
theorem ml_Lw_47 : Cond.methodLink R_Lw 47 y_Pm_copyTable ∈ bw := bw_of 638 (by decide +kernel) (by decide +kernel)
theorem im_Pm_copyTable : Cond.instanceMethod y_Pm_copyTable ∈ bw := bw_of 639 (by decide +kernel) (by decide +kernel)
theorem se_Pm_copyTable : Cond.selects R_Pm y_Pm_copyTable y_Pm_copyTable ∈ bw := bw_of 640 (by decide +kernel) (by decide +kernel)
theorem co_Pm_copyTable : Cond.code y_Pm_copyTable b_Pm_copyTable 8 none ∈ bw := bw_of 641 (by decide +kernel) (by decide +kernel)
theorem ml_Lw_124 : Cond.methodLink R_Lw 124 y_Lw_initTable ∈ bw := bw_of 643 (by decide +kernel) (by decide +kernel)
theorem sm_Lw_initTable : Cond.static y_Lw_initTable ∈ bw := bw_of 644 (by decide +kernel) (by decide +kernel)
theorem ml_Lw_50 : Cond.methodLink R_Lw 50 y_Pm_initTable ∈ bw := bw_of 646 (by decide +kernel) (by decide +kernel)
theorem im_Pm_initTable : Cond.instanceMethod y_Pm_initTable ∈ bw := bw_of 647 (by decide +kernel) (by decide +kernel)
theorem se_Pm_initTable : Cond.selects R_Pm y_Pm_initTable y_Pm_initTable ∈ bw := bw_of 648 (by decide +kernel) (by decide +kernel)
theorem co_Pm_initTable : Cond.code y_Pm_initTable b_Pm_initTable 8 none ∈ bw := bw_of 649 (by decide +kernel) (by decide +kernel)
theorem cl_Lw_54 : Cond.classLink R_Lw 54 R_Md ∈ bw := bw_of 651 (by decide +kernel) (by decide +kernel)
theorem inst_Md : Cond.instantiable R_Md 37 ∈ bw := bw_of 652 (by decide +kernel) (by decide +kernel)
theorem ml_Lw_56 : Cond.methodLink R_Lw 56 y_Md_new ∈ bw := bw_of 653 (by decide +kernel) (by decide +kernel)
theorem im_Md_new : Cond.instanceMethod y_Md_new ∈ bw := bw_of 654 (by decide +kernel) (by decide +kernel)
theorem co_Md_new : Cond.code y_Md_new b_Md_new 1 none ∈ bw := bw_of 655 (by decide +kernel) (by decide +kernel)
theorem ml_Md_1 : Cond.methodLink R_Md 1 objectInit ∈ bw := bw_of 656 (by decide +kernel) (by decide +kernel)
theorem fl_Md_94 : Cond.fieldLink R_Md 94 "PagedMemoryModel" "thrown" "I" ∈ bw := bw_of 657 (by decide +kernel) (by decide +kernel)
theorem fl_Md_105 : Cond.fieldLink R_Md 105 "PagedMemoryModel" "trap" "I" ∈ bw := bw_of 658 (by decide +kernel) (by decide +kernel)
theorem fl_Md_99 : Cond.fieldLink R_Md 99 "PagedMemoryModel" "memories" "I" ∈ bw := bw_of 659 (by decide +kernel) (by decide +kernel)
theorem fl_Md_102 : Cond.fieldLink R_Md 102 "PagedMemoryModel" "tables" "I" ∈ bw := bw_of 660 (by decide +kernel) (by decide +kernel)
theorem fl_Md_9 : Cond.fieldLink R_Md 9 "PagedMemoryModel" "pagesLeft" "I" ∈ bw := bw_of 661 (by decide +kernel) (by decide +kernel)
theorem fl_Md_13 : Cond.fieldLink R_Md 13 "PagedMemoryModel" "entriesLeft" "I" ∈ bw := bw_of 662 (by decide +kernel) (by decide +kernel)
theorem fl_Md_16 : Cond.fieldLink R_Md 16 "PagedMemoryModel" "pages" "[I" ∈ bw := bw_of 663 (by decide +kernel) (by decide +kernel)
theorem fl_Md_20 : Cond.fieldLink R_Md 20 "PagedMemoryModel" "limits" "[I" ∈ bw := bw_of 664 (by decide +kernel) (by decide +kernel)
theorem fl_Md_23 : Cond.fieldLink R_Md 23 "PagedMemoryModel" "types" "[I" ∈ bw := bw_of 665 (by decide +kernel) (by decide +kernel)
theorem fl_Md_26 : Cond.fieldLink R_Md 26 "PagedMemoryModel" "entries" "[I" ∈ bw := bw_of 666 (by decide +kernel) (by decide +kernel)
theorem fl_Md_29 : Cond.fieldLink R_Md 29 "PagedMemoryModel" "tableLimits" "[I" ∈ bw := bw_of 667 (by decide +kernel) (by decide +kernel)
theorem fl_Md_157 : Cond.fieldLink R_Md 157 "PagedMemoryModel" "segments" "I" ∈ bw := bw_of 668 (by decide +kernel) (by decide +kernel)
theorem fl_Md_160 : Cond.fieldLink R_Md 160 "PagedMemoryModel" "used" "I" ∈ bw := bw_of 669 (by decide +kernel) (by decide +kernel)
theorem fl_Md_163 : Cond.fieldLink R_Md 163 "PagedMemoryModel" "rows" "I" ∈ bw := bw_of 670 (by decide +kernel) (by decide +kernel)
theorem fl_Md_166 : Cond.fieldLink R_Md 166 "PagedMemoryModel" "usedRows" "I" ∈ bw := bw_of 671 (by decide +kernel) (by decide +kernel)
theorem fl_Md_32 : Cond.fieldLink R_Md 32 "PagedMemoryModel" "starts" "[I" ∈ bw := bw_of 672 (by decide +kernel) (by decide +kernel)
theorem fl_Md_35 : Cond.fieldLink R_Md 35 "PagedMemoryModel" "many" "[I" ∈ bw := bw_of 673 (by decide +kernel) (by decide +kernel)
theorem fl_Md_38 : Cond.fieldLink R_Md 38 "PagedMemoryModel" "dropped" "[Z" ∈ bw := bw_of 674 (by decide +kernel) (by decide +kernel)
theorem fl_Md_42 : Cond.fieldLink R_Md 42 "PagedMemoryModel" "held" "[I" ∈ bw := bw_of 675 (by decide +kernel) (by decide +kernel)
theorem fl_Md_45 : Cond.fieldLink R_Md 45 "PagedMemoryModel" "rowStarts" "[I" ∈ bw := bw_of 676 (by decide +kernel) (by decide +kernel)
theorem fl_Md_48 : Cond.fieldLink R_Md 48 "PagedMemoryModel" "rowMany" "[I" ∈ bw := bw_of 677 (by decide +kernel) (by decide +kernel)
theorem fl_Md_51 : Cond.fieldLink R_Md 51 "PagedMemoryModel" "rowDropped" "[Z" ∈ bw := bw_of 678 (by decide +kernel) (by decide +kernel)
theorem fl_Md_54 : Cond.fieldLink R_Md 54 "PagedMemoryModel" "heldRows" "[I" ∈ bw := bw_of 679 (by decide +kernel) (by decide +kernel)
theorem fl_Md_110 : Cond.fieldLink R_Md 110 "PagedMemoryModel" "writings" "I" ∈ bw := bw_of 680 (by decide +kernel) (by decide +kernel)
theorem fl_Md_113 : Cond.fieldLink R_Md 113 "PagedMemoryModel" "changes" "I" ∈ bw := bw_of 681 (by decide +kernel) (by decide +kernel)
theorem fl_Md_57 : Cond.fieldLink R_Md 57 "PagedMemoryModel" "kind" "[I" ∈ bw := bw_of 682 (by decide +kernel) (by decide +kernel)
theorem fl_Md_60 : Cond.fieldLink R_Md 60 "PagedMemoryModel" "into" "[I" ∈ bw := bw_of 683 (by decide +kernel) (by decide +kernel)
theorem fl_Md_63 : Cond.fieldLink R_Md 63 "PagedMemoryModel" "place" "[I" ∈ bw := bw_of 684 (by decide +kernel) (by decide +kernel)
theorem fl_Md_66 : Cond.fieldLink R_Md 66 "PagedMemoryModel" "length" "[I" ∈ bw := bw_of 685 (by decide +kernel) (by decide +kernel)
theorem fl_Md_69 : Cond.fieldLink R_Md 69 "PagedMemoryModel" "source" "[I" ∈ bw := bw_of 686 (by decide +kernel) (by decide +kernel)
theorem fl_Md_72 : Cond.fieldLink R_Md 72 "PagedMemoryModel" "value" "[J" ∈ bw := bw_of 687 (by decide +kernel) (by decide +kernel)
theorem fl_Md_76 : Cond.fieldLink R_Md 76 "PagedMemoryModel" "changeKind" "[I" ∈ bw := bw_of 688 (by decide +kernel) (by decide +kernel)
theorem fl_Md_79 : Cond.fieldLink R_Md 79 "PagedMemoryModel" "changeInto" "[I" ∈ bw := bw_of 689 (by decide +kernel) (by decide +kernel)
theorem fl_Md_82 : Cond.fieldLink R_Md 82 "PagedMemoryModel" "changePlace" "[I" ∈ bw := bw_of 690 (by decide +kernel) (by decide +kernel)
theorem fl_Md_85 : Cond.fieldLink R_Md 85 "PagedMemoryModel" "changeLength" "[I" ∈ bw := bw_of 691 (by decide +kernel) (by decide +kernel)
theorem fl_Md_88 : Cond.fieldLink R_Md 88 "PagedMemoryModel" "changeSource" "[I" ∈ bw := bw_of 692 (by decide +kernel) (by decide +kernel)
theorem fl_Md_91 : Cond.fieldLink R_Md 91 "PagedMemoryModel" "changeValue" "[I" ∈ bw := bw_of 693 (by decide +kernel) (by decide +kernel)
theorem ac_long : Cond.arrayClass .long ∈ bw := bw_of 769 (by decide +kernel) (by decide +kernel)
theorem ml_Lw_71 : Cond.methodLink R_Lw 71 y_Md_thrown ∈ bw := bw_of 770 (by decide +kernel) (by decide +kernel)
theorem im_Md_thrown : Cond.instanceMethod y_Md_thrown ∈ bw := bw_of 771 (by decide +kernel) (by decide +kernel)
theorem se_Md_thrown : Cond.selects R_Md y_Md_thrown y_Md_thrown ∈ bw := bw_of 772 (by decide +kernel) (by decide +kernel)
theorem co_Md_thrown : Cond.code y_Md_thrown b_Md_thrown 1 (some .int) ∈ bw := bw_of 773 (by decide +kernel) (by decide +kernel)
theorem ml_Lw_60 : Cond.methodLink R_Lw 60 y_Md_memory ∈ bw := bw_of 774 (by decide +kernel) (by decide +kernel)
theorem im_Md_memory : Cond.instanceMethod y_Md_memory ∈ bw := bw_of 775 (by decide +kernel) (by decide +kernel)
theorem se_Md_memory : Cond.selects R_Md y_Md_memory y_Md_memory ∈ bw := bw_of 776 (by decide +kernel) (by decide +kernel)
theorem co_Md_memory : Cond.code y_Md_memory b_Md_memory 3 (some .int) ∈ bw := bw_of 777 (by decide +kernel) (by decide +kernel)
theorem k_Md_118 : Cond.constant R_Md 118 65536 ∈ bw := bw_of 778 (by decide +kernel) (by decide +kernel)
theorem ml_Lw_64 : Cond.methodLink R_Lw 64 y_Md_grow ∈ bw := bw_of 779 (by decide +kernel) (by decide +kernel)
theorem im_Md_grow : Cond.instanceMethod y_Md_grow ∈ bw := bw_of 780 (by decide +kernel) (by decide +kernel)
theorem se_Md_grow : Cond.selects R_Md y_Md_grow y_Md_grow ∈ bw := bw_of 781 (by decide +kernel) (by decide +kernel)
theorem co_Md_grow : Cond.code y_Md_grow b_Md_grow 4 (some .int) ∈ bw := bw_of 782 (by decide +kernel) (by decide +kernel)
theorem ml_Md_119 : Cond.methodLink R_Md 119 y_Md_isMemory ∈ bw := bw_of 783 (by decide +kernel) (by decide +kernel)
theorem im_Md_isMemory : Cond.instanceMethod y_Md_isMemory ∈ bw := bw_of 785 (by decide +kernel) (by decide +kernel)
theorem co_Md_isMemory : Cond.code y_Md_isMemory b_Md_isMemory 2 (some .boolean) ∈ bw := bw_of 786 (by decide +kernel) (by decide +kernel)
theorem ml_Md_123 : Cond.methodLink R_Md 123 y_Md_wide ∈ bw := bw_of 787 (by decide +kernel) (by decide +kernel)
theorem sm_Md_wide : Cond.static y_Md_wide ∈ bw := bw_of 788 (by decide +kernel) (by decide +kernel)
theorem co_Md_wide : Cond.code y_Md_wide b_Md_wide 1 (some .long) ∈ bw := bw_of 789 (by decide +kernel) (by decide +kernel)
theorem k_Md_97 : Cond.constantLong R_Md 97 4294967295 ∈ bw := bw_of 790 (by decide +kernel) (by decide +kernel)
theorem ml_Lw_70 : Cond.methodLink R_Lw 70 y_Md_load ∈ bw := bw_of 791 (by decide +kernel) (by decide +kernel)
theorem im_Md_load : Cond.instanceMethod y_Md_load ∈ bw := bw_of 792 (by decide +kernel) (by decide +kernel)
theorem se_Md_load : Cond.selects R_Md y_Md_load y_Md_load ∈ bw := bw_of 793 (by decide +kernel) (by decide +kernel)
theorem co_Md_load : Cond.code y_Md_load b_Md_load 12 (some .long) ∈ bw := bw_of 794 (by decide +kernel) (by decide +kernel)
theorem ml_Md_127 : Cond.methodLink R_Md 127 y_Md_loads ∈ bw := bw_of 795 (by decide +kernel) (by decide +kernel)
theorem sm_Md_loads : Cond.static y_Md_loads ∈ bw := bw_of 796 (by decide +kernel) (by decide +kernel)
theorem co_Md_loads : Cond.code y_Md_loads b_Md_loads 1 (some .int) ∈ bw := bw_of 797 (by decide +kernel) (by decide +kernel)
theorem ml_Md_131 : Cond.methodLink R_Md 131 y_Md_begin ∈ bw := bw_of 798 (by decide +kernel) (by decide +kernel)
theorem im_Md_begin : Cond.instanceMethod y_Md_begin ∈ bw := bw_of 800 (by decide +kernel) (by decide +kernel)
theorem co_Md_begin : Cond.code y_Md_begin b_Md_begin 2 (some .boolean) ∈ bw := bw_of 801 (by decide +kernel) (by decide +kernel)
theorem ml_Md_135 : Cond.methodLink R_Md 135 y_Md_all ∈ bw := bw_of 802 (by decide +kernel) (by decide +kernel)
theorem im_Md_all : Cond.instanceMethod y_Md_all ∈ bw := bw_of 804 (by decide +kernel) (by decide +kernel)
theorem co_Md_all : Cond.code y_Md_all b_Md_all 2 (some .long) ∈ bw := bw_of 805 (by decide +kernel) (by decide +kernel)
theorem k_Md_108 : Cond.constantLong R_Md 108 256 ∈ bw := bw_of 806 (by decide +kernel) (by decide +kernel)
theorem ml_Md_138 : Cond.methodLink R_Md 138 y_Md_fits ∈ bw := bw_of 807 (by decide +kernel) (by decide +kernel)
theorem im_Md_fits : Cond.instanceMethod y_Md_fits ∈ bw := bw_of 809 (by decide +kernel) (by decide +kernel)
theorem co_Md_fits : Cond.code y_Md_fits b_Md_fits 9 (some .boolean) ∈ bw := bw_of 810 (by decide +kernel) (by decide +kernel)
theorem ml_Md_142 : Cond.methodLink R_Md 142 y_Md_trapped ∈ bw := bw_of 811 (by decide +kernel) (by decide +kernel)
theorem im_Md_trapped : Cond.instanceMethod y_Md_trapped ∈ bw := bw_of 813 (by decide +kernel) (by decide +kernel)
theorem co_Md_trapped : Cond.code y_Md_trapped b_Md_trapped 1 (some .boolean) ∈ bw := bw_of 814 (by decide +kernel) (by decide +kernel)
theorem ml_Md_146 : Cond.methodLink R_Md 146 y_Md_byteAt ∈ bw := bw_of 815 (by decide +kernel) (by decide +kernel)
theorem im_Md_byteAt : Cond.instanceMethod y_Md_byteAt ∈ bw := bw_of 817 (by decide +kernel) (by decide +kernel)
theorem co_Md_byteAt : Cond.code y_Md_byteAt b_Md_byteAt 6 (some .int) ∈ bw := bw_of 818 (by decide +kernel) (by decide +kernel)
theorem k_Md_116 : Cond.constantLong R_Md 116 255 ∈ bw := bw_of 819 (by decide +kernel) (by decide +kernel)
theorem ml_Lw_80 : Cond.methodLink R_Lw 80 y_Md_store ∈ bw := bw_of 820 (by decide +kernel) (by decide +kernel)
theorem im_Md_store : Cond.instanceMethod y_Md_store ∈ bw := bw_of 821 (by decide +kernel) (by decide +kernel)
theorem se_Md_store : Cond.selects R_Md y_Md_store y_Md_store ∈ bw := bw_of 822 (by decide +kernel) (by decide +kernel)
theorem co_Md_store : Cond.code y_Md_store b_Md_store 10 none ∈ bw := bw_of 823 (by decide +kernel) (by decide +kernel)
theorem ml_Md_150 : Cond.methodLink R_Md 150 y_Md_stores ∈ bw := bw_of 824 (by decide +kernel) (by decide +kernel)
theorem sm_Md_stores : Cond.static y_Md_stores ∈ bw := bw_of 825 (by decide +kernel) (by decide +kernel)
theorem co_Md_stores : Cond.code y_Md_stores b_Md_stores 1 (some .int) ∈ bw := bw_of 826 (by decide +kernel) (by decide +kernel)
theorem ml_Md_153 : Cond.methodLink R_Md 153 y_Md_write ∈ bw := bw_of 827 (by decide +kernel) (by decide +kernel)
theorem im_Md_write : Cond.instanceMethod y_Md_write ∈ bw := bw_of 829 (by decide +kernel) (by decide +kernel)
theorem co_Md_write : Cond.code y_Md_write b_Md_write 10 none ∈ bw := bw_of 830 (by decide +kernel) (by decide +kernel)
theorem ml_Lw_84 : Cond.methodLink R_Lw 84 y_Md_fill ∈ bw := bw_of 831 (by decide +kernel) (by decide +kernel)
theorem im_Md_fill : Cond.instanceMethod y_Md_fill ∈ bw := bw_of 832 (by decide +kernel) (by decide +kernel)
theorem se_Md_fill : Cond.selects R_Md y_Md_fill y_Md_fill ∈ bw := bw_of 833 (by decide +kernel) (by decide +kernel)
theorem co_Md_fill : Cond.code y_Md_fill b_Md_fill 5 none ∈ bw := bw_of 834 (by decide +kernel) (by decide +kernel)
theorem ml_Lw_87 : Cond.methodLink R_Lw 87 y_Md_copy ∈ bw := bw_of 835 (by decide +kernel) (by decide +kernel)
theorem im_Md_copy : Cond.instanceMethod y_Md_copy ∈ bw := bw_of 836 (by decide +kernel) (by decide +kernel)
theorem se_Md_copy : Cond.selects R_Md y_Md_copy y_Md_copy ∈ bw := bw_of 837 (by decide +kernel) (by decide +kernel)
theorem co_Md_copy : Cond.code y_Md_copy b_Md_copy 5 none ∈ bw := bw_of 838 (by decide +kernel) (by decide +kernel)
theorem ml_Lw_91 : Cond.methodLink R_Lw 91 y_Md_init ∈ bw := bw_of 839 (by decide +kernel) (by decide +kernel)
theorem im_Md_init : Cond.instanceMethod y_Md_init ∈ bw := bw_of 840 (by decide +kernel) (by decide +kernel)
theorem se_Md_init : Cond.selects R_Md y_Md_init y_Md_init ∈ bw := bw_of 841 (by decide +kernel) (by decide +kernel)
theorem co_Md_init : Cond.code y_Md_init b_Md_init 6 none ∈ bw := bw_of 842 (by decide +kernel) (by decide +kernel)
theorem ml_Lw_96 : Cond.methodLink R_Lw 96 y_Md_data ∈ bw := bw_of 843 (by decide +kernel) (by decide +kernel)
theorem im_Md_data : Cond.instanceMethod y_Md_data ∈ bw := bw_of 844 (by decide +kernel) (by decide +kernel)
theorem se_Md_data : Cond.selects R_Md y_Md_data y_Md_data ∈ bw := bw_of 845 (by decide +kernel) (by decide +kernel)
theorem co_Md_data : Cond.code y_Md_data b_Md_data 7 (some .int) ∈ bw := bw_of 846 (by decide +kernel) (by decide +kernel)
theorem ml_Lw_131 : Cond.methodLink R_Lw 131 y_Md_element ∈ bw := bw_of 847 (by decide +kernel) (by decide +kernel)
theorem im_Md_element : Cond.instanceMethod y_Md_element ∈ bw := bw_of 848 (by decide +kernel) (by decide +kernel)
theorem se_Md_element : Cond.selects R_Md y_Md_element y_Md_element ∈ bw := bw_of 849 (by decide +kernel) (by decide +kernel)
theorem co_Md_element : Cond.code y_Md_element b_Md_element 4 (some .int) ∈ bw := bw_of 850 (by decide +kernel) (by decide +kernel)
theorem ml_Lw_100 : Cond.methodLink R_Lw 100 y_Md_drop ∈ bw := bw_of 851 (by decide +kernel) (by decide +kernel)
theorem im_Md_drop : Cond.instanceMethod y_Md_drop ∈ bw := bw_of 852 (by decide +kernel) (by decide +kernel)
theorem se_Md_drop : Cond.selects R_Md y_Md_drop y_Md_drop ∈ bw := bw_of 853 (by decide +kernel) (by decide +kernel)
theorem co_Md_drop : Cond.code y_Md_drop b_Md_drop 4 none ∈ bw := bw_of 854 (by decide +kernel) (by decide +kernel)
theorem ml_Lw_105 : Cond.methodLink R_Lw 105 y_Md_table ∈ bw := bw_of 855 (by decide +kernel) (by decide +kernel)
theorem im_Md_table : Cond.instanceMethod y_Md_table ∈ bw := bw_of 856 (by decide +kernel) (by decide +kernel)
theorem se_Md_table : Cond.selects R_Md y_Md_table y_Md_table ∈ bw := bw_of 857 (by decide +kernel) (by decide +kernel)
theorem co_Md_table : Cond.code y_Md_table b_Md_table 4 (some .int) ∈ bw := bw_of 858 (by decide +kernel) (by decide +kernel)
theorem ml_Lw_109 : Cond.methodLink R_Lw 109 y_Md_get ∈ bw := bw_of 859 (by decide +kernel) (by decide +kernel)
theorem im_Md_get : Cond.instanceMethod y_Md_get ∈ bw := bw_of 860 (by decide +kernel) (by decide +kernel)
theorem se_Md_get : Cond.selects R_Md y_Md_get y_Md_get ∈ bw := bw_of 861 (by decide +kernel) (by decide +kernel)
theorem co_Md_get : Cond.code y_Md_get b_Md_get 3 (some .int) ∈ bw := bw_of 862 (by decide +kernel) (by decide +kernel)
theorem ml_Md_169 : Cond.methodLink R_Md 169 y_Md_isTable ∈ bw := bw_of 863 (by decide +kernel) (by decide +kernel)
theorem im_Md_isTable : Cond.instanceMethod y_Md_isTable ∈ bw := bw_of 865 (by decide +kernel) (by decide +kernel)
theorem co_Md_isTable : Cond.code y_Md_isTable b_Md_isTable 2 (some .boolean) ∈ bw := bw_of 866 (by decide +kernel) (by decide +kernel)
theorem ml_Md_172 : Cond.methodLink R_Md 172 y_Md_entryAt ∈ bw := bw_of 867 (by decide +kernel) (by decide +kernel)
theorem im_Md_entryAt : Cond.instanceMethod y_Md_entryAt ∈ bw := bw_of 869 (by decide +kernel) (by decide +kernel)
theorem co_Md_entryAt : Cond.code y_Md_entryAt b_Md_entryAt 7 (some .int) ∈ bw := bw_of 870 (by decide +kernel) (by decide +kernel)
theorem ml_Lw_113 : Cond.methodLink R_Lw 113 y_Md_set ∈ bw := bw_of 871 (by decide +kernel) (by decide +kernel)
theorem im_Md_set : Cond.instanceMethod y_Md_set ∈ bw := bw_of 872 (by decide +kernel) (by decide +kernel)
theorem se_Md_set : Cond.selects R_Md y_Md_set y_Md_set ∈ bw := bw_of 873 (by decide +kernel) (by decide +kernel)
theorem co_Md_set : Cond.code y_Md_set b_Md_set 4 none ∈ bw := bw_of 874 (by decide +kernel) (by decide +kernel)
theorem ml_Md_175 : Cond.methodLink R_Md 175 y_Md_change ∈ bw := bw_of 875 (by decide +kernel) (by decide +kernel)
theorem im_Md_change : Cond.instanceMethod y_Md_change ∈ bw := bw_of 877 (by decide +kernel) (by decide +kernel)
theorem co_Md_change : Cond.code y_Md_change b_Md_change 9 none ∈ bw := bw_of 878 (by decide +kernel) (by decide +kernel)
theorem ml_Lw_117 : Cond.methodLink R_Lw 117 y_Md_growTable ∈ bw := bw_of 879 (by decide +kernel) (by decide +kernel)
theorem im_Md_growTable : Cond.instanceMethod y_Md_growTable ∈ bw := bw_of 880 (by decide +kernel) (by decide +kernel)
theorem se_Md_growTable : Cond.selects R_Md y_Md_growTable y_Md_growTable ∈ bw := bw_of 881 (by decide +kernel) (by decide +kernel)
theorem co_Md_growTable : Cond.code y_Md_growTable b_Md_growTable 5 (some .int) ∈ bw := bw_of 882 (by decide +kernel) (by decide +kernel)
theorem ml_Lw_120 : Cond.methodLink R_Lw 120 y_Md_fillTable ∈ bw := bw_of 883 (by decide +kernel) (by decide +kernel)
theorem im_Md_fillTable : Cond.instanceMethod y_Md_fillTable ∈ bw := bw_of 884 (by decide +kernel) (by decide +kernel)
theorem se_Md_fillTable : Cond.selects R_Md y_Md_fillTable y_Md_fillTable ∈ bw := bw_of 885 (by decide +kernel) (by decide +kernel)
theorem co_Md_fillTable : Cond.code y_Md_fillTable b_Md_fillTable 5 none ∈ bw := bw_of 886 (by decide +kernel) (by decide +kernel)
theorem ml_Lw_123 : Cond.methodLink R_Lw 123 y_Md_copyTable ∈ bw := bw_of 887 (by decide +kernel) (by decide +kernel)
theorem im_Md_copyTable : Cond.instanceMethod y_Md_copyTable ∈ bw := bw_of 888 (by decide +kernel) (by decide +kernel)
theorem se_Md_copyTable : Cond.selects R_Md y_Md_copyTable y_Md_copyTable ∈ bw := bw_of 889 (by decide +kernel) (by decide +kernel)
theorem co_Md_copyTable : Cond.code y_Md_copyTable b_Md_copyTable 6 none ∈ bw := bw_of 890 (by decide +kernel) (by decide +kernel)
theorem ml_Lw_126 : Cond.methodLink R_Lw 126 y_Md_initTable ∈ bw := bw_of 891 (by decide +kernel) (by decide +kernel)
theorem im_Md_initTable : Cond.instanceMethod y_Md_initTable ∈ bw := bw_of 892 (by decide +kernel) (by decide +kernel)
theorem se_Md_initTable : Cond.selects R_Md y_Md_initTable y_Md_initTable ∈ bw := bw_of 893 (by decide +kernel) (by decide +kernel)
theorem co_Md_initTable : Cond.code y_Md_initTable b_Md_initTable 6 none ∈ bw := bw_of 894 (by decide +kernel) (by decide +kernel)
theorem ml_Lw_135 : Cond.methodLink R_Lw 135 y_Md_trap ∈ bw := bw_of 895 (by decide +kernel) (by decide +kernel)
theorem im_Md_trap : Cond.instanceMethod y_Md_trap ∈ bw := bw_of 896 (by decide +kernel) (by decide +kernel)
theorem se_Md_trap : Cond.selects R_Md y_Md_trap y_Md_trap ∈ bw := bw_of 897 (by decide +kernel) (by decide +kernel)
theorem co_Md_trap : Cond.code y_Md_trap b_Md_trap 1 (some .int) ∈ bw := bw_of 898 (by decide +kernel) (by decide +kernel)
theorem ml_Lw_139 : Cond.methodLink R_Lw 139 y_Md_size ∈ bw := bw_of 899 (by decide +kernel) (by decide +kernel)
theorem im_Md_size : Cond.instanceMethod y_Md_size ∈ bw := bw_of 900 (by decide +kernel) (by decide +kernel)
theorem se_Md_size : Cond.selects R_Md y_Md_size y_Md_size ∈ bw := bw_of 901 (by decide +kernel) (by decide +kernel)
theorem co_Md_size : Cond.code y_Md_size b_Md_size 3 (some .int) ∈ bw := bw_of 902 (by decide +kernel) (by decide +kernel)
theorem k_Lw_75 : Cond.constantLong R_Lw 75 4294967295 ∈ bw := bw_of 903 (by decide +kernel) (by decide +kernel)
theorem se_Pm_pagesLeft : Cond.selects R_Pm y_Pm_pagesLeft y_Pm_pagesLeft ∈ bw := bw_of 0 (by decide +kernel) (by decide +kernel)
theorem se_Pm_pagesOf : Cond.selects R_Pm y_Pm_pagesOf y_Pm_pagesOf ∈ bw := bw_of 1 (by decide +kernel) (by decide +kernel)
theorem se_Pm_placeOf : Cond.selects R_Pm y_Pm_placeOf y_Pm_placeOf ∈ bw := bw_of 3 (by decide +kernel) (by decide +kernel)
theorem se_Md_isMemory : Cond.selects R_Md y_Md_isMemory y_Md_isMemory ∈ bw := bw_of 4 (by decide +kernel) (by decide +kernel)
theorem se_Md_begin : Cond.selects R_Md y_Md_begin y_Md_begin ∈ bw := bw_of 5 (by decide +kernel) (by decide +kernel)
theorem se_Md_all : Cond.selects R_Md y_Md_all y_Md_all ∈ bw := bw_of 6 (by decide +kernel) (by decide +kernel)
theorem se_Md_fits : Cond.selects R_Md y_Md_fits y_Md_fits ∈ bw := bw_of 7 (by decide +kernel) (by decide +kernel)
theorem se_Md_trapped : Cond.selects R_Md y_Md_trapped y_Md_trapped ∈ bw := bw_of 8 (by decide +kernel) (by decide +kernel)
theorem se_Md_byteAt : Cond.selects R_Md y_Md_byteAt y_Md_byteAt ∈ bw := bw_of 9 (by decide +kernel) (by decide +kernel)
theorem se_Md_write : Cond.selects R_Md y_Md_write y_Md_write ∈ bw := bw_of 10 (by decide +kernel) (by decide +kernel)
theorem se_Md_isTable : Cond.selects R_Md y_Md_isTable y_Md_isTable ∈ bw := bw_of 11 (by decide +kernel) (by decide +kernel)
theorem se_Md_entryAt : Cond.selects R_Md y_Md_entryAt y_Md_entryAt ∈ bw := bw_of 12 (by decide +kernel) (by decide +kernel)
theorem se_Md_change : Cond.selects R_Md y_Md_change y_Md_change ∈ bw := bw_of 13 (by decide +kernel) (by decide +kernel)
end
section
theorem d_Ly_new_0 : decode b_Ly_new 0 = .ok (.aload_n 0, 1) := by decide +kernel
theorem d_Ly_new_1 : decode b_Ly_new 1 = .ok (.invokespecial 3, 3) := by decide +kernel
theorem d_Ly_new_4 : decode b_Ly_new 4 = .ok (.aload_n 0, 1) := by decide +kernel
theorem d_Ly_new_5 : decode b_Ly_new 5 = .ok (.iload_n 2, 1) := by decide +kernel
theorem d_Ly_new_6 : decode b_Ly_new 6 = .ok (.putfield 9, 3) := by decide +kernel
theorem d_Ly_new_9 : decode b_Ly_new 9 = .ok (.aload_n 0, 1) := by decide +kernel
theorem d_Ly_new_10 : decode b_Ly_new 10 = .ok (.iload_n 1, 1) := by decide +kernel
theorem d_Ly_new_11 : decode b_Ly_new 11 = .ok (.newarray .int, 2) := by decide +kernel
theorem d_Ly_new_13 : decode b_Ly_new 13 = .ok (.putfield 15, 3) := by decide +kernel
theorem d_Ly_new_16 : decode b_Ly_new 16 = .ok (.aload_n 0, 1) := by decide +kernel
theorem d_Ly_new_17 : decode b_Ly_new 17 = .ok (.iload_n 1, 1) := by decide +kernel
theorem d_Ly_new_18 : decode b_Ly_new 18 = .ok (.newarray .int, 2) := by decide +kernel
theorem d_Ly_new_20 : decode b_Ly_new 20 = .ok (.putfield 19, 3) := by decide +kernel
theorem d_Ly_new_23 : decode b_Ly_new 23 = .ok (.aload_n 0, 1) := by decide +kernel
theorem d_Ly_new_24 : decode b_Ly_new 24 = .ok (.iload_n 1, 1) := by decide +kernel
theorem d_Ly_new_25 : decode b_Ly_new 25 = .ok (.newarray .boolean, 2) := by decide +kernel
theorem d_Ly_new_27 : decode b_Ly_new 27 = .ok (.putfield 22, 3) := by decide +kernel
theorem d_Ly_new_30 : decode b_Ly_new 30 = .ok (.aload_n 0, 1) := by decide +kernel
theorem d_Ly_new_31 : decode b_Ly_new 31 = .ok (.iconst 0, 1) := by decide +kernel
theorem d_Ly_new_32 : decode b_Ly_new 32 = .ok (.putfield 26, 3) := by decide +kernel
theorem d_Ly_new_35 : decode b_Ly_new 35 = .ok (.aload_n 0, 1) := by decide +kernel
theorem d_Ly_new_36 : decode b_Ly_new 36 = .ok (.iconst 0, 1) := by decide +kernel
theorem d_Ly_new_37 : decode b_Ly_new 37 = .ok (.putfield 29, 3) := by decide +kernel
theorem d_Ly_new_40 : decode b_Ly_new 40 = .ok (.return_, 1) := by decide +kernel
theorem d_Ly_isFull_0 : decode b_Ly_isFull 0 = .ok (.aload_n 0, 1) := by decide +kernel
theorem d_Ly_isFull_1 : decode b_Ly_isFull 1 = .ok (.getfield 26, 3) := by decide +kernel
theorem d_Ly_isFull_4 : decode b_Ly_isFull 4 = .ok (.aload_n 0, 1) := by decide +kernel
theorem d_Ly_isFull_5 : decode b_Ly_isFull 5 = .ok (.getfield 15, 3) := by decide +kernel
theorem d_Ly_isFull_8 : decode b_Ly_isFull 8 = .ok (.arraylength, 1) := by decide +kernel
theorem d_Ly_isFull_9 : decode b_Ly_isFull 9 = .ok (.if_icmp .lt 7, 3) := by decide +kernel
theorem d_Ly_isFull_12 : decode b_Ly_isFull 12 = .ok (.iconst 1, 1) := by decide +kernel
theorem d_Ly_isFull_13 : decode b_Ly_isFull 13 = .ok (.goto 4, 3) := by decide +kernel
theorem d_Ly_isFull_16 : decode b_Ly_isFull 16 = .ok (.iconst 0, 1) := by decide +kernel
theorem d_Ly_isFull_17 : decode b_Ly_isFull 17 = .ok (.ireturn, 1) := by decide +kernel
theorem d_Ly_left_0 : decode b_Ly_left 0 = .ok (.aload_n 0, 1) := by decide +kernel
theorem d_Ly_left_1 : decode b_Ly_left 1 = .ok (.getfield 9, 3) := by decide +kernel
theorem d_Ly_left_4 : decode b_Ly_left 4 = .ok (.aload_n 0, 1) := by decide +kernel
theorem d_Ly_left_5 : decode b_Ly_left 5 = .ok (.getfield 29, 3) := by decide +kernel
theorem d_Ly_left_8 : decode b_Ly_left 8 = .ok (.isub, 1) := by decide +kernel
theorem d_Ly_left_9 : decode b_Ly_left 9 = .ok (.ireturn, 1) := by decide +kernel
theorem d_Ly_append_0 : decode b_Ly_append 0 = .ok (.aload_n 0, 1) := by decide +kernel
theorem d_Ly_append_1 : decode b_Ly_append 1 = .ok (.invokevirtual 36, 3) := by decide +kernel
theorem d_Ly_append_4 : decode b_Ly_append 4 = .ok (.ifCond .eq 5, 3) := by decide +kernel
theorem d_Ly_append_7 : decode b_Ly_append 7 = .ok (.iconst (-1), 1) := by decide +kernel
theorem d_Ly_append_8 : decode b_Ly_append 8 = .ok (.ireturn, 1) := by decide +kernel
theorem d_Ly_append_9 : decode b_Ly_append 9 = .ok (.aload_n 0, 1) := by decide +kernel
theorem d_Ly_append_10 : decode b_Ly_append 10 = .ok (.getfield 15, 3) := by decide +kernel
theorem d_Ly_append_13 : decode b_Ly_append 13 = .ok (.aload_n 0, 1) := by decide +kernel
theorem d_Ly_append_14 : decode b_Ly_append 14 = .ok (.getfield 26, 3) := by decide +kernel
theorem d_Ly_append_17 : decode b_Ly_append 17 = .ok (.aload_n 0, 1) := by decide +kernel
theorem d_Ly_append_18 : decode b_Ly_append 18 = .ok (.getfield 29, 3) := by decide +kernel
theorem d_Ly_append_21 : decode b_Ly_append 21 = .ok (.iastore, 1) := by decide +kernel
theorem d_Ly_append_22 : decode b_Ly_append 22 = .ok (.aload_n 0, 1) := by decide +kernel
theorem d_Ly_append_23 : decode b_Ly_append 23 = .ok (.getfield 19, 3) := by decide +kernel
theorem d_Ly_append_26 : decode b_Ly_append 26 = .ok (.aload_n 0, 1) := by decide +kernel
theorem d_Ly_append_27 : decode b_Ly_append 27 = .ok (.getfield 26, 3) := by decide +kernel
theorem d_Ly_append_30 : decode b_Ly_append 30 = .ok (.iload_n 1, 1) := by decide +kernel
theorem d_Ly_append_31 : decode b_Ly_append 31 = .ok (.iastore, 1) := by decide +kernel
theorem d_Ly_append_32 : decode b_Ly_append 32 = .ok (.aload_n 0, 1) := by decide +kernel
theorem d_Ly_append_33 : decode b_Ly_append 33 = .ok (.dup, 1) := by decide +kernel
theorem d_Ly_append_34 : decode b_Ly_append 34 = .ok (.getfield 29, 3) := by decide +kernel
theorem d_Ly_append_37 : decode b_Ly_append 37 = .ok (.iload_n 1, 1) := by decide +kernel
theorem d_Ly_append_38 : decode b_Ly_append 38 = .ok (.iadd, 1) := by decide +kernel
theorem d_Ly_append_39 : decode b_Ly_append 39 = .ok (.putfield 29, 3) := by decide +kernel
theorem d_Ly_append_42 : decode b_Ly_append 42 = .ok (.aload_n 0, 1) := by decide +kernel
theorem d_Ly_append_43 : decode b_Ly_append 43 = .ok (.dup, 1) := by decide +kernel
theorem d_Ly_append_44 : decode b_Ly_append 44 = .ok (.getfield 26, 3) := by decide +kernel
theorem d_Ly_append_47 : decode b_Ly_append 47 = .ok (.iconst 1, 1) := by decide +kernel
theorem d_Ly_append_48 : decode b_Ly_append 48 = .ok (.iadd, 1) := by decide +kernel
theorem d_Ly_append_49 : decode b_Ly_append 49 = .ok (.putfield 26, 3) := by decide +kernel
theorem d_Ly_append_52 : decode b_Ly_append 52 = .ok (.aload_n 0, 1) := by decide +kernel
theorem d_Ly_append_53 : decode b_Ly_append 53 = .ok (.getfield 26, 3) := by decide +kernel
theorem d_Ly_append_56 : decode b_Ly_append 56 = .ok (.iconst 1, 1) := by decide +kernel
theorem d_Ly_append_57 : decode b_Ly_append 57 = .ok (.isub, 1) := by decide +kernel
theorem d_Ly_append_58 : decode b_Ly_append 58 = .ok (.ireturn, 1) := by decide +kernel
theorem d_Ly_has_0 : decode b_Ly_has 0 = .ok (.iload_n 1, 1) := by decide +kernel
theorem d_Ly_has_1 : decode b_Ly_has 1 = .ok (.ifCond .lt 15, 3) := by decide +kernel
theorem d_Ly_has_4 : decode b_Ly_has 4 = .ok (.iload_n 1, 1) := by decide +kernel
theorem d_Ly_has_5 : decode b_Ly_has 5 = .ok (.aload_n 0, 1) := by decide +kernel
theorem d_Ly_has_6 : decode b_Ly_has 6 = .ok (.getfield 26, 3) := by decide +kernel
theorem d_Ly_has_9 : decode b_Ly_has 9 = .ok (.if_icmp .ge 7, 3) := by decide +kernel
theorem d_Ly_has_12 : decode b_Ly_has 12 = .ok (.iconst 1, 1) := by decide +kernel
theorem d_Ly_has_13 : decode b_Ly_has 13 = .ok (.goto 4, 3) := by decide +kernel
theorem d_Ly_has_16 : decode b_Ly_has 16 = .ok (.iconst 0, 1) := by decide +kernel
theorem d_Ly_has_17 : decode b_Ly_has 17 = .ok (.ireturn, 1) := by decide +kernel
theorem d_Ly_lengthOf_0 : decode b_Ly_lengthOf 0 = .ok (.aload_n 0, 1) := by decide +kernel
theorem d_Ly_lengthOf_1 : decode b_Ly_lengthOf 1 = .ok (.iload_n 1, 1) := by decide +kernel
theorem d_Ly_lengthOf_2 : decode b_Ly_lengthOf 2 = .ok (.invokevirtual 32, 3) := by decide +kernel
theorem d_Ly_lengthOf_5 : decode b_Ly_lengthOf 5 = .ok (.ifCond .eq 12, 3) := by decide +kernel
theorem d_Ly_lengthOf_8 : decode b_Ly_lengthOf 8 = .ok (.aload_n 0, 1) := by decide +kernel
theorem d_Ly_lengthOf_9 : decode b_Ly_lengthOf 9 = .ok (.getfield 19, 3) := by decide +kernel
theorem d_Ly_lengthOf_12 : decode b_Ly_lengthOf 12 = .ok (.iload_n 1, 1) := by decide +kernel
theorem d_Ly_lengthOf_13 : decode b_Ly_lengthOf 13 = .ok (.iaload, 1) := by decide +kernel
theorem d_Ly_lengthOf_14 : decode b_Ly_lengthOf 14 = .ok (.goto 4, 3) := by decide +kernel
theorem d_Ly_lengthOf_17 : decode b_Ly_lengthOf 17 = .ok (.iconst (-1), 1) := by decide +kernel
theorem d_Ly_lengthOf_18 : decode b_Ly_lengthOf 18 = .ok (.ireturn, 1) := by decide +kernel
theorem d_Ly_endOf_0 : decode b_Ly_endOf 0 = .ok (.aload_n 0, 1) := by decide +kernel
theorem d_Ly_endOf_1 : decode b_Ly_endOf 1 = .ok (.iload_n 1, 1) := by decide +kernel
theorem d_Ly_endOf_2 : decode b_Ly_endOf 2 = .ok (.invokevirtual 32, 3) := by decide +kernel
theorem d_Ly_endOf_5 : decode b_Ly_endOf 5 = .ok (.ifCond .eq 19, 3) := by decide +kernel
theorem d_Ly_endOf_8 : decode b_Ly_endOf 8 = .ok (.aload_n 0, 1) := by decide +kernel
theorem d_Ly_endOf_9 : decode b_Ly_endOf 9 = .ok (.getfield 15, 3) := by decide +kernel
theorem d_Ly_endOf_12 : decode b_Ly_endOf 12 = .ok (.iload_n 1, 1) := by decide +kernel
theorem d_Ly_endOf_13 : decode b_Ly_endOf 13 = .ok (.iaload, 1) := by decide +kernel
theorem d_Ly_endOf_14 : decode b_Ly_endOf 14 = .ok (.aload_n 0, 1) := by decide +kernel
theorem d_Ly_endOf_15 : decode b_Ly_endOf 15 = .ok (.getfield 19, 3) := by decide +kernel
theorem d_Ly_endOf_18 : decode b_Ly_endOf 18 = .ok (.iload_n 1, 1) := by decide +kernel
theorem d_Ly_endOf_19 : decode b_Ly_endOf 19 = .ok (.iaload, 1) := by decide +kernel
theorem d_Ly_endOf_20 : decode b_Ly_endOf 20 = .ok (.iadd, 1) := by decide +kernel
theorem d_Ly_endOf_21 : decode b_Ly_endOf 21 = .ok (.goto 7, 3) := by decide +kernel
theorem d_Ly_endOf_24 : decode b_Ly_endOf 24 = .ok (.aload_n 0, 1) := by decide +kernel
theorem d_Ly_endOf_25 : decode b_Ly_endOf 25 = .ok (.getfield 29, 3) := by decide +kernel
theorem d_Ly_endOf_28 : decode b_Ly_endOf 28 = .ok (.ireturn, 1) := by decide +kernel
theorem d_Ly_used_0 : decode b_Ly_used 0 = .ok (.aload_n 0, 1) := by decide +kernel
theorem d_Ly_used_1 : decode b_Ly_used 1 = .ok (.getfield 29, 3) := by decide +kernel
theorem d_Ly_used_4 : decode b_Ly_used 4 = .ok (.ireturn, 1) := by decide +kernel
theorem d_Ly_widen_0 : decode b_Ly_widen 0 = .ok (.aload_n 0, 1) := by decide +kernel
theorem d_Ly_widen_1 : decode b_Ly_widen 1 = .ok (.iload_n 1, 1) := by decide +kernel
theorem d_Ly_widen_2 : decode b_Ly_widen 2 = .ok (.invokevirtual 32, 3) := by decide +kernel
theorem d_Ly_widen_5 : decode b_Ly_widen 5 = .ok (.ifCond .ne 4, 3) := by decide +kernel
theorem d_Ly_widen_8 : decode b_Ly_widen 8 = .ok (.return_, 1) := by decide +kernel
theorem d_Ly_widen_9 : decode b_Ly_widen 9 = .ok (.aload_n 0, 1) := by decide +kernel
theorem d_Ly_widen_10 : decode b_Ly_widen 10 = .ok (.getfield 19, 3) := by decide +kernel
theorem d_Ly_widen_13 : decode b_Ly_widen 13 = .ok (.iload_n 1, 1) := by decide +kernel
theorem d_Ly_widen_14 : decode b_Ly_widen 14 = .ok (.dup2, 1) := by decide +kernel
theorem d_Ly_widen_15 : decode b_Ly_widen 15 = .ok (.iaload, 1) := by decide +kernel
theorem d_Ly_widen_16 : decode b_Ly_widen 16 = .ok (.iload_n 2, 1) := by decide +kernel
theorem d_Ly_widen_17 : decode b_Ly_widen 17 = .ok (.iadd, 1) := by decide +kernel
theorem d_Ly_widen_18 : decode b_Ly_widen 18 = .ok (.iastore, 1) := by decide +kernel
theorem d_Ly_widen_19 : decode b_Ly_widen 19 = .ok (.iload_n 1, 1) := by decide +kernel
theorem d_Ly_widen_20 : decode b_Ly_widen 20 = .ok (.iconst 1, 1) := by decide +kernel
theorem d_Ly_widen_21 : decode b_Ly_widen 21 = .ok (.iadd, 1) := by decide +kernel
theorem d_Ly_widen_22 : decode b_Ly_widen 22 = .ok (.istore_n 3, 1) := by decide +kernel
theorem d_Ly_widen_23 : decode b_Ly_widen 23 = .ok (.iload_n 3, 1) := by decide +kernel
theorem d_Ly_widen_24 : decode b_Ly_widen 24 = .ok (.aload_n 0, 1) := by decide +kernel
theorem d_Ly_widen_25 : decode b_Ly_widen 25 = .ok (.getfield 26, 3) := by decide +kernel
theorem d_Ly_widen_28 : decode b_Ly_widen 28 = .ok (.if_icmp .ge 19, 3) := by decide +kernel
theorem d_Ly_widen_31 : decode b_Ly_widen 31 = .ok (.aload_n 0, 1) := by decide +kernel
theorem d_Ly_widen_32 : decode b_Ly_widen 32 = .ok (.getfield 15, 3) := by decide +kernel
theorem d_Ly_widen_35 : decode b_Ly_widen 35 = .ok (.iload_n 3, 1) := by decide +kernel
theorem d_Ly_widen_36 : decode b_Ly_widen 36 = .ok (.dup2, 1) := by decide +kernel
theorem d_Ly_widen_37 : decode b_Ly_widen 37 = .ok (.iaload, 1) := by decide +kernel
theorem d_Ly_widen_38 : decode b_Ly_widen 38 = .ok (.iload_n 2, 1) := by decide +kernel
theorem d_Ly_widen_39 : decode b_Ly_widen 39 = .ok (.iadd, 1) := by decide +kernel
theorem d_Ly_widen_40 : decode b_Ly_widen 40 = .ok (.iastore, 1) := by decide +kernel
theorem d_Ly_widen_41 : decode b_Ly_widen 41 = .ok (.iinc 3 1, 3) := by decide +kernel
theorem d_Ly_widen_44 : decode b_Ly_widen 44 = .ok (.goto (-21), 3) := by decide +kernel
theorem d_Ly_widen_47 : decode b_Ly_widen 47 = .ok (.aload_n 0, 1) := by decide +kernel
theorem d_Ly_widen_48 : decode b_Ly_widen 48 = .ok (.dup, 1) := by decide +kernel
theorem d_Ly_widen_49 : decode b_Ly_widen 49 = .ok (.getfield 29, 3) := by decide +kernel
theorem d_Ly_widen_52 : decode b_Ly_widen 52 = .ok (.iload_n 2, 1) := by decide +kernel
theorem d_Ly_widen_53 : decode b_Ly_widen 53 = .ok (.iadd, 1) := by decide +kernel
theorem d_Ly_widen_54 : decode b_Ly_widen 54 = .ok (.putfield 29, 3) := by decide +kernel
theorem d_Ly_widen_57 : decode b_Ly_widen 57 = .ok (.return_, 1) := by decide +kernel
theorem d_Ly_canTake_0 : decode b_Ly_canTake 0 = .ok (.iload_n 2, 1) := by decide +kernel
theorem d_Ly_canTake_1 : decode b_Ly_canTake 1 = .ok (.ifCond .eq 32, 3) := by decide +kernel
theorem d_Ly_canTake_4 : decode b_Ly_canTake 4 = .ok (.aload_n 0, 1) := by decide +kernel
theorem d_Ly_canTake_5 : decode b_Ly_canTake 5 = .ok (.getfield 26, 3) := by decide +kernel
theorem d_Ly_canTake_8 : decode b_Ly_canTake 8 = .ok (.ifCond .le 21, 3) := by decide +kernel
theorem d_Ly_canTake_11 : decode b_Ly_canTake 11 = .ok (.aload_n 0, 1) := by decide +kernel
theorem d_Ly_canTake_12 : decode b_Ly_canTake 12 = .ok (.getfield 22, 3) := by decide +kernel
theorem d_Ly_canTake_15 : decode b_Ly_canTake 15 = .ok (.aload_n 0, 1) := by decide +kernel
theorem d_Ly_canTake_16 : decode b_Ly_canTake 16 = .ok (.getfield 26, 3) := by decide +kernel
theorem d_Ly_canTake_19 : decode b_Ly_canTake 19 = .ok (.iconst 1, 1) := by decide +kernel
theorem d_Ly_canTake_20 : decode b_Ly_canTake 20 = .ok (.isub, 1) := by decide +kernel
theorem d_Ly_canTake_21 : decode b_Ly_canTake 21 = .ok (.baload, 1) := by decide +kernel
theorem d_Ly_canTake_22 : decode b_Ly_canTake 22 = .ok (.ifCond .ne 7, 3) := by decide +kernel
theorem d_Ly_canTake_25 : decode b_Ly_canTake 25 = .ok (.iconst 1, 1) := by decide +kernel
theorem d_Ly_canTake_26 : decode b_Ly_canTake 26 = .ok (.goto 19, 3) := by decide +kernel
theorem d_Ly_canTake_29 : decode b_Ly_canTake 29 = .ok (.iconst 0, 1) := by decide +kernel
theorem d_Ly_canTake_30 : decode b_Ly_canTake 30 = .ok (.goto 15, 3) := by decide +kernel
theorem d_Ly_canTake_33 : decode b_Ly_canTake 33 = .ok (.aload_n 0, 1) := by decide +kernel
theorem d_Ly_canTake_34 : decode b_Ly_canTake 34 = .ok (.invokevirtual 36, 3) := by decide +kernel
theorem d_Ly_canTake_37 : decode b_Ly_canTake 37 = .ok (.ifCond .ne 7, 3) := by decide +kernel
theorem d_Ly_canTake_40 : decode b_Ly_canTake 40 = .ok (.iconst 1, 1) := by decide +kernel
theorem d_Ly_canTake_41 : decode b_Ly_canTake 41 = .ok (.goto 4, 3) := by decide +kernel
theorem d_Ly_canTake_44 : decode b_Ly_canTake 44 = .ok (.iconst 0, 1) := by decide +kernel
theorem d_Ly_canTake_45 : decode b_Ly_canTake 45 = .ok (.istore_n 3, 1) := by decide +kernel
theorem d_Ly_canTake_46 : decode b_Ly_canTake 46 = .ok (.iload_n 3, 1) := by decide +kernel
theorem d_Ly_canTake_47 : decode b_Ly_canTake 47 = .ok (.ifCond .eq 15, 3) := by decide +kernel
theorem d_Ly_canTake_50 : decode b_Ly_canTake 50 = .ok (.iload_n 1, 1) := by decide +kernel
theorem d_Ly_canTake_51 : decode b_Ly_canTake 51 = .ok (.aload_n 0, 1) := by decide +kernel
theorem d_Ly_canTake_52 : decode b_Ly_canTake 52 = .ok (.invokevirtual 40, 3) := by decide +kernel
theorem d_Ly_canTake_55 : decode b_Ly_canTake 55 = .ok (.if_icmp .gt 7, 3) := by decide +kernel
theorem d_Ly_canTake_58 : decode b_Ly_canTake 58 = .ok (.iconst 1, 1) := by decide +kernel
theorem d_Ly_canTake_59 : decode b_Ly_canTake 59 = .ok (.goto 4, 3) := by decide +kernel
theorem d_Ly_canTake_62 : decode b_Ly_canTake 62 = .ok (.iconst 0, 1) := by decide +kernel
theorem d_Ly_canTake_63 : decode b_Ly_canTake 63 = .ok (.ireturn, 1) := by decide +kernel
theorem d_Ly_take_0 : decode b_Ly_take 0 = .ok (.iload_n 2, 1) := by decide +kernel
theorem d_Ly_take_1 : decode b_Ly_take 1 = .ok (.ifCond .ne 9, 3) := by decide +kernel
theorem d_Ly_take_4 : decode b_Ly_take 4 = .ok (.aload_n 0, 1) := by decide +kernel
theorem d_Ly_take_5 : decode b_Ly_take 5 = .ok (.iload_n 1, 1) := by decide +kernel
theorem d_Ly_take_6 : decode b_Ly_take 6 = .ok (.invokevirtual 44, 3) := by decide +kernel
theorem d_Ly_take_9 : decode b_Ly_take 9 = .ok (.ireturn, 1) := by decide +kernel
theorem d_Ly_take_10 : decode b_Ly_take 10 = .ok (.aload_n 0, 1) := by decide +kernel
theorem d_Ly_take_11 : decode b_Ly_take 11 = .ok (.aload_n 0, 1) := by decide +kernel
theorem d_Ly_take_12 : decode b_Ly_take 12 = .ok (.getfield 26, 3) := by decide +kernel
theorem d_Ly_take_15 : decode b_Ly_take 15 = .ok (.iconst 1, 1) := by decide +kernel
theorem d_Ly_take_16 : decode b_Ly_take 16 = .ok (.isub, 1) := by decide +kernel
theorem d_Ly_take_17 : decode b_Ly_take 17 = .ok (.iload_n 1, 1) := by decide +kernel
theorem d_Ly_take_18 : decode b_Ly_take 18 = .ok (.invokevirtual 48, 3) := by decide +kernel
theorem d_Ly_take_21 : decode b_Ly_take 21 = .ok (.aload_n 0, 1) := by decide +kernel
theorem d_Ly_take_22 : decode b_Ly_take 22 = .ok (.getfield 26, 3) := by decide +kernel
theorem d_Ly_take_25 : decode b_Ly_take 25 = .ok (.iconst 1, 1) := by decide +kernel
theorem d_Ly_take_26 : decode b_Ly_take 26 = .ok (.isub, 1) := by decide +kernel
theorem d_Ly_take_27 : decode b_Ly_take 27 = .ok (.ireturn, 1) := by decide +kernel
theorem d_Ly_count_0 : decode b_Ly_count 0 = .ok (.aload_n 0, 1) := by decide +kernel
theorem d_Ly_count_1 : decode b_Ly_count 1 = .ok (.getfield 26, 3) := by decide +kernel
theorem d_Ly_count_4 : decode b_Ly_count 4 = .ok (.ireturn, 1) := by decide +kernel
theorem d_Ly_startOf_0 : decode b_Ly_startOf 0 = .ok (.aload_n 0, 1) := by decide +kernel
theorem d_Ly_startOf_1 : decode b_Ly_startOf 1 = .ok (.iload_n 1, 1) := by decide +kernel
theorem d_Ly_startOf_2 : decode b_Ly_startOf 2 = .ok (.invokevirtual 32, 3) := by decide +kernel
theorem d_Ly_startOf_5 : decode b_Ly_startOf 5 = .ok (.ifCond .eq 12, 3) := by decide +kernel
theorem d_Ly_startOf_8 : decode b_Ly_startOf 8 = .ok (.aload_n 0, 1) := by decide +kernel
theorem d_Ly_startOf_9 : decode b_Ly_startOf 9 = .ok (.getfield 15, 3) := by decide +kernel
theorem d_Ly_startOf_12 : decode b_Ly_startOf 12 = .ok (.iload_n 1, 1) := by decide +kernel
theorem d_Ly_startOf_13 : decode b_Ly_startOf 13 = .ok (.iaload, 1) := by decide +kernel
theorem d_Ly_startOf_14 : decode b_Ly_startOf 14 = .ok (.goto 4, 3) := by decide +kernel
theorem d_Ly_startOf_17 : decode b_Ly_startOf 17 = .ok (.iconst 0, 1) := by decide +kernel
theorem d_Ly_startOf_18 : decode b_Ly_startOf 18 = .ok (.ireturn, 1) := by decide +kernel
theorem d_Ly_giveUp_0 : decode b_Ly_giveUp 0 = .ok (.aload_n 0, 1) := by decide +kernel
theorem d_Ly_giveUp_1 : decode b_Ly_giveUp 1 = .ok (.iload_n 1, 1) := by decide +kernel
theorem d_Ly_giveUp_2 : decode b_Ly_giveUp 2 = .ok (.invokevirtual 32, 3) := by decide +kernel
theorem d_Ly_giveUp_5 : decode b_Ly_giveUp 5 = .ok (.ifCond .eq 17, 3) := by decide +kernel
theorem d_Ly_giveUp_8 : decode b_Ly_giveUp 8 = .ok (.aload_n 0, 1) := by decide +kernel
theorem d_Ly_giveUp_9 : decode b_Ly_giveUp 9 = .ok (.getfield 19, 3) := by decide +kernel
theorem d_Ly_giveUp_12 : decode b_Ly_giveUp 12 = .ok (.iload_n 1, 1) := by decide +kernel
theorem d_Ly_giveUp_13 : decode b_Ly_giveUp 13 = .ok (.iconst 0, 1) := by decide +kernel
theorem d_Ly_giveUp_14 : decode b_Ly_giveUp 14 = .ok (.iastore, 1) := by decide +kernel
theorem d_Ly_giveUp_15 : decode b_Ly_giveUp 15 = .ok (.aload_n 0, 1) := by decide +kernel
theorem d_Ly_giveUp_16 : decode b_Ly_giveUp 16 = .ok (.getfield 22, 3) := by decide +kernel
theorem d_Ly_giveUp_19 : decode b_Ly_giveUp 19 = .ok (.iload_n 1, 1) := by decide +kernel
theorem d_Ly_giveUp_20 : decode b_Ly_giveUp 20 = .ok (.iconst 1, 1) := by decide +kernel
theorem d_Ly_giveUp_21 : decode b_Ly_giveUp 21 = .ok (.bastore, 1) := by decide +kernel
theorem d_Ly_giveUp_22 : decode b_Ly_giveUp 22 = .ok (.return_, 1) := by decide +kernel
end
section
theorem d_Pm_new_0 : decode b_Pm_new 0 = .ok (.aload_n 0, 1) := by decide +kernel
theorem d_Pm_new_1 : decode b_Pm_new 1 = .ok (.invokespecial 1, 3) := by decide +kernel
theorem d_Pm_new_4 : decode b_Pm_new 4 = .ok (.aload_n 0, 1) := by decide +kernel
theorem d_Pm_new_5 : decode b_Pm_new 5 = .ok (.new 7, 3) := by decide +kernel
theorem d_Pm_new_8 : decode b_Pm_new 8 = .ok (.dup, 1) := by decide +kernel
theorem d_Pm_new_9 : decode b_Pm_new 9 = .ok (.bipush 6, 2) := by decide +kernel
theorem d_Pm_new_11 : decode b_Pm_new 11 = .ok (.sipush 12288, 3) := by decide +kernel
theorem d_Pm_new_14 : decode b_Pm_new 14 = .ok (.invokespecial 11, 3) := by decide +kernel
theorem d_Pm_new_17 : decode b_Pm_new 17 = .ok (.putfield 14, 3) := by decide +kernel
theorem d_Pm_new_20 : decode b_Pm_new 20 = .ok (.aload_n 0, 1) := by decide +kernel
theorem d_Pm_new_21 : decode b_Pm_new 21 = .ok (.bipush 6, 2) := by decide +kernel
theorem d_Pm_new_23 : decode b_Pm_new 23 = .ok (.newarray .int, 2) := by decide +kernel
theorem d_Pm_new_25 : decode b_Pm_new 25 = .ok (.putfield 18, 3) := by decide +kernel
theorem d_Pm_new_28 : decode b_Pm_new 28 = .ok (.aload_n 0, 1) := by decide +kernel
theorem d_Pm_new_29 : decode b_Pm_new 29 = .ok (.sipush 12288, 3) := by decide +kernel
theorem d_Pm_new_32 : decode b_Pm_new 32 = .ok (.newarray .byte, 2) := by decide +kernel
theorem d_Pm_new_34 : decode b_Pm_new 34 = .ok (.putfield 22, 3) := by decide +kernel
theorem d_Pm_new_37 : decode b_Pm_new 37 = .ok (.aload_n 0, 1) := by decide +kernel
theorem d_Pm_new_38 : decode b_Pm_new 38 = .ok (.new 7, 3) := by decide +kernel
theorem d_Pm_new_41 : decode b_Pm_new 41 = .ok (.dup, 1) := by decide +kernel
theorem d_Pm_new_42 : decode b_Pm_new 42 = .ok (.bipush 6, 2) := by decide +kernel
theorem d_Pm_new_44 : decode b_Pm_new 44 = .ok (.sipush 200, 3) := by decide +kernel
theorem d_Pm_new_47 : decode b_Pm_new 47 = .ok (.invokespecial 11, 3) := by decide +kernel
theorem d_Pm_new_50 : decode b_Pm_new 50 = .ok (.putfield 26, 3) := by decide +kernel
theorem d_Pm_new_53 : decode b_Pm_new 53 = .ok (.aload_n 0, 1) := by decide +kernel
theorem d_Pm_new_54 : decode b_Pm_new 54 = .ok (.bipush 6, 2) := by decide +kernel
theorem d_Pm_new_56 : decode b_Pm_new 56 = .ok (.newarray .int, 2) := by decide +kernel
theorem d_Pm_new_58 : decode b_Pm_new 58 = .ok (.putfield 29, 3) := by decide +kernel
theorem d_Pm_new_61 : decode b_Pm_new 61 = .ok (.aload_n 0, 1) := by decide +kernel
theorem d_Pm_new_62 : decode b_Pm_new 62 = .ok (.bipush 6, 2) := by decide +kernel
theorem d_Pm_new_64 : decode b_Pm_new 64 = .ok (.newarray .int, 2) := by decide +kernel
theorem d_Pm_new_66 : decode b_Pm_new 66 = .ok (.putfield 32, 3) := by decide +kernel
theorem d_Pm_new_69 : decode b_Pm_new 69 = .ok (.aload_n 0, 1) := by decide +kernel
theorem d_Pm_new_70 : decode b_Pm_new 70 = .ok (.sipush 200, 3) := by decide +kernel
theorem d_Pm_new_73 : decode b_Pm_new 73 = .ok (.newarray .int, 2) := by decide +kernel
theorem d_Pm_new_75 : decode b_Pm_new 75 = .ok (.putfield 35, 3) := by decide +kernel
theorem d_Pm_new_78 : decode b_Pm_new 78 = .ok (.aload_n 0, 1) := by decide +kernel
theorem d_Pm_new_79 : decode b_Pm_new 79 = .ok (.new 7, 3) := by decide +kernel
theorem d_Pm_new_82 : decode b_Pm_new 82 = .ok (.dup, 1) := by decide +kernel
theorem d_Pm_new_83 : decode b_Pm_new 83 = .ok (.bipush 24, 2) := by decide +kernel
theorem d_Pm_new_85 : decode b_Pm_new 85 = .ok (.sipush 600, 3) := by decide +kernel
theorem d_Pm_new_88 : decode b_Pm_new 88 = .ok (.invokespecial 11, 3) := by decide +kernel
theorem d_Pm_new_91 : decode b_Pm_new 91 = .ok (.putfield 38, 3) := by decide +kernel
theorem d_Pm_new_94 : decode b_Pm_new 94 = .ok (.aload_n 0, 1) := by decide +kernel
theorem d_Pm_new_95 : decode b_Pm_new 95 = .ok (.sipush 600, 3) := by decide +kernel
theorem d_Pm_new_98 : decode b_Pm_new 98 = .ok (.newarray .byte, 2) := by decide +kernel
theorem d_Pm_new_100 : decode b_Pm_new 100 = .ok (.putfield 41, 3) := by decide +kernel
theorem d_Pm_new_103 : decode b_Pm_new 103 = .ok (.aload_n 0, 1) := by decide +kernel
theorem d_Pm_new_104 : decode b_Pm_new 104 = .ok (.new 7, 3) := by decide +kernel
theorem d_Pm_new_107 : decode b_Pm_new 107 = .ok (.dup, 1) := by decide +kernel
theorem d_Pm_new_108 : decode b_Pm_new 108 = .ok (.bipush 24, 2) := by decide +kernel
theorem d_Pm_new_110 : decode b_Pm_new 110 = .ok (.sipush 200, 3) := by decide +kernel
theorem d_Pm_new_113 : decode b_Pm_new 113 = .ok (.invokespecial 11, 3) := by decide +kernel
theorem d_Pm_new_116 : decode b_Pm_new 116 = .ok (.putfield 44, 3) := by decide +kernel
theorem d_Pm_new_119 : decode b_Pm_new 119 = .ok (.aload_n 0, 1) := by decide +kernel
theorem d_Pm_new_120 : decode b_Pm_new 120 = .ok (.sipush 200, 3) := by decide +kernel
theorem d_Pm_new_123 : decode b_Pm_new 123 = .ok (.newarray .int, 2) := by decide +kernel
theorem d_Pm_new_125 : decode b_Pm_new 125 = .ok (.putfield 47, 3) := by decide +kernel
theorem d_Pm_new_128 : decode b_Pm_new 128 = .ok (.aload_n 0, 1) := by decide +kernel
theorem d_Pm_new_129 : decode b_Pm_new 129 = .ok (.iconst 0, 1) := by decide +kernel
theorem d_Pm_new_130 : decode b_Pm_new 130 = .ok (.putfield 50, 3) := by decide +kernel
theorem d_Pm_new_133 : decode b_Pm_new 133 = .ok (.return_, 1) := by decide +kernel
theorem d_Pm_memory_0 : decode b_Pm_memory 0 = .ok (.aload_n 0, 1) := by decide +kernel
theorem d_Pm_memory_1 : decode b_Pm_memory 1 = .ok (.getfield 14, 3) := by decide +kernel
theorem d_Pm_memory_4 : decode b_Pm_memory 4 = .ok (.invokevirtual 54, 3) := by decide +kernel
theorem d_Pm_memory_7 : decode b_Pm_memory 7 = .ok (.ifCond .ne 26, 3) := by decide +kernel
theorem d_Pm_memory_10 : decode b_Pm_memory 10 = .ok (.iload_n 1, 1) := by decide +kernel
theorem d_Pm_memory_11 : decode b_Pm_memory 11 = .ok (.ifCond .lt 22, 3) := by decide +kernel
theorem d_Pm_memory_14 : decode b_Pm_memory 14 = .ok (.iload_n 1, 1) := by decide +kernel
theorem d_Pm_memory_15 : decode b_Pm_memory 15 = .ok (.iload_n 2, 1) := by decide +kernel
theorem d_Pm_memory_16 : decode b_Pm_memory 16 = .ok (.if_icmp .gt 17, 3) := by decide +kernel
theorem d_Pm_memory_19 : decode b_Pm_memory 19 = .ok (.iload_n 2, 1) := by decide +kernel
theorem d_Pm_memory_20 : decode b_Pm_memory 20 = .ok (.ldc 58, 2) := by decide +kernel
theorem d_Pm_memory_22 : decode b_Pm_memory 22 = .ok (.if_icmp .gt 11, 3) := by decide +kernel
theorem d_Pm_memory_25 : decode b_Pm_memory 25 = .ok (.iload_n 1, 1) := by decide +kernel
theorem d_Pm_memory_26 : decode b_Pm_memory 26 = .ok (.aload_n 0, 1) := by decide +kernel
theorem d_Pm_memory_27 : decode b_Pm_memory 27 = .ok (.invokevirtual 59, 3) := by decide +kernel
theorem d_Pm_memory_30 : decode b_Pm_memory 30 = .ok (.if_icmp .le 5, 3) := by decide +kernel
theorem d_Pm_memory_33 : decode b_Pm_memory 33 = .ok (.iconst (-1), 1) := by decide +kernel
theorem d_Pm_memory_34 : decode b_Pm_memory 34 = .ok (.ireturn, 1) := by decide +kernel
theorem d_Pm_memory_35 : decode b_Pm_memory 35 = .ok (.aload_n 0, 1) := by decide +kernel
theorem d_Pm_memory_36 : decode b_Pm_memory 36 = .ok (.getfield 14, 3) := by decide +kernel
theorem d_Pm_memory_39 : decode b_Pm_memory 39 = .ok (.iload_n 1, 1) := by decide +kernel
theorem d_Pm_memory_40 : decode b_Pm_memory 40 = .ok (.sipush 256, 3) := by decide +kernel
theorem d_Pm_memory_43 : decode b_Pm_memory 43 = .ok (.imul, 1) := by decide +kernel
theorem d_Pm_memory_44 : decode b_Pm_memory 44 = .ok (.invokevirtual 63, 3) := by decide +kernel
theorem d_Pm_memory_47 : decode b_Pm_memory 47 = .ok (.istore_n 3, 1) := by decide +kernel
theorem d_Pm_memory_48 : decode b_Pm_memory 48 = .ok (.aload_n 0, 1) := by decide +kernel
theorem d_Pm_memory_49 : decode b_Pm_memory 49 = .ok (.getfield 18, 3) := by decide +kernel
theorem d_Pm_memory_52 : decode b_Pm_memory 52 = .ok (.iload_n 3, 1) := by decide +kernel
theorem d_Pm_memory_53 : decode b_Pm_memory 53 = .ok (.iload_n 2, 1) := by decide +kernel
theorem d_Pm_memory_54 : decode b_Pm_memory 54 = .ok (.iastore, 1) := by decide +kernel
theorem d_Pm_memory_55 : decode b_Pm_memory 55 = .ok (.iload_n 3, 1) := by decide +kernel
theorem d_Pm_memory_56 : decode b_Pm_memory 56 = .ok (.ireturn, 1) := by decide +kernel
theorem d_Pm_pagesLeft_0 : decode b_Pm_pagesLeft 0 = .ok (.aload_n 0, 1) := by decide +kernel
theorem d_Pm_pagesLeft_1 : decode b_Pm_pagesLeft 1 = .ok (.getfield 14, 3) := by decide +kernel
theorem d_Pm_pagesLeft_4 : decode b_Pm_pagesLeft 4 = .ok (.invokevirtual 150, 3) := by decide +kernel
theorem d_Pm_pagesLeft_7 : decode b_Pm_pagesLeft 7 = .ok (.sipush 256, 3) := by decide +kernel
theorem d_Pm_pagesLeft_10 : decode b_Pm_pagesLeft 10 = .ok (.idiv, 1) := by decide +kernel
theorem d_Pm_pagesLeft_11 : decode b_Pm_pagesLeft 11 = .ok (.ireturn, 1) := by decide +kernel
theorem d_Pm_grow_0 : decode b_Pm_grow 0 = .ok (.aload_n 0, 1) := by decide +kernel
theorem d_Pm_grow_1 : decode b_Pm_grow 1 = .ok (.getfield 14, 3) := by decide +kernel
theorem d_Pm_grow_4 : decode b_Pm_grow 4 = .ok (.iload_n 1, 1) := by decide +kernel
theorem d_Pm_grow_5 : decode b_Pm_grow 5 = .ok (.invokevirtual 67, 3) := by decide +kernel
theorem d_Pm_grow_8 : decode b_Pm_grow 8 = .ok (.ifCond .ne 5, 3) := by decide +kernel
theorem d_Pm_grow_11 : decode b_Pm_grow 11 = .ok (.iconst (-1), 1) := by decide +kernel
theorem d_Pm_grow_12 : decode b_Pm_grow 12 = .ok (.ireturn, 1) := by decide +kernel
theorem d_Pm_grow_13 : decode b_Pm_grow 13 = .ok (.aload_n 0, 1) := by decide +kernel
theorem d_Pm_grow_14 : decode b_Pm_grow 14 = .ok (.iload_n 1, 1) := by decide +kernel
theorem d_Pm_grow_15 : decode b_Pm_grow 15 = .ok (.invokevirtual 71, 3) := by decide +kernel
theorem d_Pm_grow_18 : decode b_Pm_grow 18 = .ok (.istore_n 3, 1) := by decide +kernel
theorem d_Pm_grow_19 : decode b_Pm_grow 19 = .ok (.iload_n 2, 1) := by decide +kernel
theorem d_Pm_grow_20 : decode b_Pm_grow 20 = .ok (.invokestatic 74, 3) := by decide +kernel
theorem d_Pm_grow_23 : decode b_Pm_grow 23 = .ok (.lstore 4, 2) := by decide +kernel
theorem d_Pm_grow_25 : decode b_Pm_grow 25 = .ok (.iload_n 3, 1) := by decide +kernel
theorem d_Pm_grow_26 : decode b_Pm_grow 26 = .ok (.i2l, 1) := by decide +kernel
theorem d_Pm_grow_27 : decode b_Pm_grow 27 = .ok (.lload 4, 2) := by decide +kernel
theorem d_Pm_grow_29 : decode b_Pm_grow 29 = .ok (.ladd, 1) := by decide +kernel
theorem d_Pm_grow_30 : decode b_Pm_grow 30 = .ok (.aload_n 0, 1) := by decide +kernel
theorem d_Pm_grow_31 : decode b_Pm_grow 31 = .ok (.getfield 18, 3) := by decide +kernel
theorem d_Pm_grow_34 : decode b_Pm_grow 34 = .ok (.iload_n 1, 1) := by decide +kernel
theorem d_Pm_grow_35 : decode b_Pm_grow 35 = .ok (.iaload, 1) := by decide +kernel
theorem d_Pm_grow_36 : decode b_Pm_grow 36 = .ok (.i2l, 1) := by decide +kernel
theorem d_Pm_grow_37 : decode b_Pm_grow 37 = .ok (.lcmp, 1) := by decide +kernel
theorem d_Pm_grow_38 : decode b_Pm_grow 38 = .ok (.ifCond .gt 14, 3) := by decide +kernel
theorem d_Pm_grow_41 : decode b_Pm_grow 41 = .ok (.lload 4, 2) := by decide +kernel
theorem d_Pm_grow_43 : decode b_Pm_grow 43 = .ok (.aload_n 0, 1) := by decide +kernel
theorem d_Pm_grow_44 : decode b_Pm_grow 44 = .ok (.invokevirtual 59, 3) := by decide +kernel
theorem d_Pm_grow_47 : decode b_Pm_grow 47 = .ok (.i2l, 1) := by decide +kernel
theorem d_Pm_grow_48 : decode b_Pm_grow 48 = .ok (.lcmp, 1) := by decide +kernel
theorem d_Pm_grow_49 : decode b_Pm_grow 49 = .ok (.ifCond .le 5, 3) := by decide +kernel
theorem d_Pm_grow_52 : decode b_Pm_grow 52 = .ok (.iconst (-1), 1) := by decide +kernel
theorem d_Pm_grow_53 : decode b_Pm_grow 53 = .ok (.ireturn, 1) := by decide +kernel
theorem d_Pm_grow_54 : decode b_Pm_grow 54 = .ok (.lload 4, 2) := by decide +kernel
theorem d_Pm_grow_56 : decode b_Pm_grow 56 = .ok (.l2i, 1) := by decide +kernel
theorem d_Pm_grow_57 : decode b_Pm_grow 57 = .ok (.sipush 256, 3) := by decide +kernel
theorem d_Pm_grow_60 : decode b_Pm_grow 60 = .ok (.imul, 1) := by decide +kernel
theorem d_Pm_grow_61 : decode b_Pm_grow 61 = .ok (.istore 6, 2) := by decide +kernel
theorem d_Pm_grow_63 : decode b_Pm_grow 63 = .ok (.aload_n 0, 1) := by decide +kernel
theorem d_Pm_grow_64 : decode b_Pm_grow 64 = .ok (.getfield 14, 3) := by decide +kernel
theorem d_Pm_grow_67 : decode b_Pm_grow 67 = .ok (.iload_n 1, 1) := by decide +kernel
theorem d_Pm_grow_68 : decode b_Pm_grow 68 = .ok (.invokevirtual 78, 3) := by decide +kernel
theorem d_Pm_grow_71 : decode b_Pm_grow 71 = .ok (.istore 7, 2) := by decide +kernel
theorem d_Pm_grow_73 : decode b_Pm_grow 73 = .ok (.aload_n 0, 1) := by decide +kernel
theorem d_Pm_grow_74 : decode b_Pm_grow 74 = .ok (.getfield 22, 3) := by decide +kernel
theorem d_Pm_grow_77 : decode b_Pm_grow 77 = .ok (.iload 7, 2) := by decide +kernel
theorem d_Pm_grow_79 : decode b_Pm_grow 79 = .ok (.aload_n 0, 1) := by decide +kernel
theorem d_Pm_grow_80 : decode b_Pm_grow 80 = .ok (.getfield 22, 3) := by decide +kernel
theorem d_Pm_grow_83 : decode b_Pm_grow 83 = .ok (.iload 7, 2) := by decide +kernel
theorem d_Pm_grow_85 : decode b_Pm_grow 85 = .ok (.iload 6, 2) := by decide +kernel
theorem d_Pm_grow_87 : decode b_Pm_grow 87 = .ok (.iadd, 1) := by decide +kernel
theorem d_Pm_grow_88 : decode b_Pm_grow 88 = .ok (.aload_n 0, 1) := by decide +kernel
theorem d_Pm_grow_89 : decode b_Pm_grow 89 = .ok (.getfield 14, 3) := by decide +kernel
theorem d_Pm_grow_92 : decode b_Pm_grow 92 = .ok (.invokevirtual 81, 3) := by decide +kernel
theorem d_Pm_grow_95 : decode b_Pm_grow 95 = .ok (.iload 7, 2) := by decide +kernel
theorem d_Pm_grow_97 : decode b_Pm_grow 97 = .ok (.isub, 1) := by decide +kernel
theorem d_Pm_grow_98 : decode b_Pm_grow 98 = .ok (.invokestatic 84, 3) := by decide +kernel
theorem d_Pm_grow_101 : decode b_Pm_grow 101 = .ok (.aload_n 0, 1) := by decide +kernel
theorem d_Pm_grow_102 : decode b_Pm_grow 102 = .ok (.getfield 22, 3) := by decide +kernel
theorem d_Pm_grow_105 : decode b_Pm_grow 105 = .ok (.iload 7, 2) := by decide +kernel
theorem d_Pm_grow_107 : decode b_Pm_grow 107 = .ok (.iload 7, 2) := by decide +kernel
theorem d_Pm_grow_109 : decode b_Pm_grow 109 = .ok (.iload 6, 2) := by decide +kernel
theorem d_Pm_grow_111 : decode b_Pm_grow 111 = .ok (.iadd, 1) := by decide +kernel
theorem d_Pm_grow_112 : decode b_Pm_grow 112 = .ok (.iconst 0, 1) := by decide +kernel
theorem d_Pm_grow_113 : decode b_Pm_grow 113 = .ok (.invokestatic 90, 3) := by decide +kernel
theorem d_Pm_grow_116 : decode b_Pm_grow 116 = .ok (.aload_n 0, 1) := by decide +kernel
theorem d_Pm_grow_117 : decode b_Pm_grow 117 = .ok (.getfield 14, 3) := by decide +kernel
theorem d_Pm_grow_120 : decode b_Pm_grow 120 = .ok (.iload_n 1, 1) := by decide +kernel
theorem d_Pm_grow_121 : decode b_Pm_grow 121 = .ok (.iload 6, 2) := by decide +kernel
theorem d_Pm_grow_123 : decode b_Pm_grow 123 = .ok (.invokevirtual 96, 3) := by decide +kernel
theorem d_Pm_grow_126 : decode b_Pm_grow 126 = .ok (.iload_n 3, 1) := by decide +kernel
theorem d_Pm_grow_127 : decode b_Pm_grow 127 = .ok (.ireturn, 1) := by decide +kernel
theorem d_Pm_pagesOf_0 : decode b_Pm_pagesOf 0 = .ok (.aload_n 0, 1) := by decide +kernel
theorem d_Pm_pagesOf_1 : decode b_Pm_pagesOf 1 = .ok (.getfield 14, 3) := by decide +kernel
theorem d_Pm_pagesOf_4 : decode b_Pm_pagesOf 4 = .ok (.iload_n 1, 1) := by decide +kernel
theorem d_Pm_pagesOf_5 : decode b_Pm_pagesOf 5 = .ok (.invokevirtual 163, 3) := by decide +kernel
theorem d_Pm_pagesOf_8 : decode b_Pm_pagesOf 8 = .ok (.sipush 256, 3) := by decide +kernel
theorem d_Pm_pagesOf_11 : decode b_Pm_pagesOf 11 = .ok (.idiv, 1) := by decide +kernel
theorem d_Pm_pagesOf_12 : decode b_Pm_pagesOf 12 = .ok (.ireturn, 1) := by decide +kernel
theorem d_Pm_unsigned_0 : decode b_Pm_unsigned 0 = .ok (.iload_n 0, 1) := by decide +kernel
theorem d_Pm_unsigned_1 : decode b_Pm_unsigned 1 = .ok (.i2l, 1) := by decide +kernel
theorem d_Pm_unsigned_2 : decode b_Pm_unsigned 2 = .ok (.ldc2_w 181, 3) := by decide +kernel
theorem d_Pm_unsigned_5 : decode b_Pm_unsigned 5 = .ok (.land, 1) := by decide +kernel
theorem d_Pm_unsigned_6 : decode b_Pm_unsigned 6 = .ok (.lreturn, 1) := by decide +kernel
theorem d_Ar_fillB_0 : decode b_Ar_fillB 0 = .ok (.aload_n 0, 1) := by decide +kernel
theorem d_Ar_fillB_1 : decode b_Ar_fillB 1 = .ok (.arraylength, 1) := by decide +kernel
theorem d_Ar_fillB_2 : decode b_Ar_fillB 2 = .ok (.iload_n 1, 1) := by decide +kernel
theorem d_Ar_fillB_3 : decode b_Ar_fillB 3 = .ok (.iload_n 2, 1) := by decide +kernel
theorem d_Ar_fillB_4 : decode b_Ar_fillB 4 = .ok (.invokestatic 13, 3) := by decide +kernel
theorem d_Ar_fillB_7 : decode b_Ar_fillB 7 = .ok (.iload_n 1, 1) := by decide +kernel
theorem d_Ar_fillB_8 : decode b_Ar_fillB 8 = .ok (.istore 4, 2) := by decide +kernel
theorem d_Ar_fillB_10 : decode b_Ar_fillB 10 = .ok (.iload 4, 2) := by decide +kernel
theorem d_Ar_fillB_12 : decode b_Ar_fillB 12 = .ok (.iload_n 2, 1) := by decide +kernel
theorem d_Ar_fillB_13 : decode b_Ar_fillB 13 = .ok (.if_icmp .ge 14, 3) := by decide +kernel
theorem d_Ar_fillB_16 : decode b_Ar_fillB 16 = .ok (.aload_n 0, 1) := by decide +kernel
theorem d_Ar_fillB_17 : decode b_Ar_fillB 17 = .ok (.iload 4, 2) := by decide +kernel
theorem d_Ar_fillB_19 : decode b_Ar_fillB 19 = .ok (.iload_n 3, 1) := by decide +kernel
theorem d_Ar_fillB_20 : decode b_Ar_fillB 20 = .ok (.bastore, 1) := by decide +kernel
theorem d_Ar_fillB_21 : decode b_Ar_fillB 21 = .ok (.iinc 4 1, 3) := by decide +kernel
theorem d_Ar_fillB_24 : decode b_Ar_fillB 24 = .ok (.goto (-14), 3) := by decide +kernel
theorem d_Ar_fillB_27 : decode b_Ar_fillB 27 = .ok (.return_, 1) := by decide +kernel
theorem d_Ar_rangeCheck_0 : decode b_Ar_rangeCheck 0 = .ok (.iload_n 1, 1) := by decide +kernel
theorem d_Ar_rangeCheck_1 : decode b_Ar_rangeCheck 1 = .ok (.iload_n 2, 1) := by decide +kernel
theorem d_Ar_rangeCheck_2 : decode b_Ar_rangeCheck 2 = .ok (.if_icmp .le 44, 3) := by decide +kernel
theorem d_Ar_rangeCheck_5 : decode b_Ar_rangeCheck 5 = .ok (.new 43, 3) := by decide +kernel
theorem d_Ar_rangeCheck_8 : decode b_Ar_rangeCheck 8 = .ok (.dup, 1) := by decide +kernel
theorem d_Ar_rangeCheck_9 : decode b_Ar_rangeCheck 9 = .ok (.new 45, 3) := by decide +kernel
theorem d_Ar_rangeCheck_12 : decode b_Ar_rangeCheck 12 = .ok (.dup, 1) := by decide +kernel
theorem d_Ar_rangeCheck_13 : decode b_Ar_rangeCheck 13 = .ok (.invokespecial 47, 3) := by decide +kernel
theorem d_Ar_rangeCheck_16 : decode b_Ar_rangeCheck 16 = .ok (.ldc 48, 2) := by decide +kernel
theorem d_Ar_rangeCheck_18 : decode b_Ar_rangeCheck 18 = .ok (.invokevirtual 50, 3) := by decide +kernel
theorem d_Ar_rangeCheck_21 : decode b_Ar_rangeCheck 21 = .ok (.iload_n 1, 1) := by decide +kernel
theorem d_Ar_rangeCheck_22 : decode b_Ar_rangeCheck 22 = .ok (.invokevirtual 54, 3) := by decide +kernel
theorem d_Ar_rangeCheck_25 : decode b_Ar_rangeCheck 25 = .ok (.ldc 57, 2) := by decide +kernel
theorem d_Ar_rangeCheck_27 : decode b_Ar_rangeCheck 27 = .ok (.invokevirtual 50, 3) := by decide +kernel
theorem d_Ar_rangeCheck_30 : decode b_Ar_rangeCheck 30 = .ok (.iload_n 2, 1) := by decide +kernel
theorem d_Ar_rangeCheck_31 : decode b_Ar_rangeCheck 31 = .ok (.invokevirtual 54, 3) := by decide +kernel
theorem d_Ar_rangeCheck_34 : decode b_Ar_rangeCheck 34 = .ok (.ldc 59, 2) := by decide +kernel
theorem d_Ar_rangeCheck_36 : decode b_Ar_rangeCheck 36 = .ok (.invokevirtual 50, 3) := by decide +kernel
theorem d_Ar_rangeCheck_39 : decode b_Ar_rangeCheck 39 = .ok (.invokevirtual 61, 3) := by decide +kernel
theorem d_Ar_rangeCheck_42 : decode b_Ar_rangeCheck 42 = .ok (.invokespecial 65, 3) := by decide +kernel
theorem d_Ar_rangeCheck_45 : decode b_Ar_rangeCheck 45 = .ok (.athrow, 1) := by decide +kernel
theorem d_Ar_rangeCheck_46 : decode b_Ar_rangeCheck 46 = .ok (.iload_n 1, 1) := by decide +kernel
theorem d_Ar_rangeCheck_47 : decode b_Ar_rangeCheck 47 = .ok (.ifCond .ge 12, 3) := by decide +kernel
theorem d_Ar_rangeCheck_50 : decode b_Ar_rangeCheck 50 = .ok (.new 68, 3) := by decide +kernel
theorem d_Ar_rangeCheck_53 : decode b_Ar_rangeCheck 53 = .ok (.dup, 1) := by decide +kernel
theorem d_Ar_rangeCheck_54 : decode b_Ar_rangeCheck 54 = .ok (.iload_n 1, 1) := by decide +kernel
theorem d_Ar_rangeCheck_55 : decode b_Ar_rangeCheck 55 = .ok (.invokespecial 70, 3) := by decide +kernel
theorem d_Ar_rangeCheck_58 : decode b_Ar_rangeCheck 58 = .ok (.athrow, 1) := by decide +kernel
theorem d_Ar_rangeCheck_59 : decode b_Ar_rangeCheck 59 = .ok (.iload_n 2, 1) := by decide +kernel
theorem d_Ar_rangeCheck_60 : decode b_Ar_rangeCheck 60 = .ok (.iload_n 0, 1) := by decide +kernel
theorem d_Ar_rangeCheck_61 : decode b_Ar_rangeCheck 61 = .ok (.if_icmp .le 12, 3) := by decide +kernel
theorem d_Ar_rangeCheck_64 : decode b_Ar_rangeCheck 64 = .ok (.new 68, 3) := by decide +kernel
theorem d_Ar_rangeCheck_67 : decode b_Ar_rangeCheck 67 = .ok (.dup, 1) := by decide +kernel
theorem d_Ar_rangeCheck_68 : decode b_Ar_rangeCheck 68 = .ok (.iload_n 2, 1) := by decide +kernel
theorem d_Ar_rangeCheck_69 : decode b_Ar_rangeCheck 69 = .ok (.invokespecial 70, 3) := by decide +kernel
theorem d_Ar_rangeCheck_72 : decode b_Ar_rangeCheck 72 = .ok (.athrow, 1) := by decide +kernel
theorem d_Ar_rangeCheck_73 : decode b_Ar_rangeCheck 73 = .ok (.return_, 1) := by decide +kernel
theorem d_Pm_data_0 : decode b_Pm_data 0 = .ok (.iload_n 3, 1) := by decide +kernel
theorem d_Pm_data_1 : decode b_Pm_data 1 = .ok (.ifCond .lt 22, 3) := by decide +kernel
theorem d_Pm_data_4 : decode b_Pm_data 4 = .ok (.iload_n 3, 1) := by decide +kernel
theorem d_Pm_data_5 : decode b_Pm_data 5 = .ok (.bipush 8, 2) := by decide +kernel
theorem d_Pm_data_7 : decode b_Pm_data 7 = .ok (.if_icmp .gt 16, 3) := by decide +kernel
theorem d_Pm_data_10 : decode b_Pm_data 10 = .ok (.aload_n 0, 1) := by decide +kernel
theorem d_Pm_data_11 : decode b_Pm_data 11 = .ok (.getfield 38, 3) := by decide +kernel
theorem d_Pm_data_14 : decode b_Pm_data 14 = .ok (.iload_n 3, 1) := by decide +kernel
theorem d_Pm_data_15 : decode b_Pm_data 15 = .ok (.iload 4, 2) := by decide +kernel
theorem d_Pm_data_17 : decode b_Pm_data 17 = .ok (.invokevirtual 136, 3) := by decide +kernel
theorem d_Pm_data_20 : decode b_Pm_data 20 = .ok (.ifCond .ne 5, 3) := by decide +kernel
theorem d_Pm_data_23 : decode b_Pm_data 23 = .ok (.iconst (-1), 1) := by decide +kernel
theorem d_Pm_data_24 : decode b_Pm_data 24 = .ok (.ireturn, 1) := by decide +kernel
theorem d_Pm_data_25 : decode b_Pm_data 25 = .ok (.lload_n 1, 1) := by decide +kernel
theorem d_Pm_data_26 : decode b_Pm_data 26 = .ok (.iload_n 3, 1) := by decide +kernel
theorem d_Pm_data_27 : decode b_Pm_data 27 = .ok (.aload_n 0, 1) := by decide +kernel
theorem d_Pm_data_28 : decode b_Pm_data 28 = .ok (.getfield 41, 3) := by decide +kernel
theorem d_Pm_data_31 : decode b_Pm_data 31 = .ok (.aload_n 0, 1) := by decide +kernel
theorem d_Pm_data_32 : decode b_Pm_data 32 = .ok (.getfield 38, 3) := by decide +kernel
theorem d_Pm_data_35 : decode b_Pm_data 35 = .ok (.invokevirtual 81, 3) := by decide +kernel
theorem d_Pm_data_38 : decode b_Pm_data 38 = .ok (.invokestatic 128, 3) := by decide +kernel
theorem d_Pm_data_41 : decode b_Pm_data 41 = .ok (.aload_n 0, 1) := by decide +kernel
theorem d_Pm_data_42 : decode b_Pm_data 42 = .ok (.getfield 38, 3) := by decide +kernel
theorem d_Pm_data_45 : decode b_Pm_data 45 = .ok (.iload_n 3, 1) := by decide +kernel
theorem d_Pm_data_46 : decode b_Pm_data 46 = .ok (.iload 4, 2) := by decide +kernel
theorem d_Pm_data_48 : decode b_Pm_data 48 = .ok (.invokevirtual 140, 3) := by decide +kernel
theorem d_Pm_data_51 : decode b_Pm_data 51 = .ok (.ireturn, 1) := by decide +kernel
theorem d_Pm_putLowestBytes_0 : decode b_Pm_putLowestBytes 0 = .ok (.iconst 0, 1) := by decide +kernel
theorem d_Pm_putLowestBytes_1 : decode b_Pm_putLowestBytes 1 = .ok (.istore 5, 2) := by decide +kernel
theorem d_Pm_putLowestBytes_3 : decode b_Pm_putLowestBytes 3 = .ok (.iload 5, 2) := by decide +kernel
theorem d_Pm_putLowestBytes_5 : decode b_Pm_putLowestBytes 5 = .ok (.iload_n 2, 1) := by decide +kernel
theorem d_Pm_putLowestBytes_6 : decode b_Pm_putLowestBytes 6 = .ok (.if_icmp .ge 25, 3) := by decide +kernel
theorem d_Pm_putLowestBytes_9 : decode b_Pm_putLowestBytes 9 = .ok (.aload_n 3, 1) := by decide +kernel
theorem d_Pm_putLowestBytes_10 : decode b_Pm_putLowestBytes 10 = .ok (.iload 4, 2) := by decide +kernel
theorem d_Pm_putLowestBytes_12 : decode b_Pm_putLowestBytes 12 = .ok (.iload 5, 2) := by decide +kernel
theorem d_Pm_putLowestBytes_14 : decode b_Pm_putLowestBytes 14 = .ok (.iadd, 1) := by decide +kernel
theorem d_Pm_putLowestBytes_15 : decode b_Pm_putLowestBytes 15 = .ok (.lload_n 0, 1) := by decide +kernel
theorem d_Pm_putLowestBytes_16 : decode b_Pm_putLowestBytes 16 = .ok (.bipush 8, 2) := by decide +kernel
theorem d_Pm_putLowestBytes_18 : decode b_Pm_putLowestBytes 18 = .ok (.iload 5, 2) := by decide +kernel
theorem d_Pm_putLowestBytes_20 : decode b_Pm_putLowestBytes 20 = .ok (.imul, 1) := by decide +kernel
theorem d_Pm_putLowestBytes_21 : decode b_Pm_putLowestBytes 21 = .ok (.lushr, 1) := by decide +kernel
theorem d_Pm_putLowestBytes_22 : decode b_Pm_putLowestBytes 22 = .ok (.l2i, 1) := by decide +kernel
theorem d_Pm_putLowestBytes_23 : decode b_Pm_putLowestBytes 23 = .ok (.i2b, 1) := by decide +kernel
theorem d_Pm_putLowestBytes_24 : decode b_Pm_putLowestBytes 24 = .ok (.bastore, 1) := by decide +kernel
theorem d_Pm_putLowestBytes_25 : decode b_Pm_putLowestBytes 25 = .ok (.iinc 5 1, 3) := by decide +kernel
theorem d_Pm_putLowestBytes_28 : decode b_Pm_putLowestBytes 28 = .ok (.goto (-25), 3) := by decide +kernel
theorem d_Pm_putLowestBytes_31 : decode b_Pm_putLowestBytes 31 = .ok (.return_, 1) := by decide +kernel
theorem d_Pm_table_0 : decode b_Pm_table 0 = .ok (.aload_n 0, 1) := by decide +kernel
theorem d_Pm_table_1 : decode b_Pm_table 1 = .ok (.getfield 26, 3) := by decide +kernel
theorem d_Pm_table_4 : decode b_Pm_table 4 = .ok (.invokevirtual 54, 3) := by decide +kernel
theorem d_Pm_table_7 : decode b_Pm_table 7 = .ok (.ifCond .ne 15, 3) := by decide +kernel
theorem d_Pm_table_10 : decode b_Pm_table 10 = .ok (.iload_n 1, 1) := by decide +kernel
theorem d_Pm_table_11 : decode b_Pm_table 11 = .ok (.bipush 112, 2) := by decide +kernel
theorem d_Pm_table_13 : decode b_Pm_table 13 = .ok (.if_icmp .eq 11, 3) := by decide +kernel
theorem d_Pm_table_16 : decode b_Pm_table 16 = .ok (.iload_n 1, 1) := by decide +kernel
theorem d_Pm_table_17 : decode b_Pm_table 17 = .ok (.bipush 111, 2) := by decide +kernel
theorem d_Pm_table_19 : decode b_Pm_table 19 = .ok (.if_icmp .eq 5, 3) := by decide +kernel
theorem d_Pm_table_22 : decode b_Pm_table 22 = .ok (.iconst (-1), 1) := by decide +kernel
theorem d_Pm_table_23 : decode b_Pm_table 23 = .ok (.ireturn, 1) := by decide +kernel
theorem d_Pm_table_24 : decode b_Pm_table 24 = .ok (.iload_n 2, 1) := by decide +kernel
theorem d_Pm_table_25 : decode b_Pm_table 25 = .ok (.ifCond .lt 24, 3) := by decide +kernel
theorem d_Pm_table_28 : decode b_Pm_table 28 = .ok (.iload_n 2, 1) := by decide +kernel
theorem d_Pm_table_29 : decode b_Pm_table 29 = .ok (.i2l, 1) := by decide +kernel
theorem d_Pm_table_30 : decode b_Pm_table 30 = .ok (.iload_n 3, 1) := by decide +kernel
theorem d_Pm_table_31 : decode b_Pm_table 31 = .ok (.invokestatic 74, 3) := by decide +kernel
theorem d_Pm_table_34 : decode b_Pm_table 34 = .ok (.lcmp, 1) := by decide +kernel
theorem d_Pm_table_35 : decode b_Pm_table 35 = .ok (.ifCond .gt 14, 3) := by decide +kernel
theorem d_Pm_table_38 : decode b_Pm_table 38 = .ok (.iload_n 2, 1) := by decide +kernel
theorem d_Pm_table_39 : decode b_Pm_table 39 = .ok (.aload_n 0, 1) := by decide +kernel
theorem d_Pm_table_40 : decode b_Pm_table 40 = .ok (.getfield 26, 3) := by decide +kernel
theorem d_Pm_table_43 : decode b_Pm_table 43 = .ok (.invokevirtual 150, 3) := by decide +kernel
theorem d_Pm_table_46 : decode b_Pm_table 46 = .ok (.if_icmp .le 5, 3) := by decide +kernel
theorem d_Pm_table_49 : decode b_Pm_table 49 = .ok (.iconst (-1), 1) := by decide +kernel
theorem d_Pm_table_50 : decode b_Pm_table 50 = .ok (.ireturn, 1) := by decide +kernel
theorem d_Pm_table_51 : decode b_Pm_table 51 = .ok (.aload_n 0, 1) := by decide +kernel
theorem d_Pm_table_52 : decode b_Pm_table 52 = .ok (.getfield 26, 3) := by decide +kernel
theorem d_Pm_table_55 : decode b_Pm_table 55 = .ok (.invokevirtual 81, 3) := by decide +kernel
theorem d_Pm_table_58 : decode b_Pm_table 58 = .ok (.istore 4, 2) := by decide +kernel
theorem d_Pm_table_60 : decode b_Pm_table 60 = .ok (.aload_n 0, 1) := by decide +kernel
theorem d_Pm_table_61 : decode b_Pm_table 61 = .ok (.getfield 35, 3) := by decide +kernel
theorem d_Pm_table_64 : decode b_Pm_table 64 = .ok (.iload 4, 2) := by decide +kernel
theorem d_Pm_table_66 : decode b_Pm_table 66 = .ok (.iload 4, 2) := by decide +kernel
theorem d_Pm_table_68 : decode b_Pm_table 68 = .ok (.iload_n 2, 1) := by decide +kernel
theorem d_Pm_table_69 : decode b_Pm_table 69 = .ok (.iadd, 1) := by decide +kernel
theorem d_Pm_table_70 : decode b_Pm_table 70 = .ok (.iconst (-1), 1) := by decide +kernel
theorem d_Pm_table_71 : decode b_Pm_table 71 = .ok (.invokestatic 153, 3) := by decide +kernel
theorem d_Pm_table_74 : decode b_Pm_table 74 = .ok (.aload_n 0, 1) := by decide +kernel
theorem d_Pm_table_75 : decode b_Pm_table 75 = .ok (.getfield 26, 3) := by decide +kernel
theorem d_Pm_table_78 : decode b_Pm_table 78 = .ok (.iload_n 2, 1) := by decide +kernel
theorem d_Pm_table_79 : decode b_Pm_table 79 = .ok (.invokevirtual 63, 3) := by decide +kernel
theorem d_Pm_table_82 : decode b_Pm_table 82 = .ok (.istore 5, 2) := by decide +kernel
theorem d_Pm_table_84 : decode b_Pm_table 84 = .ok (.aload_n 0, 1) := by decide +kernel
theorem d_Pm_table_85 : decode b_Pm_table 85 = .ok (.getfield 32, 3) := by decide +kernel
theorem d_Pm_table_88 : decode b_Pm_table 88 = .ok (.iload 5, 2) := by decide +kernel
theorem d_Pm_table_90 : decode b_Pm_table 90 = .ok (.iload_n 1, 1) := by decide +kernel
theorem d_Pm_table_91 : decode b_Pm_table 91 = .ok (.iastore, 1) := by decide +kernel
theorem d_Pm_table_92 : decode b_Pm_table 92 = .ok (.aload_n 0, 1) := by decide +kernel
theorem d_Pm_table_93 : decode b_Pm_table 93 = .ok (.getfield 29, 3) := by decide +kernel
theorem d_Pm_table_96 : decode b_Pm_table 96 = .ok (.iload 5, 2) := by decide +kernel
theorem d_Pm_table_98 : decode b_Pm_table 98 = .ok (.iload_n 3, 1) := by decide +kernel
theorem d_Pm_table_99 : decode b_Pm_table 99 = .ok (.iastore, 1) := by decide +kernel
theorem d_Pm_table_100 : decode b_Pm_table 100 = .ok (.iload 5, 2) := by decide +kernel
theorem d_Pm_table_102 : decode b_Pm_table 102 = .ok (.ireturn, 1) := by decide +kernel
theorem d_Ar_fillI_0 : decode b_Ar_fillI 0 = .ok (.aload_n 0, 1) := by decide +kernel
theorem d_Ar_fillI_1 : decode b_Ar_fillI 1 = .ok (.arraylength, 1) := by decide +kernel
theorem d_Ar_fillI_2 : decode b_Ar_fillI 2 = .ok (.iload_n 1, 1) := by decide +kernel
theorem d_Ar_fillI_3 : decode b_Ar_fillI 3 = .ok (.iload_n 2, 1) := by decide +kernel
theorem d_Ar_fillI_4 : decode b_Ar_fillI 4 = .ok (.invokestatic 13, 3) := by decide +kernel
theorem d_Ar_fillI_7 : decode b_Ar_fillI 7 = .ok (.iload_n 1, 1) := by decide +kernel
theorem d_Ar_fillI_8 : decode b_Ar_fillI 8 = .ok (.istore 4, 2) := by decide +kernel
theorem d_Ar_fillI_10 : decode b_Ar_fillI 10 = .ok (.iload 4, 2) := by decide +kernel
theorem d_Ar_fillI_12 : decode b_Ar_fillI 12 = .ok (.iload_n 2, 1) := by decide +kernel
theorem d_Ar_fillI_13 : decode b_Ar_fillI 13 = .ok (.if_icmp .ge 14, 3) := by decide +kernel
theorem d_Ar_fillI_16 : decode b_Ar_fillI 16 = .ok (.aload_n 0, 1) := by decide +kernel
theorem d_Ar_fillI_17 : decode b_Ar_fillI 17 = .ok (.iload 4, 2) := by decide +kernel
theorem d_Ar_fillI_19 : decode b_Ar_fillI 19 = .ok (.iload_n 3, 1) := by decide +kernel
theorem d_Ar_fillI_20 : decode b_Ar_fillI 20 = .ok (.iastore, 1) := by decide +kernel
theorem d_Ar_fillI_21 : decode b_Ar_fillI 21 = .ok (.iinc 4 1, 3) := by decide +kernel
theorem d_Ar_fillI_24 : decode b_Ar_fillI 24 = .ok (.goto (-14), 3) := by decide +kernel
theorem d_Ar_fillI_27 : decode b_Ar_fillI 27 = .ok (.return_, 1) := by decide +kernel
theorem d_Pm_growTable_0 : decode b_Pm_growTable 0 = .ok (.aload_n 0, 1) := by decide +kernel
theorem d_Pm_growTable_1 : decode b_Pm_growTable 1 = .ok (.getfield 26, 3) := by decide +kernel
theorem d_Pm_growTable_4 : decode b_Pm_growTable 4 = .ok (.iload_n 1, 1) := by decide +kernel
theorem d_Pm_growTable_5 : decode b_Pm_growTable 5 = .ok (.invokevirtual 67, 3) := by decide +kernel
theorem d_Pm_growTable_8 : decode b_Pm_growTable 8 = .ok (.ifCond .eq 10, 3) := by decide +kernel
theorem d_Pm_growTable_11 : decode b_Pm_growTable 11 = .ok (.iload_n 3, 1) := by decide +kernel
theorem d_Pm_growTable_12 : decode b_Pm_growTable 12 = .ok (.invokestatic 158, 3) := by decide +kernel
theorem d_Pm_growTable_15 : decode b_Pm_growTable 15 = .ok (.ifCond .ne 5, 3) := by decide +kernel
theorem d_Pm_growTable_18 : decode b_Pm_growTable 18 = .ok (.iconst (-1), 1) := by decide +kernel
theorem d_Pm_growTable_19 : decode b_Pm_growTable 19 = .ok (.ireturn, 1) := by decide +kernel
theorem d_Pm_growTable_20 : decode b_Pm_growTable 20 = .ok (.aload_n 0, 1) := by decide +kernel
theorem d_Pm_growTable_21 : decode b_Pm_growTable 21 = .ok (.getfield 26, 3) := by decide +kernel
theorem d_Pm_growTable_24 : decode b_Pm_growTable 24 = .ok (.iload_n 1, 1) := by decide +kernel
theorem d_Pm_growTable_25 : decode b_Pm_growTable 25 = .ok (.invokevirtual 163, 3) := by decide +kernel
theorem d_Pm_growTable_28 : decode b_Pm_growTable 28 = .ok (.istore 4, 2) := by decide +kernel
theorem d_Pm_growTable_30 : decode b_Pm_growTable 30 = .ok (.iload_n 2, 1) := by decide +kernel
theorem d_Pm_growTable_31 : decode b_Pm_growTable 31 = .ok (.invokestatic 74, 3) := by decide +kernel
theorem d_Pm_growTable_34 : decode b_Pm_growTable 34 = .ok (.lstore 5, 2) := by decide +kernel
theorem d_Pm_growTable_36 : decode b_Pm_growTable 36 = .ok (.iload 4, 2) := by decide +kernel
theorem d_Pm_growTable_38 : decode b_Pm_growTable 38 = .ok (.i2l, 1) := by decide +kernel
theorem d_Pm_growTable_39 : decode b_Pm_growTable 39 = .ok (.lload 5, 2) := by decide +kernel
theorem d_Pm_growTable_41 : decode b_Pm_growTable 41 = .ok (.ladd, 1) := by decide +kernel
theorem d_Pm_growTable_42 : decode b_Pm_growTable 42 = .ok (.aload_n 0, 1) := by decide +kernel
theorem d_Pm_growTable_43 : decode b_Pm_growTable 43 = .ok (.getfield 29, 3) := by decide +kernel
theorem d_Pm_growTable_46 : decode b_Pm_growTable 46 = .ok (.iload_n 1, 1) := by decide +kernel
theorem d_Pm_growTable_47 : decode b_Pm_growTable 47 = .ok (.iaload, 1) := by decide +kernel
theorem d_Pm_growTable_48 : decode b_Pm_growTable 48 = .ok (.invokestatic 74, 3) := by decide +kernel
theorem d_Pm_growTable_51 : decode b_Pm_growTable 51 = .ok (.lcmp, 1) := by decide +kernel
theorem d_Pm_growTable_52 : decode b_Pm_growTable 52 = .ok (.ifCond .gt 17, 3) := by decide +kernel
theorem d_Pm_growTable_55 : decode b_Pm_growTable 55 = .ok (.lload 5, 2) := by decide +kernel
theorem d_Pm_growTable_57 : decode b_Pm_growTable 57 = .ok (.aload_n 0, 1) := by decide +kernel
theorem d_Pm_growTable_58 : decode b_Pm_growTable 58 = .ok (.getfield 26, 3) := by decide +kernel
theorem d_Pm_growTable_61 : decode b_Pm_growTable 61 = .ok (.invokevirtual 150, 3) := by decide +kernel
theorem d_Pm_growTable_64 : decode b_Pm_growTable 64 = .ok (.i2l, 1) := by decide +kernel
theorem d_Pm_growTable_65 : decode b_Pm_growTable 65 = .ok (.lcmp, 1) := by decide +kernel
theorem d_Pm_growTable_66 : decode b_Pm_growTable 66 = .ok (.ifCond .le 5, 3) := by decide +kernel
theorem d_Pm_growTable_69 : decode b_Pm_growTable 69 = .ok (.iconst (-1), 1) := by decide +kernel
theorem d_Pm_growTable_70 : decode b_Pm_growTable 70 = .ok (.ireturn, 1) := by decide +kernel
theorem d_Pm_growTable_71 : decode b_Pm_growTable 71 = .ok (.aload_n 0, 1) := by decide +kernel
theorem d_Pm_growTable_72 : decode b_Pm_growTable 72 = .ok (.getfield 26, 3) := by decide +kernel
theorem d_Pm_growTable_75 : decode b_Pm_growTable 75 = .ok (.iload_n 1, 1) := by decide +kernel
theorem d_Pm_growTable_76 : decode b_Pm_growTable 76 = .ok (.invokevirtual 78, 3) := by decide +kernel
theorem d_Pm_growTable_79 : decode b_Pm_growTable 79 = .ok (.istore 7, 2) := by decide +kernel
theorem d_Pm_growTable_81 : decode b_Pm_growTable 81 = .ok (.aload_n 0, 1) := by decide +kernel
theorem d_Pm_growTable_82 : decode b_Pm_growTable 82 = .ok (.getfield 35, 3) := by decide +kernel
theorem d_Pm_growTable_85 : decode b_Pm_growTable 85 = .ok (.iload 7, 2) := by decide +kernel
theorem d_Pm_growTable_87 : decode b_Pm_growTable 87 = .ok (.aload_n 0, 1) := by decide +kernel
theorem d_Pm_growTable_88 : decode b_Pm_growTable 88 = .ok (.getfield 35, 3) := by decide +kernel
theorem d_Pm_growTable_91 : decode b_Pm_growTable 91 = .ok (.iload 7, 2) := by decide +kernel
theorem d_Pm_growTable_93 : decode b_Pm_growTable 93 = .ok (.iload_n 2, 1) := by decide +kernel
theorem d_Pm_growTable_94 : decode b_Pm_growTable 94 = .ok (.iadd, 1) := by decide +kernel
theorem d_Pm_growTable_95 : decode b_Pm_growTable 95 = .ok (.aload_n 0, 1) := by decide +kernel
theorem d_Pm_growTable_96 : decode b_Pm_growTable 96 = .ok (.getfield 26, 3) := by decide +kernel
theorem d_Pm_growTable_99 : decode b_Pm_growTable 99 = .ok (.invokevirtual 81, 3) := by decide +kernel
theorem d_Pm_growTable_102 : decode b_Pm_growTable 102 = .ok (.iload 7, 2) := by decide +kernel
theorem d_Pm_growTable_104 : decode b_Pm_growTable 104 = .ok (.isub, 1) := by decide +kernel
theorem d_Pm_growTable_105 : decode b_Pm_growTable 105 = .ok (.invokestatic 84, 3) := by decide +kernel
theorem d_Pm_growTable_108 : decode b_Pm_growTable 108 = .ok (.aload_n 0, 1) := by decide +kernel
theorem d_Pm_growTable_109 : decode b_Pm_growTable 109 = .ok (.getfield 35, 3) := by decide +kernel
theorem d_Pm_growTable_112 : decode b_Pm_growTable 112 = .ok (.iload 7, 2) := by decide +kernel
theorem d_Pm_growTable_114 : decode b_Pm_growTable 114 = .ok (.iload 7, 2) := by decide +kernel
theorem d_Pm_growTable_116 : decode b_Pm_growTable 116 = .ok (.iload_n 2, 1) := by decide +kernel
theorem d_Pm_growTable_117 : decode b_Pm_growTable 117 = .ok (.iadd, 1) := by decide +kernel
theorem d_Pm_growTable_118 : decode b_Pm_growTable 118 = .ok (.iload_n 3, 1) := by decide +kernel
theorem d_Pm_growTable_119 : decode b_Pm_growTable 119 = .ok (.invokestatic 153, 3) := by decide +kernel
theorem d_Pm_growTable_122 : decode b_Pm_growTable 122 = .ok (.aload_n 0, 1) := by decide +kernel
theorem d_Pm_growTable_123 : decode b_Pm_growTable 123 = .ok (.getfield 26, 3) := by decide +kernel
theorem d_Pm_growTable_126 : decode b_Pm_growTable 126 = .ok (.iload_n 1, 1) := by decide +kernel
theorem d_Pm_growTable_127 : decode b_Pm_growTable 127 = .ok (.iload_n 2, 1) := by decide +kernel
theorem d_Pm_growTable_128 : decode b_Pm_growTable 128 = .ok (.invokevirtual 96, 3) := by decide +kernel
theorem d_Pm_growTable_131 : decode b_Pm_growTable 131 = .ok (.iload 4, 2) := by decide +kernel
theorem d_Pm_growTable_133 : decode b_Pm_growTable 133 = .ok (.ireturn, 1) := by decide +kernel
theorem d_Pm_isReference_0 : decode b_Pm_isReference 0 = .ok (.iload_n 0, 1) := by decide +kernel
theorem d_Pm_isReference_1 : decode b_Pm_isReference 1 = .ok (.iconst (-1), 1) := by decide +kernel
theorem d_Pm_isReference_2 : decode b_Pm_isReference 2 = .ok (.if_icmp .lt 7, 3) := by decide +kernel
theorem d_Pm_isReference_5 : decode b_Pm_isReference 5 = .ok (.iconst 1, 1) := by decide +kernel
theorem d_Pm_isReference_6 : decode b_Pm_isReference 6 = .ok (.goto 4, 3) := by decide +kernel
theorem d_Pm_isReference_9 : decode b_Pm_isReference 9 = .ok (.iconst 0, 1) := by decide +kernel
theorem d_Pm_isReference_10 : decode b_Pm_isReference 10 = .ok (.ireturn, 1) := by decide +kernel
theorem d_Pm_element_0 : decode b_Pm_element 0 = .ok (.iload_n 1, 1) := by decide +kernel
theorem d_Pm_element_1 : decode b_Pm_element 1 = .ok (.invokestatic 158, 3) := by decide +kernel
theorem d_Pm_element_4 : decode b_Pm_element 4 = .ok (.ifCond .eq 15, 3) := by decide +kernel
theorem d_Pm_element_7 : decode b_Pm_element 7 = .ok (.aload_n 0, 1) := by decide +kernel
theorem d_Pm_element_8 : decode b_Pm_element 8 = .ok (.getfield 44, 3) := by decide +kernel
theorem d_Pm_element_11 : decode b_Pm_element 11 = .ok (.iconst 1, 1) := by decide +kernel
theorem d_Pm_element_12 : decode b_Pm_element 12 = .ok (.iload_n 2, 1) := by decide +kernel
theorem d_Pm_element_13 : decode b_Pm_element 13 = .ok (.invokevirtual 136, 3) := by decide +kernel
theorem d_Pm_element_16 : decode b_Pm_element 16 = .ok (.ifCond .ne 5, 3) := by decide +kernel
theorem d_Pm_element_19 : decode b_Pm_element 19 = .ok (.iconst (-1), 1) := by decide +kernel
theorem d_Pm_element_20 : decode b_Pm_element 20 = .ok (.ireturn, 1) := by decide +kernel
theorem d_Pm_element_21 : decode b_Pm_element 21 = .ok (.aload_n 0, 1) := by decide +kernel
theorem d_Pm_element_22 : decode b_Pm_element 22 = .ok (.getfield 47, 3) := by decide +kernel
theorem d_Pm_element_25 : decode b_Pm_element 25 = .ok (.aload_n 0, 1) := by decide +kernel
theorem d_Pm_element_26 : decode b_Pm_element 26 = .ok (.getfield 44, 3) := by decide +kernel
theorem d_Pm_element_29 : decode b_Pm_element 29 = .ok (.invokevirtual 81, 3) := by decide +kernel
theorem d_Pm_element_32 : decode b_Pm_element 32 = .ok (.iload_n 1, 1) := by decide +kernel
theorem d_Pm_element_33 : decode b_Pm_element 33 = .ok (.iastore, 1) := by decide +kernel
theorem d_Pm_element_34 : decode b_Pm_element 34 = .ok (.aload_n 0, 1) := by decide +kernel
theorem d_Pm_element_35 : decode b_Pm_element 35 = .ok (.getfield 44, 3) := by decide +kernel
theorem d_Pm_element_38 : decode b_Pm_element 38 = .ok (.iconst 1, 1) := by decide +kernel
theorem d_Pm_element_39 : decode b_Pm_element 39 = .ok (.iload_n 2, 1) := by decide +kernel
theorem d_Pm_element_40 : decode b_Pm_element 40 = .ok (.invokevirtual 140, 3) := by decide +kernel
theorem d_Pm_element_43 : decode b_Pm_element 43 = .ok (.ireturn, 1) := by decide +kernel
theorem d_Pm_trap_0 : decode b_Pm_trap 0 = .ok (.aload_n 0, 1) := by decide +kernel
theorem d_Pm_trap_1 : decode b_Pm_trap 1 = .ok (.getfield 50, 3) := by decide +kernel
theorem d_Pm_trap_4 : decode b_Pm_trap 4 = .ok (.ireturn, 1) := by decide +kernel
theorem d_Pm_size_0 : decode b_Pm_size 0 = .ok (.iload_n 1, 1) := by decide +kernel
theorem d_Pm_size_1 : decode b_Pm_size 1 = .ok (.tableswitch 271 0 12 #[67, 88, 110, 134, 156, 178, 202, 226, 231, 239, 247, 255, 263], 67) := by decide +kernel
theorem d_Pm_size_68 : decode b_Pm_size 68 = .ok (.aload_n 0, 1) := by decide +kernel
theorem d_Pm_size_69 : decode b_Pm_size 69 = .ok (.getfield 14, 3) := by decide +kernel
theorem d_Pm_size_72 : decode b_Pm_size 72 = .ok (.iload_n 2, 1) := by decide +kernel
theorem d_Pm_size_73 : decode b_Pm_size 73 = .ok (.invokevirtual 67, 3) := by decide +kernel
theorem d_Pm_size_76 : decode b_Pm_size 76 = .ok (.ifCond .eq 11, 3) := by decide +kernel
theorem d_Pm_size_79 : decode b_Pm_size 79 = .ok (.aload_n 0, 1) := by decide +kernel
theorem d_Pm_size_80 : decode b_Pm_size 80 = .ok (.iload_n 2, 1) := by decide +kernel
theorem d_Pm_size_81 : decode b_Pm_size 81 = .ok (.invokevirtual 71, 3) := by decide +kernel
theorem d_Pm_size_84 : decode b_Pm_size 84 = .ok (.goto 4, 3) := by decide +kernel
theorem d_Pm_size_87 : decode b_Pm_size 87 = .ok (.iconst (-1), 1) := by decide +kernel
theorem d_Pm_size_88 : decode b_Pm_size 88 = .ok (.ireturn, 1) := by decide +kernel
theorem d_Pm_size_89 : decode b_Pm_size 89 = .ok (.aload_n 0, 1) := by decide +kernel
theorem d_Pm_size_90 : decode b_Pm_size 90 = .ok (.getfield 14, 3) := by decide +kernel
theorem d_Pm_size_93 : decode b_Pm_size 93 = .ok (.iload_n 2, 1) := by decide +kernel
theorem d_Pm_size_94 : decode b_Pm_size 94 = .ok (.invokevirtual 67, 3) := by decide +kernel
theorem d_Pm_size_97 : decode b_Pm_size 97 = .ok (.ifCond .eq 12, 3) := by decide +kernel
theorem d_Pm_size_100 : decode b_Pm_size 100 = .ok (.aload_n 0, 1) := by decide +kernel
theorem d_Pm_size_101 : decode b_Pm_size 101 = .ok (.getfield 18, 3) := by decide +kernel
theorem d_Pm_size_104 : decode b_Pm_size 104 = .ok (.iload_n 2, 1) := by decide +kernel
theorem d_Pm_size_105 : decode b_Pm_size 105 = .ok (.iaload, 1) := by decide +kernel
theorem d_Pm_size_106 : decode b_Pm_size 106 = .ok (.goto 4, 3) := by decide +kernel
theorem d_Pm_size_109 : decode b_Pm_size 109 = .ok (.iconst (-1), 1) := by decide +kernel
theorem d_Pm_size_110 : decode b_Pm_size 110 = .ok (.ireturn, 1) := by decide +kernel
theorem d_Pm_size_111 : decode b_Pm_size 111 = .ok (.aload_n 0, 1) := by decide +kernel
theorem d_Pm_size_112 : decode b_Pm_size 112 = .ok (.getfield 26, 3) := by decide +kernel
theorem d_Pm_size_115 : decode b_Pm_size 115 = .ok (.iload_n 2, 1) := by decide +kernel
theorem d_Pm_size_116 : decode b_Pm_size 116 = .ok (.invokevirtual 67, 3) := by decide +kernel
theorem d_Pm_size_119 : decode b_Pm_size 119 = .ok (.ifCond .eq 14, 3) := by decide +kernel
theorem d_Pm_size_122 : decode b_Pm_size 122 = .ok (.aload_n 0, 1) := by decide +kernel
theorem d_Pm_size_123 : decode b_Pm_size 123 = .ok (.getfield 26, 3) := by decide +kernel
theorem d_Pm_size_126 : decode b_Pm_size 126 = .ok (.iload_n 2, 1) := by decide +kernel
theorem d_Pm_size_127 : decode b_Pm_size 127 = .ok (.invokevirtual 163, 3) := by decide +kernel
theorem d_Pm_size_130 : decode b_Pm_size 130 = .ok (.goto 4, 3) := by decide +kernel
theorem d_Pm_size_133 : decode b_Pm_size 133 = .ok (.iconst (-1), 1) := by decide +kernel
theorem d_Pm_size_134 : decode b_Pm_size 134 = .ok (.ireturn, 1) := by decide +kernel
theorem d_Pm_size_135 : decode b_Pm_size 135 = .ok (.aload_n 0, 1) := by decide +kernel
theorem d_Pm_size_136 : decode b_Pm_size 136 = .ok (.getfield 26, 3) := by decide +kernel
theorem d_Pm_size_139 : decode b_Pm_size 139 = .ok (.iload_n 2, 1) := by decide +kernel
theorem d_Pm_size_140 : decode b_Pm_size 140 = .ok (.invokevirtual 67, 3) := by decide +kernel
theorem d_Pm_size_143 : decode b_Pm_size 143 = .ok (.ifCond .eq 12, 3) := by decide +kernel
theorem d_Pm_size_146 : decode b_Pm_size 146 = .ok (.aload_n 0, 1) := by decide +kernel
theorem d_Pm_size_147 : decode b_Pm_size 147 = .ok (.getfield 29, 3) := by decide +kernel
theorem d_Pm_size_150 : decode b_Pm_size 150 = .ok (.iload_n 2, 1) := by decide +kernel
theorem d_Pm_size_151 : decode b_Pm_size 151 = .ok (.iaload, 1) := by decide +kernel
theorem d_Pm_size_152 : decode b_Pm_size 152 = .ok (.goto 4, 3) := by decide +kernel
theorem d_Pm_size_155 : decode b_Pm_size 155 = .ok (.iconst (-1), 1) := by decide +kernel
theorem d_Pm_size_156 : decode b_Pm_size 156 = .ok (.ireturn, 1) := by decide +kernel
theorem d_Pm_size_157 : decode b_Pm_size 157 = .ok (.aload_n 0, 1) := by decide +kernel
theorem d_Pm_size_158 : decode b_Pm_size 158 = .ok (.getfield 26, 3) := by decide +kernel
theorem d_Pm_size_161 : decode b_Pm_size 161 = .ok (.iload_n 2, 1) := by decide +kernel
theorem d_Pm_size_162 : decode b_Pm_size 162 = .ok (.invokevirtual 67, 3) := by decide +kernel
theorem d_Pm_size_165 : decode b_Pm_size 165 = .ok (.ifCond .eq 12, 3) := by decide +kernel
theorem d_Pm_size_168 : decode b_Pm_size 168 = .ok (.aload_n 0, 1) := by decide +kernel
theorem d_Pm_size_169 : decode b_Pm_size 169 = .ok (.getfield 32, 3) := by decide +kernel
theorem d_Pm_size_172 : decode b_Pm_size 172 = .ok (.iload_n 2, 1) := by decide +kernel
theorem d_Pm_size_173 : decode b_Pm_size 173 = .ok (.iaload, 1) := by decide +kernel
theorem d_Pm_size_174 : decode b_Pm_size 174 = .ok (.goto 4, 3) := by decide +kernel
theorem d_Pm_size_177 : decode b_Pm_size 177 = .ok (.iconst (-1), 1) := by decide +kernel
theorem d_Pm_size_178 : decode b_Pm_size 178 = .ok (.ireturn, 1) := by decide +kernel
theorem d_Pm_size_179 : decode b_Pm_size 179 = .ok (.aload_n 0, 1) := by decide +kernel
theorem d_Pm_size_180 : decode b_Pm_size 180 = .ok (.getfield 38, 3) := by decide +kernel
theorem d_Pm_size_183 : decode b_Pm_size 183 = .ok (.iload_n 2, 1) := by decide +kernel
theorem d_Pm_size_184 : decode b_Pm_size 184 = .ok (.invokevirtual 67, 3) := by decide +kernel
theorem d_Pm_size_187 : decode b_Pm_size 187 = .ok (.ifCond .eq 14, 3) := by decide +kernel
theorem d_Pm_size_190 : decode b_Pm_size 190 = .ok (.aload_n 0, 1) := by decide +kernel
theorem d_Pm_size_191 : decode b_Pm_size 191 = .ok (.getfield 38, 3) := by decide +kernel
theorem d_Pm_size_194 : decode b_Pm_size 194 = .ok (.iload_n 2, 1) := by decide +kernel
theorem d_Pm_size_195 : decode b_Pm_size 195 = .ok (.invokevirtual 163, 3) := by decide +kernel
theorem d_Pm_size_198 : decode b_Pm_size 198 = .ok (.goto 4, 3) := by decide +kernel
theorem d_Pm_size_201 : decode b_Pm_size 201 = .ok (.iconst (-1), 1) := by decide +kernel
theorem d_Pm_size_202 : decode b_Pm_size 202 = .ok (.ireturn, 1) := by decide +kernel
theorem d_Pm_size_203 : decode b_Pm_size 203 = .ok (.aload_n 0, 1) := by decide +kernel
theorem d_Pm_size_204 : decode b_Pm_size 204 = .ok (.getfield 44, 3) := by decide +kernel
theorem d_Pm_size_207 : decode b_Pm_size 207 = .ok (.iload_n 2, 1) := by decide +kernel
theorem d_Pm_size_208 : decode b_Pm_size 208 = .ok (.invokevirtual 67, 3) := by decide +kernel
theorem d_Pm_size_211 : decode b_Pm_size 211 = .ok (.ifCond .eq 14, 3) := by decide +kernel
theorem d_Pm_size_214 : decode b_Pm_size 214 = .ok (.aload_n 0, 1) := by decide +kernel
theorem d_Pm_size_215 : decode b_Pm_size 215 = .ok (.getfield 44, 3) := by decide +kernel
theorem d_Pm_size_218 : decode b_Pm_size 218 = .ok (.iload_n 2, 1) := by decide +kernel
theorem d_Pm_size_219 : decode b_Pm_size 219 = .ok (.invokevirtual 163, 3) := by decide +kernel
theorem d_Pm_size_222 : decode b_Pm_size 222 = .ok (.goto 4, 3) := by decide +kernel
theorem d_Pm_size_225 : decode b_Pm_size 225 = .ok (.iconst (-1), 1) := by decide +kernel
theorem d_Pm_size_226 : decode b_Pm_size 226 = .ok (.ireturn, 1) := by decide +kernel
theorem d_Pm_size_227 : decode b_Pm_size 227 = .ok (.aload_n 0, 1) := by decide +kernel
theorem d_Pm_size_228 : decode b_Pm_size 228 = .ok (.invokevirtual 59, 3) := by decide +kernel
theorem d_Pm_size_231 : decode b_Pm_size 231 = .ok (.ireturn, 1) := by decide +kernel
theorem d_Pm_size_232 : decode b_Pm_size 232 = .ok (.aload_n 0, 1) := by decide +kernel
theorem d_Pm_size_233 : decode b_Pm_size 233 = .ok (.getfield 26, 3) := by decide +kernel
theorem d_Pm_size_236 : decode b_Pm_size 236 = .ok (.invokevirtual 150, 3) := by decide +kernel
theorem d_Pm_size_239 : decode b_Pm_size 239 = .ok (.ireturn, 1) := by decide +kernel
theorem d_Pm_size_240 : decode b_Pm_size 240 = .ok (.aload_n 0, 1) := by decide +kernel
theorem d_Pm_size_241 : decode b_Pm_size 241 = .ok (.getfield 14, 3) := by decide +kernel
theorem d_Pm_size_244 : decode b_Pm_size 244 = .ok (.invokevirtual 170, 3) := by decide +kernel
theorem d_Pm_size_247 : decode b_Pm_size 247 = .ok (.ireturn, 1) := by decide +kernel
theorem d_Pm_size_248 : decode b_Pm_size 248 = .ok (.aload_n 0, 1) := by decide +kernel
theorem d_Pm_size_249 : decode b_Pm_size 249 = .ok (.getfield 26, 3) := by decide +kernel
theorem d_Pm_size_252 : decode b_Pm_size 252 = .ok (.invokevirtual 170, 3) := by decide +kernel
theorem d_Pm_size_255 : decode b_Pm_size 255 = .ok (.ireturn, 1) := by decide +kernel
theorem d_Pm_size_256 : decode b_Pm_size 256 = .ok (.aload_n 0, 1) := by decide +kernel
theorem d_Pm_size_257 : decode b_Pm_size 257 = .ok (.getfield 38, 3) := by decide +kernel
theorem d_Pm_size_260 : decode b_Pm_size 260 = .ok (.invokevirtual 170, 3) := by decide +kernel
theorem d_Pm_size_263 : decode b_Pm_size 263 = .ok (.ireturn, 1) := by decide +kernel
theorem d_Pm_size_264 : decode b_Pm_size 264 = .ok (.aload_n 0, 1) := by decide +kernel
theorem d_Pm_size_265 : decode b_Pm_size 265 = .ok (.getfield 44, 3) := by decide +kernel
theorem d_Pm_size_268 : decode b_Pm_size 268 = .ok (.invokevirtual 170, 3) := by decide +kernel
theorem d_Pm_size_271 : decode b_Pm_size 271 = .ok (.ireturn, 1) := by decide +kernel
theorem d_Pm_size_272 : decode b_Pm_size 272 = .ok (.iconst (-1), 1) := by decide +kernel
theorem d_Pm_size_273 : decode b_Pm_size 273 = .ok (.ireturn, 1) := by decide +kernel
theorem d_Pm_load_0 : decode b_Pm_load 0 = .ok (.aload_n 0, 1) := by decide +kernel
theorem d_Pm_load_1 : decode b_Pm_load 1 = .ok (.iconst 0, 1) := by decide +kernel
theorem d_Pm_load_2 : decode b_Pm_load 2 = .ok (.putfield 50, 3) := by decide +kernel
theorem d_Pm_load_5 : decode b_Pm_load 5 = .ok (.iload_n 2, 1) := by decide +kernel
theorem d_Pm_load_6 : decode b_Pm_load 6 = .ok (.bipush 40, 2) := by decide +kernel
theorem d_Pm_load_8 : decode b_Pm_load 8 = .ok (.getstatic 99, 3) := by decide +kernel
theorem d_Pm_load_11 : decode b_Pm_load 11 = .ok (.invokestatic 102, 3) := by decide +kernel
theorem d_Pm_load_14 : decode b_Pm_load 14 = .ok (.istore 5, 2) := by decide +kernel
theorem d_Pm_load_16 : decode b_Pm_load 16 = .ok (.aload_n 0, 1) := by decide +kernel
theorem d_Pm_load_17 : decode b_Pm_load 17 = .ok (.getfield 14, 3) := by decide +kernel
theorem d_Pm_load_20 : decode b_Pm_load 20 = .ok (.iload_n 1, 1) := by decide +kernel
theorem d_Pm_load_21 : decode b_Pm_load 21 = .ok (.invokevirtual 67, 3) := by decide +kernel
theorem d_Pm_load_24 : decode b_Pm_load 24 = .ok (.ifCond .eq 8, 3) := by decide +kernel
theorem d_Pm_load_27 : decode b_Pm_load 27 = .ok (.iload 5, 2) := by decide +kernel
theorem d_Pm_load_29 : decode b_Pm_load 29 = .ok (.ifCond .ne 13, 3) := by decide +kernel
theorem d_Pm_load_32 : decode b_Pm_load 32 = .ok (.new 106, 3) := by decide +kernel
theorem d_Pm_load_35 : decode b_Pm_load 35 = .ok (.dup, 1) := by decide +kernel
theorem d_Pm_load_36 : decode b_Pm_load 36 = .ok (.ldc 108, 2) := by decide +kernel
theorem d_Pm_load_38 : decode b_Pm_load 38 = .ok (.invokespecial 110, 3) := by decide +kernel
theorem d_Pm_load_41 : decode b_Pm_load 41 = .ok (.athrow, 1) := by decide +kernel
theorem d_Pm_load_42 : decode b_Pm_load 42 = .ok (.aload_n 0, 1) := by decide +kernel
theorem d_Pm_load_43 : decode b_Pm_load 43 = .ok (.aload_n 0, 1) := by decide +kernel
theorem d_Pm_load_44 : decode b_Pm_load 44 = .ok (.getfield 14, 3) := by decide +kernel
theorem d_Pm_load_47 : decode b_Pm_load 47 = .ok (.iload_n 1, 1) := by decide +kernel
theorem d_Pm_load_48 : decode b_Pm_load 48 = .ok (.iload_n 3, 1) := by decide +kernel
theorem d_Pm_load_49 : decode b_Pm_load 49 = .ok (.invokestatic 74, 3) := by decide +kernel
theorem d_Pm_load_52 : decode b_Pm_load 52 = .ok (.iload 4, 2) := by decide +kernel
theorem d_Pm_load_54 : decode b_Pm_load 54 = .ok (.invokestatic 74, 3) := by decide +kernel
theorem d_Pm_load_57 : decode b_Pm_load 57 = .ok (.ladd, 1) := by decide +kernel
theorem d_Pm_load_58 : decode b_Pm_load 58 = .ok (.iload 5, 2) := by decide +kernel
theorem d_Pm_load_60 : decode b_Pm_load 60 = .ok (.i2l, 1) := by decide +kernel
theorem d_Pm_load_61 : decode b_Pm_load 61 = .ok (.iconst 4, 1) := by decide +kernel
theorem d_Pm_load_62 : decode b_Pm_load 62 = .ok (.invokevirtual 113, 3) := by decide +kernel
theorem d_Pm_load_65 : decode b_Pm_load 65 = .ok (.istore 6, 2) := by decide +kernel
theorem d_Pm_load_67 : decode b_Pm_load 67 = .ok (.lconst 0, 1) := by decide +kernel
theorem d_Pm_load_68 : decode b_Pm_load 68 = .ok (.lstore 7, 2) := by decide +kernel
theorem d_Pm_load_70 : decode b_Pm_load 70 = .ok (.iconst 0, 1) := by decide +kernel
theorem d_Pm_load_71 : decode b_Pm_load 71 = .ok (.istore 9, 2) := by decide +kernel
theorem d_Pm_load_73 : decode b_Pm_load 73 = .ok (.iload 9, 2) := by decide +kernel
theorem d_Pm_load_75 : decode b_Pm_load 75 = .ok (.iload 5, 2) := by decide +kernel
theorem d_Pm_load_77 : decode b_Pm_load 77 = .ok (.if_icmp .ge 35, 3) := by decide +kernel
theorem d_Pm_load_80 : decode b_Pm_load 80 = .ok (.lload 7, 2) := by decide +kernel
theorem d_Pm_load_82 : decode b_Pm_load 82 = .ok (.aload_n 0, 1) := by decide +kernel
theorem d_Pm_load_83 : decode b_Pm_load 83 = .ok (.getfield 22, 3) := by decide +kernel
theorem d_Pm_load_86 : decode b_Pm_load 86 = .ok (.iload 6, 2) := by decide +kernel
theorem d_Pm_load_88 : decode b_Pm_load 88 = .ok (.iload 9, 2) := by decide +kernel
theorem d_Pm_load_90 : decode b_Pm_load 90 = .ok (.iadd, 1) := by decide +kernel
theorem d_Pm_load_91 : decode b_Pm_load 91 = .ok (.baload, 1) := by decide +kernel
theorem d_Pm_load_92 : decode b_Pm_load 92 = .ok (.i2l, 1) := by decide +kernel
theorem d_Pm_load_93 : decode b_Pm_load 93 = .ok (.ldc2_w 117, 3) := by decide +kernel
theorem d_Pm_load_96 : decode b_Pm_load 96 = .ok (.land, 1) := by decide +kernel
theorem d_Pm_load_97 : decode b_Pm_load 97 = .ok (.bipush 8, 2) := by decide +kernel
theorem d_Pm_load_99 : decode b_Pm_load 99 = .ok (.iload 9, 2) := by decide +kernel
theorem d_Pm_load_101 : decode b_Pm_load 101 = .ok (.imul, 1) := by decide +kernel
theorem d_Pm_load_102 : decode b_Pm_load 102 = .ok (.lshl, 1) := by decide +kernel
theorem d_Pm_load_103 : decode b_Pm_load 103 = .ok (.lor, 1) := by decide +kernel
theorem d_Pm_load_104 : decode b_Pm_load 104 = .ok (.lstore 7, 2) := by decide +kernel
theorem d_Pm_load_106 : decode b_Pm_load 106 = .ok (.iinc 9 1, 3) := by decide +kernel
theorem d_Pm_load_109 : decode b_Pm_load 109 = .ok (.goto (-36), 3) := by decide +kernel
theorem d_Pm_load_112 : decode b_Pm_load 112 = .ok (.iload_n 2, 1) := by decide +kernel
theorem d_Pm_load_113 : decode b_Pm_load 113 = .ok (.lload 7, 2) := by decide +kernel
theorem d_Pm_load_115 : decode b_Pm_load 115 = .ok (.invokestatic 119, 3) := by decide +kernel
theorem d_Pm_load_118 : decode b_Pm_load 118 = .ok (.lreturn, 1) := by decide +kernel
theorem d_Pm_widthOf_0 : decode b_Pm_widthOf 0 = .ok (.iload_n 0, 1) := by decide +kernel
theorem d_Pm_widthOf_1 : decode b_Pm_widthOf 1 = .ok (.iload_n 1, 1) := by decide +kernel
theorem d_Pm_widthOf_2 : decode b_Pm_widthOf 2 = .ok (.if_icmp .lt 11, 3) := by decide +kernel
theorem d_Pm_widthOf_5 : decode b_Pm_widthOf 5 = .ok (.iload_n 0, 1) := by decide +kernel
theorem d_Pm_widthOf_6 : decode b_Pm_widthOf 6 = .ok (.iload_n 1, 1) := by decide +kernel
theorem d_Pm_widthOf_7 : decode b_Pm_widthOf 7 = .ok (.isub, 1) := by decide +kernel
theorem d_Pm_widthOf_8 : decode b_Pm_widthOf 8 = .ok (.aload_n 2, 1) := by decide +kernel
theorem d_Pm_widthOf_9 : decode b_Pm_widthOf 9 = .ok (.arraylength, 1) := by decide +kernel
theorem d_Pm_widthOf_10 : decode b_Pm_widthOf 10 = .ok (.if_icmp .lt 5, 3) := by decide +kernel
theorem d_Pm_widthOf_13 : decode b_Pm_widthOf 13 = .ok (.iconst 0, 1) := by decide +kernel
theorem d_Pm_widthOf_14 : decode b_Pm_widthOf 14 = .ok (.ireturn, 1) := by decide +kernel
theorem d_Pm_widthOf_15 : decode b_Pm_widthOf 15 = .ok (.aload_n 2, 1) := by decide +kernel
theorem d_Pm_widthOf_16 : decode b_Pm_widthOf 16 = .ok (.iload_n 0, 1) := by decide +kernel
theorem d_Pm_widthOf_17 : decode b_Pm_widthOf 17 = .ok (.iload_n 1, 1) := by decide +kernel
theorem d_Pm_widthOf_18 : decode b_Pm_widthOf 18 = .ok (.isub, 1) := by decide +kernel
theorem d_Pm_widthOf_19 : decode b_Pm_widthOf 19 = .ok (.iaload, 1) := by decide +kernel
theorem d_Pm_widthOf_20 : decode b_Pm_widthOf 20 = .ok (.ireturn, 1) := by decide +kernel
theorem d_Pm_placeOf_0 : decode b_Pm_placeOf 0 = .ok (.lload_n 3, 1) := by decide +kernel
theorem d_Pm_placeOf_1 : decode b_Pm_placeOf 1 = .ok (.lload 5, 2) := by decide +kernel
theorem d_Pm_placeOf_3 : decode b_Pm_placeOf 3 = .ok (.ladd, 1) := by decide +kernel
theorem d_Pm_placeOf_4 : decode b_Pm_placeOf 4 = .ok (.aload_n 1, 1) := by decide +kernel
theorem d_Pm_placeOf_5 : decode b_Pm_placeOf 5 = .ok (.iload_n 2, 1) := by decide +kernel
theorem d_Pm_placeOf_6 : decode b_Pm_placeOf 6 = .ok (.invokevirtual 163, 3) := by decide +kernel
theorem d_Pm_placeOf_9 : decode b_Pm_placeOf 9 = .ok (.i2l, 1) := by decide +kernel
theorem d_Pm_placeOf_10 : decode b_Pm_placeOf 10 = .ok (.lcmp, 1) := by decide +kernel
theorem d_Pm_placeOf_11 : decode b_Pm_placeOf 11 = .ok (.ifCond .le 19, 3) := by decide +kernel
theorem d_Pm_placeOf_14 : decode b_Pm_placeOf 14 = .ok (.aload_n 0, 1) := by decide +kernel
theorem d_Pm_placeOf_15 : decode b_Pm_placeOf 15 = .ok (.iload 7, 2) := by decide +kernel
theorem d_Pm_placeOf_17 : decode b_Pm_placeOf 17 = .ok (.putfield 50, 3) := by decide +kernel
theorem d_Pm_placeOf_20 : decode b_Pm_placeOf 20 = .ok (.new 173, 3) := by decide +kernel
theorem d_Pm_placeOf_23 : decode b_Pm_placeOf 23 = .ok (.dup, 1) := by decide +kernel
theorem d_Pm_placeOf_24 : decode b_Pm_placeOf 24 = .ok (.ldc 175, 2) := by decide +kernel
theorem d_Pm_placeOf_26 : decode b_Pm_placeOf 26 = .ok (.invokespecial 177, 3) := by decide +kernel
theorem d_Pm_placeOf_29 : decode b_Pm_placeOf 29 = .ok (.athrow, 1) := by decide +kernel
theorem d_Pm_placeOf_30 : decode b_Pm_placeOf 30 = .ok (.aload_n 1, 1) := by decide +kernel
theorem d_Pm_placeOf_31 : decode b_Pm_placeOf 31 = .ok (.iload_n 2, 1) := by decide +kernel
theorem d_Pm_placeOf_32 : decode b_Pm_placeOf 32 = .ok (.invokevirtual 178, 3) := by decide +kernel
theorem d_Pm_placeOf_35 : decode b_Pm_placeOf 35 = .ok (.lload_n 3, 1) := by decide +kernel
theorem d_Pm_placeOf_36 : decode b_Pm_placeOf 36 = .ok (.l2i, 1) := by decide +kernel
theorem d_Pm_placeOf_37 : decode b_Pm_placeOf 37 = .ok (.iadd, 1) := by decide +kernel
theorem d_Pm_placeOf_38 : decode b_Pm_placeOf 38 = .ok (.ireturn, 1) := by decide +kernel
theorem d_Pm_extended_0 : decode b_Pm_extended 0 = .ok (.iload_n 0, 1) := by decide +kernel
theorem d_Pm_extended_1 : decode b_Pm_extended 1 = .ok (.tableswitch 83 44 52 #[51, 83, 60, 83, 69, 83, 74, 83, 79], 51) := by decide +kernel
theorem d_Pm_extended_52 : decode b_Pm_extended 52 = .ok (.lload_n 1, 1) := by decide +kernel
theorem d_Pm_extended_53 : decode b_Pm_extended 53 = .ok (.l2i, 1) := by decide +kernel
theorem d_Pm_extended_54 : decode b_Pm_extended 54 = .ok (.i2b, 1) := by decide +kernel
theorem d_Pm_extended_55 : decode b_Pm_extended 55 = .ok (.i2l, 1) := by decide +kernel
theorem d_Pm_extended_56 : decode b_Pm_extended 56 = .ok (.ldc2_w 181, 3) := by decide +kernel
theorem d_Pm_extended_59 : decode b_Pm_extended 59 = .ok (.land, 1) := by decide +kernel
theorem d_Pm_extended_60 : decode b_Pm_extended 60 = .ok (.lreturn, 1) := by decide +kernel
theorem d_Pm_extended_61 : decode b_Pm_extended 61 = .ok (.lload_n 1, 1) := by decide +kernel
theorem d_Pm_extended_62 : decode b_Pm_extended 62 = .ok (.l2i, 1) := by decide +kernel
theorem d_Pm_extended_63 : decode b_Pm_extended 63 = .ok (.i2s, 1) := by decide +kernel
theorem d_Pm_extended_64 : decode b_Pm_extended 64 = .ok (.i2l, 1) := by decide +kernel
theorem d_Pm_extended_65 : decode b_Pm_extended 65 = .ok (.ldc2_w 181, 3) := by decide +kernel
theorem d_Pm_extended_68 : decode b_Pm_extended 68 = .ok (.land, 1) := by decide +kernel
theorem d_Pm_extended_69 : decode b_Pm_extended 69 = .ok (.lreturn, 1) := by decide +kernel
theorem d_Pm_extended_70 : decode b_Pm_extended 70 = .ok (.lload_n 1, 1) := by decide +kernel
theorem d_Pm_extended_71 : decode b_Pm_extended 71 = .ok (.l2i, 1) := by decide +kernel
theorem d_Pm_extended_72 : decode b_Pm_extended 72 = .ok (.i2b, 1) := by decide +kernel
theorem d_Pm_extended_73 : decode b_Pm_extended 73 = .ok (.i2l, 1) := by decide +kernel
theorem d_Pm_extended_74 : decode b_Pm_extended 74 = .ok (.lreturn, 1) := by decide +kernel
theorem d_Pm_extended_75 : decode b_Pm_extended 75 = .ok (.lload_n 1, 1) := by decide +kernel
theorem d_Pm_extended_76 : decode b_Pm_extended 76 = .ok (.l2i, 1) := by decide +kernel
theorem d_Pm_extended_77 : decode b_Pm_extended 77 = .ok (.i2s, 1) := by decide +kernel
theorem d_Pm_extended_78 : decode b_Pm_extended 78 = .ok (.i2l, 1) := by decide +kernel
theorem d_Pm_extended_79 : decode b_Pm_extended 79 = .ok (.lreturn, 1) := by decide +kernel
theorem d_Pm_extended_80 : decode b_Pm_extended 80 = .ok (.lload_n 1, 1) := by decide +kernel
theorem d_Pm_extended_81 : decode b_Pm_extended 81 = .ok (.l2i, 1) := by decide +kernel
theorem d_Pm_extended_82 : decode b_Pm_extended 82 = .ok (.i2l, 1) := by decide +kernel
theorem d_Pm_extended_83 : decode b_Pm_extended 83 = .ok (.lreturn, 1) := by decide +kernel
theorem d_Pm_extended_84 : decode b_Pm_extended 84 = .ok (.lload_n 1, 1) := by decide +kernel
theorem d_Pm_extended_85 : decode b_Pm_extended 85 = .ok (.lreturn, 1) := by decide +kernel
theorem d_Pm_store_0 : decode b_Pm_store 0 = .ok (.aload_n 0, 1) := by decide +kernel
theorem d_Pm_store_1 : decode b_Pm_store 1 = .ok (.iconst 0, 1) := by decide +kernel
theorem d_Pm_store_2 : decode b_Pm_store 2 = .ok (.putfield 50, 3) := by decide +kernel
theorem d_Pm_store_5 : decode b_Pm_store 5 = .ok (.iload_n 2, 1) := by decide +kernel
theorem d_Pm_store_6 : decode b_Pm_store 6 = .ok (.bipush 54, 2) := by decide +kernel
theorem d_Pm_store_8 : decode b_Pm_store 8 = .ok (.getstatic 123, 3) := by decide +kernel
theorem d_Pm_store_11 : decode b_Pm_store 11 = .ok (.invokestatic 102, 3) := by decide +kernel
theorem d_Pm_store_14 : decode b_Pm_store 14 = .ok (.istore 7, 2) := by decide +kernel
theorem d_Pm_store_16 : decode b_Pm_store 16 = .ok (.aload_n 0, 1) := by decide +kernel
theorem d_Pm_store_17 : decode b_Pm_store 17 = .ok (.getfield 14, 3) := by decide +kernel
theorem d_Pm_store_20 : decode b_Pm_store 20 = .ok (.iload_n 1, 1) := by decide +kernel
theorem d_Pm_store_21 : decode b_Pm_store 21 = .ok (.invokevirtual 67, 3) := by decide +kernel
theorem d_Pm_store_24 : decode b_Pm_store 24 = .ok (.ifCond .eq 8, 3) := by decide +kernel
theorem d_Pm_store_27 : decode b_Pm_store 27 = .ok (.iload 7, 2) := by decide +kernel
theorem d_Pm_store_29 : decode b_Pm_store 29 = .ok (.ifCond .ne 13, 3) := by decide +kernel
theorem d_Pm_store_32 : decode b_Pm_store 32 = .ok (.new 106, 3) := by decide +kernel
theorem d_Pm_store_35 : decode b_Pm_store 35 = .ok (.dup, 1) := by decide +kernel
theorem d_Pm_store_36 : decode b_Pm_store 36 = .ok (.ldc 126, 2) := by decide +kernel
theorem d_Pm_store_38 : decode b_Pm_store 38 = .ok (.invokespecial 110, 3) := by decide +kernel
theorem d_Pm_store_41 : decode b_Pm_store 41 = .ok (.athrow, 1) := by decide +kernel
theorem d_Pm_store_42 : decode b_Pm_store 42 = .ok (.aload_n 0, 1) := by decide +kernel
theorem d_Pm_store_43 : decode b_Pm_store 43 = .ok (.aload_n 0, 1) := by decide +kernel
theorem d_Pm_store_44 : decode b_Pm_store 44 = .ok (.getfield 14, 3) := by decide +kernel
theorem d_Pm_store_47 : decode b_Pm_store 47 = .ok (.iload_n 1, 1) := by decide +kernel
theorem d_Pm_store_48 : decode b_Pm_store 48 = .ok (.iload_n 3, 1) := by decide +kernel
theorem d_Pm_store_49 : decode b_Pm_store 49 = .ok (.invokestatic 74, 3) := by decide +kernel
theorem d_Pm_store_52 : decode b_Pm_store 52 = .ok (.iload 4, 2) := by decide +kernel
theorem d_Pm_store_54 : decode b_Pm_store 54 = .ok (.invokestatic 74, 3) := by decide +kernel
theorem d_Pm_store_57 : decode b_Pm_store 57 = .ok (.ladd, 1) := by decide +kernel
theorem d_Pm_store_58 : decode b_Pm_store 58 = .ok (.iload 7, 2) := by decide +kernel
theorem d_Pm_store_60 : decode b_Pm_store 60 = .ok (.i2l, 1) := by decide +kernel
theorem d_Pm_store_61 : decode b_Pm_store 61 = .ok (.iconst 4, 1) := by decide +kernel
theorem d_Pm_store_62 : decode b_Pm_store 62 = .ok (.invokevirtual 113, 3) := by decide +kernel
theorem d_Pm_store_65 : decode b_Pm_store 65 = .ok (.istore 8, 2) := by decide +kernel
theorem d_Pm_store_67 : decode b_Pm_store 67 = .ok (.lload 5, 2) := by decide +kernel
theorem d_Pm_store_69 : decode b_Pm_store 69 = .ok (.iload 7, 2) := by decide +kernel
theorem d_Pm_store_71 : decode b_Pm_store 71 = .ok (.aload_n 0, 1) := by decide +kernel
theorem d_Pm_store_72 : decode b_Pm_store 72 = .ok (.getfield 22, 3) := by decide +kernel
theorem d_Pm_store_75 : decode b_Pm_store 75 = .ok (.iload 8, 2) := by decide +kernel
theorem d_Pm_store_77 : decode b_Pm_store 77 = .ok (.invokestatic 128, 3) := by decide +kernel
theorem d_Pm_store_80 : decode b_Pm_store 80 = .ok (.return_, 1) := by decide +kernel
theorem d_Pm_fill_0 : decode b_Pm_fill 0 = .ok (.aload_n 0, 1) := by decide +kernel
theorem d_Pm_fill_1 : decode b_Pm_fill 1 = .ok (.iconst 0, 1) := by decide +kernel
theorem d_Pm_fill_2 : decode b_Pm_fill 2 = .ok (.putfield 50, 3) := by decide +kernel
theorem d_Pm_fill_5 : decode b_Pm_fill 5 = .ok (.aload_n 0, 1) := by decide +kernel
theorem d_Pm_fill_6 : decode b_Pm_fill 6 = .ok (.getfield 14, 3) := by decide +kernel
theorem d_Pm_fill_9 : decode b_Pm_fill 9 = .ok (.iload_n 1, 1) := by decide +kernel
theorem d_Pm_fill_10 : decode b_Pm_fill 10 = .ok (.invokevirtual 67, 3) := by decide +kernel
theorem d_Pm_fill_13 : decode b_Pm_fill 13 = .ok (.ifCond .ne 13, 3) := by decide +kernel
theorem d_Pm_fill_16 : decode b_Pm_fill 16 = .ok (.new 106, 3) := by decide +kernel
theorem d_Pm_fill_19 : decode b_Pm_fill 19 = .ok (.dup, 1) := by decide +kernel
theorem d_Pm_fill_20 : decode b_Pm_fill 20 = .ok (.ldc 132, 2) := by decide +kernel
theorem d_Pm_fill_22 : decode b_Pm_fill 22 = .ok (.invokespecial 110, 3) := by decide +kernel
theorem d_Pm_fill_25 : decode b_Pm_fill 25 = .ok (.athrow, 1) := by decide +kernel
theorem d_Pm_fill_26 : decode b_Pm_fill 26 = .ok (.aload_n 0, 1) := by decide +kernel
theorem d_Pm_fill_27 : decode b_Pm_fill 27 = .ok (.aload_n 0, 1) := by decide +kernel
theorem d_Pm_fill_28 : decode b_Pm_fill 28 = .ok (.getfield 14, 3) := by decide +kernel
theorem d_Pm_fill_31 : decode b_Pm_fill 31 = .ok (.iload_n 1, 1) := by decide +kernel
theorem d_Pm_fill_32 : decode b_Pm_fill 32 = .ok (.iload_n 2, 1) := by decide +kernel
theorem d_Pm_fill_33 : decode b_Pm_fill 33 = .ok (.invokestatic 74, 3) := by decide +kernel
theorem d_Pm_fill_36 : decode b_Pm_fill 36 = .ok (.iload 4, 2) := by decide +kernel
theorem d_Pm_fill_38 : decode b_Pm_fill 38 = .ok (.invokestatic 74, 3) := by decide +kernel
theorem d_Pm_fill_41 : decode b_Pm_fill 41 = .ok (.iconst 4, 1) := by decide +kernel
theorem d_Pm_fill_42 : decode b_Pm_fill 42 = .ok (.invokevirtual 113, 3) := by decide +kernel
theorem d_Pm_fill_45 : decode b_Pm_fill 45 = .ok (.istore 5, 2) := by decide +kernel
theorem d_Pm_fill_47 : decode b_Pm_fill 47 = .ok (.aload_n 0, 1) := by decide +kernel
theorem d_Pm_fill_48 : decode b_Pm_fill 48 = .ok (.getfield 22, 3) := by decide +kernel
theorem d_Pm_fill_51 : decode b_Pm_fill 51 = .ok (.iload 5, 2) := by decide +kernel
theorem d_Pm_fill_53 : decode b_Pm_fill 53 = .ok (.iload 5, 2) := by decide +kernel
theorem d_Pm_fill_55 : decode b_Pm_fill 55 = .ok (.iload 4, 2) := by decide +kernel
theorem d_Pm_fill_57 : decode b_Pm_fill 57 = .ok (.iadd, 1) := by decide +kernel
theorem d_Pm_fill_58 : decode b_Pm_fill 58 = .ok (.iload_n 3, 1) := by decide +kernel
theorem d_Pm_fill_59 : decode b_Pm_fill 59 = .ok (.i2b, 1) := by decide +kernel
theorem d_Pm_fill_60 : decode b_Pm_fill 60 = .ok (.invokestatic 90, 3) := by decide +kernel
theorem d_Pm_fill_63 : decode b_Pm_fill 63 = .ok (.return_, 1) := by decide +kernel
theorem d_Pm_copy_0 : decode b_Pm_copy 0 = .ok (.aload_n 0, 1) := by decide +kernel
theorem d_Pm_copy_1 : decode b_Pm_copy 1 = .ok (.iconst 0, 1) := by decide +kernel
theorem d_Pm_copy_2 : decode b_Pm_copy 2 = .ok (.putfield 50, 3) := by decide +kernel
theorem d_Pm_copy_5 : decode b_Pm_copy 5 = .ok (.aload_n 0, 1) := by decide +kernel
theorem d_Pm_copy_6 : decode b_Pm_copy 6 = .ok (.getfield 14, 3) := by decide +kernel
theorem d_Pm_copy_9 : decode b_Pm_copy 9 = .ok (.iload_n 1, 1) := by decide +kernel
theorem d_Pm_copy_10 : decode b_Pm_copy 10 = .ok (.invokevirtual 67, 3) := by decide +kernel
theorem d_Pm_copy_13 : decode b_Pm_copy 13 = .ok (.ifCond .ne 13, 3) := by decide +kernel
theorem d_Pm_copy_16 : decode b_Pm_copy 16 = .ok (.new 106, 3) := by decide +kernel
theorem d_Pm_copy_19 : decode b_Pm_copy 19 = .ok (.dup, 1) := by decide +kernel
theorem d_Pm_copy_20 : decode b_Pm_copy 20 = .ok (.ldc 132, 2) := by decide +kernel
theorem d_Pm_copy_22 : decode b_Pm_copy 22 = .ok (.invokespecial 110, 3) := by decide +kernel
theorem d_Pm_copy_25 : decode b_Pm_copy 25 = .ok (.athrow, 1) := by decide +kernel
theorem d_Pm_copy_26 : decode b_Pm_copy 26 = .ok (.aload_n 0, 1) := by decide +kernel
theorem d_Pm_copy_27 : decode b_Pm_copy 27 = .ok (.aload_n 0, 1) := by decide +kernel
theorem d_Pm_copy_28 : decode b_Pm_copy 28 = .ok (.getfield 14, 3) := by decide +kernel
theorem d_Pm_copy_31 : decode b_Pm_copy 31 = .ok (.iload_n 1, 1) := by decide +kernel
theorem d_Pm_copy_32 : decode b_Pm_copy 32 = .ok (.iload_n 3, 1) := by decide +kernel
theorem d_Pm_copy_33 : decode b_Pm_copy 33 = .ok (.invokestatic 74, 3) := by decide +kernel
theorem d_Pm_copy_36 : decode b_Pm_copy 36 = .ok (.iload 4, 2) := by decide +kernel
theorem d_Pm_copy_38 : decode b_Pm_copy 38 = .ok (.invokestatic 74, 3) := by decide +kernel
theorem d_Pm_copy_41 : decode b_Pm_copy 41 = .ok (.iconst 4, 1) := by decide +kernel
theorem d_Pm_copy_42 : decode b_Pm_copy 42 = .ok (.invokevirtual 113, 3) := by decide +kernel
theorem d_Pm_copy_45 : decode b_Pm_copy 45 = .ok (.istore 5, 2) := by decide +kernel
theorem d_Pm_copy_47 : decode b_Pm_copy 47 = .ok (.aload_n 0, 1) := by decide +kernel
theorem d_Pm_copy_48 : decode b_Pm_copy 48 = .ok (.aload_n 0, 1) := by decide +kernel
theorem d_Pm_copy_49 : decode b_Pm_copy 49 = .ok (.getfield 14, 3) := by decide +kernel
theorem d_Pm_copy_52 : decode b_Pm_copy 52 = .ok (.iload_n 1, 1) := by decide +kernel
theorem d_Pm_copy_53 : decode b_Pm_copy 53 = .ok (.iload_n 2, 1) := by decide +kernel
theorem d_Pm_copy_54 : decode b_Pm_copy 54 = .ok (.invokestatic 74, 3) := by decide +kernel
theorem d_Pm_copy_57 : decode b_Pm_copy 57 = .ok (.iload 4, 2) := by decide +kernel
theorem d_Pm_copy_59 : decode b_Pm_copy 59 = .ok (.invokestatic 74, 3) := by decide +kernel
theorem d_Pm_copy_62 : decode b_Pm_copy 62 = .ok (.iconst 4, 1) := by decide +kernel
theorem d_Pm_copy_63 : decode b_Pm_copy 63 = .ok (.invokevirtual 113, 3) := by decide +kernel
theorem d_Pm_copy_66 : decode b_Pm_copy 66 = .ok (.istore 6, 2) := by decide +kernel
theorem d_Pm_copy_68 : decode b_Pm_copy 68 = .ok (.aload_n 0, 1) := by decide +kernel
theorem d_Pm_copy_69 : decode b_Pm_copy 69 = .ok (.getfield 22, 3) := by decide +kernel
theorem d_Pm_copy_72 : decode b_Pm_copy 72 = .ok (.iload 5, 2) := by decide +kernel
theorem d_Pm_copy_74 : decode b_Pm_copy 74 = .ok (.aload_n 0, 1) := by decide +kernel
theorem d_Pm_copy_75 : decode b_Pm_copy 75 = .ok (.getfield 22, 3) := by decide +kernel
theorem d_Pm_copy_78 : decode b_Pm_copy 78 = .ok (.iload 6, 2) := by decide +kernel
theorem d_Pm_copy_80 : decode b_Pm_copy 80 = .ok (.iload 4, 2) := by decide +kernel
theorem d_Pm_copy_82 : decode b_Pm_copy 82 = .ok (.invokestatic 84, 3) := by decide +kernel
theorem d_Pm_copy_85 : decode b_Pm_copy 85 = .ok (.return_, 1) := by decide +kernel
theorem d_Pm_init_0 : decode b_Pm_init 0 = .ok (.aload_n 0, 1) := by decide +kernel
theorem d_Pm_init_1 : decode b_Pm_init 1 = .ok (.iconst 0, 1) := by decide +kernel
theorem d_Pm_init_2 : decode b_Pm_init 2 = .ok (.putfield 50, 3) := by decide +kernel
theorem d_Pm_init_5 : decode b_Pm_init 5 = .ok (.aload_n 0, 1) := by decide +kernel
theorem d_Pm_init_6 : decode b_Pm_init 6 = .ok (.getfield 14, 3) := by decide +kernel
theorem d_Pm_init_9 : decode b_Pm_init 9 = .ok (.iload_n 1, 1) := by decide +kernel
theorem d_Pm_init_10 : decode b_Pm_init 10 = .ok (.invokevirtual 67, 3) := by decide +kernel
theorem d_Pm_init_13 : decode b_Pm_init 13 = .ok (.ifCond .eq 14, 3) := by decide +kernel
theorem d_Pm_init_16 : decode b_Pm_init 16 = .ok (.aload_n 0, 1) := by decide +kernel
theorem d_Pm_init_17 : decode b_Pm_init 17 = .ok (.getfield 38, 3) := by decide +kernel
theorem d_Pm_init_20 : decode b_Pm_init 20 = .ok (.iload_n 2, 1) := by decide +kernel
theorem d_Pm_init_21 : decode b_Pm_init 21 = .ok (.invokevirtual 67, 3) := by decide +kernel
theorem d_Pm_init_24 : decode b_Pm_init 24 = .ok (.ifCond .ne 13, 3) := by decide +kernel
theorem d_Pm_init_27 : decode b_Pm_init 27 = .ok (.new 106, 3) := by decide +kernel
theorem d_Pm_init_30 : decode b_Pm_init 30 = .ok (.dup, 1) := by decide +kernel
theorem d_Pm_init_31 : decode b_Pm_init 31 = .ok (.ldc 134, 2) := by decide +kernel
theorem d_Pm_init_33 : decode b_Pm_init 33 = .ok (.invokespecial 110, 3) := by decide +kernel
theorem d_Pm_init_36 : decode b_Pm_init 36 = .ok (.athrow, 1) := by decide +kernel
theorem d_Pm_init_37 : decode b_Pm_init 37 = .ok (.aload_n 0, 1) := by decide +kernel
theorem d_Pm_init_38 : decode b_Pm_init 38 = .ok (.aload_n 0, 1) := by decide +kernel
theorem d_Pm_init_39 : decode b_Pm_init 39 = .ok (.getfield 38, 3) := by decide +kernel
theorem d_Pm_init_42 : decode b_Pm_init 42 = .ok (.iload_n 2, 1) := by decide +kernel
theorem d_Pm_init_43 : decode b_Pm_init 43 = .ok (.iload 4, 2) := by decide +kernel
theorem d_Pm_init_45 : decode b_Pm_init 45 = .ok (.invokestatic 74, 3) := by decide +kernel
theorem d_Pm_init_48 : decode b_Pm_init 48 = .ok (.iload 5, 2) := by decide +kernel
theorem d_Pm_init_50 : decode b_Pm_init 50 = .ok (.invokestatic 74, 3) := by decide +kernel
theorem d_Pm_init_53 : decode b_Pm_init 53 = .ok (.iconst 4, 1) := by decide +kernel
theorem d_Pm_init_54 : decode b_Pm_init 54 = .ok (.invokevirtual 113, 3) := by decide +kernel
theorem d_Pm_init_57 : decode b_Pm_init 57 = .ok (.istore 6, 2) := by decide +kernel
theorem d_Pm_init_59 : decode b_Pm_init 59 = .ok (.aload_n 0, 1) := by decide +kernel
theorem d_Pm_init_60 : decode b_Pm_init 60 = .ok (.aload_n 0, 1) := by decide +kernel
theorem d_Pm_init_61 : decode b_Pm_init 61 = .ok (.getfield 14, 3) := by decide +kernel
theorem d_Pm_init_64 : decode b_Pm_init 64 = .ok (.iload_n 1, 1) := by decide +kernel
theorem d_Pm_init_65 : decode b_Pm_init 65 = .ok (.iload_n 3, 1) := by decide +kernel
theorem d_Pm_init_66 : decode b_Pm_init 66 = .ok (.invokestatic 74, 3) := by decide +kernel
theorem d_Pm_init_69 : decode b_Pm_init 69 = .ok (.iload 5, 2) := by decide +kernel
theorem d_Pm_init_71 : decode b_Pm_init 71 = .ok (.invokestatic 74, 3) := by decide +kernel
theorem d_Pm_init_74 : decode b_Pm_init 74 = .ok (.iconst 4, 1) := by decide +kernel
theorem d_Pm_init_75 : decode b_Pm_init 75 = .ok (.invokevirtual 113, 3) := by decide +kernel
theorem d_Pm_init_78 : decode b_Pm_init 78 = .ok (.istore 7, 2) := by decide +kernel
theorem d_Pm_init_80 : decode b_Pm_init 80 = .ok (.aload_n 0, 1) := by decide +kernel
theorem d_Pm_init_81 : decode b_Pm_init 81 = .ok (.getfield 41, 3) := by decide +kernel
theorem d_Pm_init_84 : decode b_Pm_init 84 = .ok (.iload 6, 2) := by decide +kernel
theorem d_Pm_init_86 : decode b_Pm_init 86 = .ok (.aload_n 0, 1) := by decide +kernel
theorem d_Pm_init_87 : decode b_Pm_init 87 = .ok (.getfield 22, 3) := by decide +kernel
theorem d_Pm_init_90 : decode b_Pm_init 90 = .ok (.iload 7, 2) := by decide +kernel
theorem d_Pm_init_92 : decode b_Pm_init 92 = .ok (.iload 5, 2) := by decide +kernel
theorem d_Pm_init_94 : decode b_Pm_init 94 = .ok (.invokestatic 84, 3) := by decide +kernel
theorem d_Pm_init_97 : decode b_Pm_init 97 = .ok (.return_, 1) := by decide +kernel
theorem d_Pm_drop_0 : decode b_Pm_drop 0 = .ok (.iload_n 2, 1) := by decide +kernel
theorem d_Pm_drop_1 : decode b_Pm_drop 1 = .ok (.ifCond .eq 10, 3) := by decide +kernel
theorem d_Pm_drop_4 : decode b_Pm_drop 4 = .ok (.aload_n 0, 1) := by decide +kernel
theorem d_Pm_drop_5 : decode b_Pm_drop 5 = .ok (.getfield 44, 3) := by decide +kernel
theorem d_Pm_drop_8 : decode b_Pm_drop 8 = .ok (.goto 7, 3) := by decide +kernel
theorem d_Pm_drop_11 : decode b_Pm_drop 11 = .ok (.aload_n 0, 1) := by decide +kernel
theorem d_Pm_drop_12 : decode b_Pm_drop 12 = .ok (.getfield 38, 3) := by decide +kernel
theorem d_Pm_drop_15 : decode b_Pm_drop 15 = .ok (.astore_n 3, 1) := by decide +kernel
theorem d_Pm_drop_16 : decode b_Pm_drop 16 = .ok (.aload_n 3, 1) := by decide +kernel
theorem d_Pm_drop_17 : decode b_Pm_drop 17 = .ok (.iload_n 1, 1) := by decide +kernel
theorem d_Pm_drop_18 : decode b_Pm_drop 18 = .ok (.invokevirtual 67, 3) := by decide +kernel
theorem d_Pm_drop_21 : decode b_Pm_drop 21 = .ok (.ifCond .ne 13, 3) := by decide +kernel
theorem d_Pm_drop_24 : decode b_Pm_drop 24 = .ok (.new 106, 3) := by decide +kernel
theorem d_Pm_drop_27 : decode b_Pm_drop 27 = .ok (.dup, 1) := by decide +kernel
theorem d_Pm_drop_28 : decode b_Pm_drop 28 = .ok (.ldc 144, 2) := by decide +kernel
theorem d_Pm_drop_30 : decode b_Pm_drop 30 = .ok (.invokespecial 110, 3) := by decide +kernel
theorem d_Pm_drop_33 : decode b_Pm_drop 33 = .ok (.athrow, 1) := by decide +kernel
theorem d_Pm_drop_34 : decode b_Pm_drop 34 = .ok (.aload_n 3, 1) := by decide +kernel
theorem d_Pm_drop_35 : decode b_Pm_drop 35 = .ok (.iload_n 1, 1) := by decide +kernel
theorem d_Pm_drop_36 : decode b_Pm_drop 36 = .ok (.invokevirtual 146, 3) := by decide +kernel
theorem d_Pm_drop_39 : decode b_Pm_drop 39 = .ok (.return_, 1) := by decide +kernel
theorem d_Pm_get_0 : decode b_Pm_get 0 = .ok (.aload_n 0, 1) := by decide +kernel
theorem d_Pm_get_1 : decode b_Pm_get 1 = .ok (.iconst 0, 1) := by decide +kernel
theorem d_Pm_get_2 : decode b_Pm_get 2 = .ok (.putfield 50, 3) := by decide +kernel
theorem d_Pm_get_5 : decode b_Pm_get 5 = .ok (.aload_n 0, 1) := by decide +kernel
theorem d_Pm_get_6 : decode b_Pm_get 6 = .ok (.getfield 26, 3) := by decide +kernel
theorem d_Pm_get_9 : decode b_Pm_get 9 = .ok (.iload_n 1, 1) := by decide +kernel
theorem d_Pm_get_10 : decode b_Pm_get 10 = .ok (.invokevirtual 67, 3) := by decide +kernel
theorem d_Pm_get_13 : decode b_Pm_get 13 = .ok (.ifCond .ne 13, 3) := by decide +kernel
theorem d_Pm_get_16 : decode b_Pm_get 16 = .ok (.new 106, 3) := by decide +kernel
theorem d_Pm_get_19 : decode b_Pm_get 19 = .ok (.dup, 1) := by decide +kernel
theorem d_Pm_get_20 : decode b_Pm_get 20 = .ok (.ldc 156, 2) := by decide +kernel
theorem d_Pm_get_22 : decode b_Pm_get 22 = .ok (.invokespecial 110, 3) := by decide +kernel
theorem d_Pm_get_25 : decode b_Pm_get 25 = .ok (.athrow, 1) := by decide +kernel
theorem d_Pm_get_26 : decode b_Pm_get 26 = .ok (.aload_n 0, 1) := by decide +kernel
theorem d_Pm_get_27 : decode b_Pm_get 27 = .ok (.getfield 35, 3) := by decide +kernel
theorem d_Pm_get_30 : decode b_Pm_get 30 = .ok (.aload_n 0, 1) := by decide +kernel
theorem d_Pm_get_31 : decode b_Pm_get 31 = .ok (.aload_n 0, 1) := by decide +kernel
theorem d_Pm_get_32 : decode b_Pm_get 32 = .ok (.getfield 26, 3) := by decide +kernel
theorem d_Pm_get_35 : decode b_Pm_get 35 = .ok (.iload_n 1, 1) := by decide +kernel
theorem d_Pm_get_36 : decode b_Pm_get 36 = .ok (.iload_n 2, 1) := by decide +kernel
theorem d_Pm_get_37 : decode b_Pm_get 37 = .ok (.invokestatic 74, 3) := by decide +kernel
theorem d_Pm_get_40 : decode b_Pm_get 40 = .ok (.lconst 1, 1) := by decide +kernel
theorem d_Pm_get_41 : decode b_Pm_get 41 = .ok (.iconst 5, 1) := by decide +kernel
theorem d_Pm_get_42 : decode b_Pm_get 42 = .ok (.invokevirtual 113, 3) := by decide +kernel
theorem d_Pm_get_45 : decode b_Pm_get 45 = .ok (.iaload, 1) := by decide +kernel
theorem d_Pm_get_46 : decode b_Pm_get 46 = .ok (.ireturn, 1) := by decide +kernel
theorem d_Pm_set_0 : decode b_Pm_set 0 = .ok (.aload_n 0, 1) := by decide +kernel
theorem d_Pm_set_1 : decode b_Pm_set 1 = .ok (.iconst 0, 1) := by decide +kernel
theorem d_Pm_set_2 : decode b_Pm_set 2 = .ok (.putfield 50, 3) := by decide +kernel
theorem d_Pm_set_5 : decode b_Pm_set 5 = .ok (.aload_n 0, 1) := by decide +kernel
theorem d_Pm_set_6 : decode b_Pm_set 6 = .ok (.getfield 26, 3) := by decide +kernel
theorem d_Pm_set_9 : decode b_Pm_set 9 = .ok (.iload_n 1, 1) := by decide +kernel
theorem d_Pm_set_10 : decode b_Pm_set 10 = .ok (.invokevirtual 67, 3) := by decide +kernel
theorem d_Pm_set_13 : decode b_Pm_set 13 = .ok (.ifCond .eq 10, 3) := by decide +kernel
theorem d_Pm_set_16 : decode b_Pm_set 16 = .ok (.iload_n 3, 1) := by decide +kernel
theorem d_Pm_set_17 : decode b_Pm_set 17 = .ok (.invokestatic 158, 3) := by decide +kernel
theorem d_Pm_set_20 : decode b_Pm_set 20 = .ok (.ifCond .ne 13, 3) := by decide +kernel
theorem d_Pm_set_23 : decode b_Pm_set 23 = .ok (.new 106, 3) := by decide +kernel
theorem d_Pm_set_26 : decode b_Pm_set 26 = .ok (.dup, 1) := by decide +kernel
theorem d_Pm_set_27 : decode b_Pm_set 27 = .ok (.ldc 161, 2) := by decide +kernel
theorem d_Pm_set_29 : decode b_Pm_set 29 = .ok (.invokespecial 110, 3) := by decide +kernel
theorem d_Pm_set_32 : decode b_Pm_set 32 = .ok (.athrow, 1) := by decide +kernel
theorem d_Pm_set_33 : decode b_Pm_set 33 = .ok (.aload_n 0, 1) := by decide +kernel
theorem d_Pm_set_34 : decode b_Pm_set 34 = .ok (.getfield 35, 3) := by decide +kernel
theorem d_Pm_set_37 : decode b_Pm_set 37 = .ok (.aload_n 0, 1) := by decide +kernel
theorem d_Pm_set_38 : decode b_Pm_set 38 = .ok (.aload_n 0, 1) := by decide +kernel
theorem d_Pm_set_39 : decode b_Pm_set 39 = .ok (.getfield 26, 3) := by decide +kernel
theorem d_Pm_set_42 : decode b_Pm_set 42 = .ok (.iload_n 1, 1) := by decide +kernel
theorem d_Pm_set_43 : decode b_Pm_set 43 = .ok (.iload_n 2, 1) := by decide +kernel
theorem d_Pm_set_44 : decode b_Pm_set 44 = .ok (.invokestatic 74, 3) := by decide +kernel
theorem d_Pm_set_47 : decode b_Pm_set 47 = .ok (.lconst 1, 1) := by decide +kernel
theorem d_Pm_set_48 : decode b_Pm_set 48 = .ok (.iconst 5, 1) := by decide +kernel
theorem d_Pm_set_49 : decode b_Pm_set 49 = .ok (.invokevirtual 113, 3) := by decide +kernel
theorem d_Pm_set_52 : decode b_Pm_set 52 = .ok (.iload_n 3, 1) := by decide +kernel
theorem d_Pm_set_53 : decode b_Pm_set 53 = .ok (.iastore, 1) := by decide +kernel
theorem d_Pm_set_54 : decode b_Pm_set 54 = .ok (.return_, 1) := by decide +kernel
theorem d_Pm_fillTable_0 : decode b_Pm_fillTable 0 = .ok (.aload_n 0, 1) := by decide +kernel
theorem d_Pm_fillTable_1 : decode b_Pm_fillTable 1 = .ok (.iconst 0, 1) := by decide +kernel
theorem d_Pm_fillTable_2 : decode b_Pm_fillTable 2 = .ok (.putfield 50, 3) := by decide +kernel
theorem d_Pm_fillTable_5 : decode b_Pm_fillTable 5 = .ok (.aload_n 0, 1) := by decide +kernel
theorem d_Pm_fillTable_6 : decode b_Pm_fillTable 6 = .ok (.getfield 26, 3) := by decide +kernel
theorem d_Pm_fillTable_9 : decode b_Pm_fillTable 9 = .ok (.iload_n 1, 1) := by decide +kernel
theorem d_Pm_fillTable_10 : decode b_Pm_fillTable 10 = .ok (.invokevirtual 67, 3) := by decide +kernel
theorem d_Pm_fillTable_13 : decode b_Pm_fillTable 13 = .ok (.ifCond .eq 10, 3) := by decide +kernel
theorem d_Pm_fillTable_16 : decode b_Pm_fillTable 16 = .ok (.iload_n 3, 1) := by decide +kernel
theorem d_Pm_fillTable_17 : decode b_Pm_fillTable 17 = .ok (.invokestatic 158, 3) := by decide +kernel
theorem d_Pm_fillTable_20 : decode b_Pm_fillTable 20 = .ok (.ifCond .ne 13, 3) := by decide +kernel
theorem d_Pm_fillTable_23 : decode b_Pm_fillTable 23 = .ok (.new 106, 3) := by decide +kernel
theorem d_Pm_fillTable_26 : decode b_Pm_fillTable 26 = .ok (.dup, 1) := by decide +kernel
theorem d_Pm_fillTable_27 : decode b_Pm_fillTable 27 = .ok (.ldc 161, 2) := by decide +kernel
theorem d_Pm_fillTable_29 : decode b_Pm_fillTable 29 = .ok (.invokespecial 110, 3) := by decide +kernel
theorem d_Pm_fillTable_32 : decode b_Pm_fillTable 32 = .ok (.athrow, 1) := by decide +kernel
theorem d_Pm_fillTable_33 : decode b_Pm_fillTable 33 = .ok (.aload_n 0, 1) := by decide +kernel
theorem d_Pm_fillTable_34 : decode b_Pm_fillTable 34 = .ok (.aload_n 0, 1) := by decide +kernel
theorem d_Pm_fillTable_35 : decode b_Pm_fillTable 35 = .ok (.getfield 26, 3) := by decide +kernel
theorem d_Pm_fillTable_38 : decode b_Pm_fillTable 38 = .ok (.iload_n 1, 1) := by decide +kernel
theorem d_Pm_fillTable_39 : decode b_Pm_fillTable 39 = .ok (.iload_n 2, 1) := by decide +kernel
theorem d_Pm_fillTable_40 : decode b_Pm_fillTable 40 = .ok (.invokestatic 74, 3) := by decide +kernel
theorem d_Pm_fillTable_43 : decode b_Pm_fillTable 43 = .ok (.iload 4, 2) := by decide +kernel
theorem d_Pm_fillTable_45 : decode b_Pm_fillTable 45 = .ok (.invokestatic 74, 3) := by decide +kernel
theorem d_Pm_fillTable_48 : decode b_Pm_fillTable 48 = .ok (.iconst 5, 1) := by decide +kernel
theorem d_Pm_fillTable_49 : decode b_Pm_fillTable 49 = .ok (.invokevirtual 113, 3) := by decide +kernel
theorem d_Pm_fillTable_52 : decode b_Pm_fillTable 52 = .ok (.istore 5, 2) := by decide +kernel
theorem d_Pm_fillTable_54 : decode b_Pm_fillTable 54 = .ok (.aload_n 0, 1) := by decide +kernel
theorem d_Pm_fillTable_55 : decode b_Pm_fillTable 55 = .ok (.getfield 35, 3) := by decide +kernel
theorem d_Pm_fillTable_58 : decode b_Pm_fillTable 58 = .ok (.iload 5, 2) := by decide +kernel
theorem d_Pm_fillTable_60 : decode b_Pm_fillTable 60 = .ok (.iload 5, 2) := by decide +kernel
theorem d_Pm_fillTable_62 : decode b_Pm_fillTable 62 = .ok (.iload 4, 2) := by decide +kernel
theorem d_Pm_fillTable_64 : decode b_Pm_fillTable 64 = .ok (.iadd, 1) := by decide +kernel
theorem d_Pm_fillTable_65 : decode b_Pm_fillTable 65 = .ok (.iload_n 3, 1) := by decide +kernel
theorem d_Pm_fillTable_66 : decode b_Pm_fillTable 66 = .ok (.invokestatic 153, 3) := by decide +kernel
theorem d_Pm_fillTable_69 : decode b_Pm_fillTable 69 = .ok (.return_, 1) := by decide +kernel
theorem d_Pm_copyTable_0 : decode b_Pm_copyTable 0 = .ok (.aload_n 0, 1) := by decide +kernel
theorem d_Pm_copyTable_1 : decode b_Pm_copyTable 1 = .ok (.iconst 0, 1) := by decide +kernel
theorem d_Pm_copyTable_2 : decode b_Pm_copyTable 2 = .ok (.putfield 50, 3) := by decide +kernel
theorem d_Pm_copyTable_5 : decode b_Pm_copyTable 5 = .ok (.aload_n 0, 1) := by decide +kernel
theorem d_Pm_copyTable_6 : decode b_Pm_copyTable 6 = .ok (.getfield 26, 3) := by decide +kernel
theorem d_Pm_copyTable_9 : decode b_Pm_copyTable 9 = .ok (.iload_n 1, 1) := by decide +kernel
theorem d_Pm_copyTable_10 : decode b_Pm_copyTable 10 = .ok (.invokevirtual 67, 3) := by decide +kernel
theorem d_Pm_copyTable_13 : decode b_Pm_copyTable 13 = .ok (.ifCond .eq 29, 3) := by decide +kernel
theorem d_Pm_copyTable_16 : decode b_Pm_copyTable 16 = .ok (.aload_n 0, 1) := by decide +kernel
theorem d_Pm_copyTable_17 : decode b_Pm_copyTable 17 = .ok (.getfield 26, 3) := by decide +kernel
theorem d_Pm_copyTable_20 : decode b_Pm_copyTable 20 = .ok (.iload_n 2, 1) := by decide +kernel
theorem d_Pm_copyTable_21 : decode b_Pm_copyTable 21 = .ok (.invokevirtual 67, 3) := by decide +kernel
theorem d_Pm_copyTable_24 : decode b_Pm_copyTable 24 = .ok (.ifCond .eq 18, 3) := by decide +kernel
theorem d_Pm_copyTable_27 : decode b_Pm_copyTable 27 = .ok (.aload_n 0, 1) := by decide +kernel
theorem d_Pm_copyTable_28 : decode b_Pm_copyTable 28 = .ok (.getfield 32, 3) := by decide +kernel
theorem d_Pm_copyTable_31 : decode b_Pm_copyTable 31 = .ok (.iload_n 1, 1) := by decide +kernel
theorem d_Pm_copyTable_32 : decode b_Pm_copyTable 32 = .ok (.iaload, 1) := by decide +kernel
theorem d_Pm_copyTable_33 : decode b_Pm_copyTable 33 = .ok (.aload_n 0, 1) := by decide +kernel
theorem d_Pm_copyTable_34 : decode b_Pm_copyTable 34 = .ok (.getfield 32, 3) := by decide +kernel
theorem d_Pm_copyTable_37 : decode b_Pm_copyTable 37 = .ok (.iload_n 2, 1) := by decide +kernel
theorem d_Pm_copyTable_38 : decode b_Pm_copyTable 38 = .ok (.iaload, 1) := by decide +kernel
theorem d_Pm_copyTable_39 : decode b_Pm_copyTable 39 = .ok (.if_icmp .eq 13, 3) := by decide +kernel
theorem d_Pm_copyTable_42 : decode b_Pm_copyTable 42 = .ok (.new 106, 3) := by decide +kernel
theorem d_Pm_copyTable_45 : decode b_Pm_copyTable 45 = .ok (.dup, 1) := by decide +kernel
theorem d_Pm_copyTable_46 : decode b_Pm_copyTable 46 = .ok (.ldc 166, 2) := by decide +kernel
theorem d_Pm_copyTable_48 : decode b_Pm_copyTable 48 = .ok (.invokespecial 110, 3) := by decide +kernel
theorem d_Pm_copyTable_51 : decode b_Pm_copyTable 51 = .ok (.athrow, 1) := by decide +kernel
theorem d_Pm_copyTable_52 : decode b_Pm_copyTable 52 = .ok (.aload_n 0, 1) := by decide +kernel
theorem d_Pm_copyTable_53 : decode b_Pm_copyTable 53 = .ok (.aload_n 0, 1) := by decide +kernel
theorem d_Pm_copyTable_54 : decode b_Pm_copyTable 54 = .ok (.getfield 26, 3) := by decide +kernel
theorem d_Pm_copyTable_57 : decode b_Pm_copyTable 57 = .ok (.iload_n 2, 1) := by decide +kernel
theorem d_Pm_copyTable_58 : decode b_Pm_copyTable 58 = .ok (.iload 4, 2) := by decide +kernel
theorem d_Pm_copyTable_60 : decode b_Pm_copyTable 60 = .ok (.invokestatic 74, 3) := by decide +kernel
theorem d_Pm_copyTable_63 : decode b_Pm_copyTable 63 = .ok (.iload 5, 2) := by decide +kernel
theorem d_Pm_copyTable_65 : decode b_Pm_copyTable 65 = .ok (.invokestatic 74, 3) := by decide +kernel
theorem d_Pm_copyTable_68 : decode b_Pm_copyTable 68 = .ok (.iconst 5, 1) := by decide +kernel
theorem d_Pm_copyTable_69 : decode b_Pm_copyTable 69 = .ok (.invokevirtual 113, 3) := by decide +kernel
theorem d_Pm_copyTable_72 : decode b_Pm_copyTable 72 = .ok (.istore 6, 2) := by decide +kernel
theorem d_Pm_copyTable_74 : decode b_Pm_copyTable 74 = .ok (.aload_n 0, 1) := by decide +kernel
theorem d_Pm_copyTable_75 : decode b_Pm_copyTable 75 = .ok (.aload_n 0, 1) := by decide +kernel
theorem d_Pm_copyTable_76 : decode b_Pm_copyTable 76 = .ok (.getfield 26, 3) := by decide +kernel
theorem d_Pm_copyTable_79 : decode b_Pm_copyTable 79 = .ok (.iload_n 1, 1) := by decide +kernel
theorem d_Pm_copyTable_80 : decode b_Pm_copyTable 80 = .ok (.iload_n 3, 1) := by decide +kernel
theorem d_Pm_copyTable_81 : decode b_Pm_copyTable 81 = .ok (.invokestatic 74, 3) := by decide +kernel
theorem d_Pm_copyTable_84 : decode b_Pm_copyTable 84 = .ok (.iload 5, 2) := by decide +kernel
theorem d_Pm_copyTable_86 : decode b_Pm_copyTable 86 = .ok (.invokestatic 74, 3) := by decide +kernel
theorem d_Pm_copyTable_89 : decode b_Pm_copyTable 89 = .ok (.iconst 5, 1) := by decide +kernel
theorem d_Pm_copyTable_90 : decode b_Pm_copyTable 90 = .ok (.invokevirtual 113, 3) := by decide +kernel
theorem d_Pm_copyTable_93 : decode b_Pm_copyTable 93 = .ok (.istore 7, 2) := by decide +kernel
theorem d_Pm_copyTable_95 : decode b_Pm_copyTable 95 = .ok (.aload_n 0, 1) := by decide +kernel
theorem d_Pm_copyTable_96 : decode b_Pm_copyTable 96 = .ok (.getfield 35, 3) := by decide +kernel
theorem d_Pm_copyTable_99 : decode b_Pm_copyTable 99 = .ok (.iload 6, 2) := by decide +kernel
theorem d_Pm_copyTable_101 : decode b_Pm_copyTable 101 = .ok (.aload_n 0, 1) := by decide +kernel
theorem d_Pm_copyTable_102 : decode b_Pm_copyTable 102 = .ok (.getfield 35, 3) := by decide +kernel
theorem d_Pm_copyTable_105 : decode b_Pm_copyTable 105 = .ok (.iload 7, 2) := by decide +kernel
theorem d_Pm_copyTable_107 : decode b_Pm_copyTable 107 = .ok (.iload 5, 2) := by decide +kernel
theorem d_Pm_copyTable_109 : decode b_Pm_copyTable 109 = .ok (.invokestatic 84, 3) := by decide +kernel
theorem d_Pm_copyTable_112 : decode b_Pm_copyTable 112 = .ok (.return_, 1) := by decide +kernel
theorem d_Pm_initTable_0 : decode b_Pm_initTable 0 = .ok (.aload_n 0, 1) := by decide +kernel
theorem d_Pm_initTable_1 : decode b_Pm_initTable 1 = .ok (.iconst 0, 1) := by decide +kernel
theorem d_Pm_initTable_2 : decode b_Pm_initTable 2 = .ok (.putfield 50, 3) := by decide +kernel
theorem d_Pm_initTable_5 : decode b_Pm_initTable 5 = .ok (.aload_n 0, 1) := by decide +kernel
theorem d_Pm_initTable_6 : decode b_Pm_initTable 6 = .ok (.getfield 26, 3) := by decide +kernel
theorem d_Pm_initTable_9 : decode b_Pm_initTable 9 = .ok (.iload_n 1, 1) := by decide +kernel
theorem d_Pm_initTable_10 : decode b_Pm_initTable 10 = .ok (.invokevirtual 67, 3) := by decide +kernel
theorem d_Pm_initTable_13 : decode b_Pm_initTable 13 = .ok (.ifCond .eq 14, 3) := by decide +kernel
theorem d_Pm_initTable_16 : decode b_Pm_initTable 16 = .ok (.aload_n 0, 1) := by decide +kernel
theorem d_Pm_initTable_17 : decode b_Pm_initTable 17 = .ok (.getfield 44, 3) := by decide +kernel
theorem d_Pm_initTable_20 : decode b_Pm_initTable 20 = .ok (.iload_n 2, 1) := by decide +kernel
theorem d_Pm_initTable_21 : decode b_Pm_initTable 21 = .ok (.invokevirtual 67, 3) := by decide +kernel
theorem d_Pm_initTable_24 : decode b_Pm_initTable 24 = .ok (.ifCond .ne 13, 3) := by decide +kernel
theorem d_Pm_initTable_27 : decode b_Pm_initTable 27 = .ok (.new 106, 3) := by decide +kernel
theorem d_Pm_initTable_30 : decode b_Pm_initTable 30 = .ok (.dup, 1) := by decide +kernel
theorem d_Pm_initTable_31 : decode b_Pm_initTable 31 = .ok (.ldc 168, 2) := by decide +kernel
theorem d_Pm_initTable_33 : decode b_Pm_initTable 33 = .ok (.invokespecial 110, 3) := by decide +kernel
theorem d_Pm_initTable_36 : decode b_Pm_initTable 36 = .ok (.athrow, 1) := by decide +kernel
theorem d_Pm_initTable_37 : decode b_Pm_initTable 37 = .ok (.aload_n 0, 1) := by decide +kernel
theorem d_Pm_initTable_38 : decode b_Pm_initTable 38 = .ok (.aload_n 0, 1) := by decide +kernel
theorem d_Pm_initTable_39 : decode b_Pm_initTable 39 = .ok (.getfield 44, 3) := by decide +kernel
theorem d_Pm_initTable_42 : decode b_Pm_initTable 42 = .ok (.iload_n 2, 1) := by decide +kernel
theorem d_Pm_initTable_43 : decode b_Pm_initTable 43 = .ok (.iload 4, 2) := by decide +kernel
theorem d_Pm_initTable_45 : decode b_Pm_initTable 45 = .ok (.invokestatic 74, 3) := by decide +kernel
theorem d_Pm_initTable_48 : decode b_Pm_initTable 48 = .ok (.iload 5, 2) := by decide +kernel
theorem d_Pm_initTable_50 : decode b_Pm_initTable 50 = .ok (.invokestatic 74, 3) := by decide +kernel
theorem d_Pm_initTable_53 : decode b_Pm_initTable 53 = .ok (.iconst 5, 1) := by decide +kernel
theorem d_Pm_initTable_54 : decode b_Pm_initTable 54 = .ok (.invokevirtual 113, 3) := by decide +kernel
theorem d_Pm_initTable_57 : decode b_Pm_initTable 57 = .ok (.istore 6, 2) := by decide +kernel
theorem d_Pm_initTable_59 : decode b_Pm_initTable 59 = .ok (.aload_n 0, 1) := by decide +kernel
theorem d_Pm_initTable_60 : decode b_Pm_initTable 60 = .ok (.aload_n 0, 1) := by decide +kernel
theorem d_Pm_initTable_61 : decode b_Pm_initTable 61 = .ok (.getfield 26, 3) := by decide +kernel
theorem d_Pm_initTable_64 : decode b_Pm_initTable 64 = .ok (.iload_n 1, 1) := by decide +kernel
theorem d_Pm_initTable_65 : decode b_Pm_initTable 65 = .ok (.iload_n 3, 1) := by decide +kernel
theorem d_Pm_initTable_66 : decode b_Pm_initTable 66 = .ok (.invokestatic 74, 3) := by decide +kernel
theorem d_Pm_initTable_69 : decode b_Pm_initTable 69 = .ok (.iload 5, 2) := by decide +kernel
theorem d_Pm_initTable_71 : decode b_Pm_initTable 71 = .ok (.invokestatic 74, 3) := by decide +kernel
theorem d_Pm_initTable_74 : decode b_Pm_initTable 74 = .ok (.iconst 5, 1) := by decide +kernel
theorem d_Pm_initTable_75 : decode b_Pm_initTable 75 = .ok (.invokevirtual 113, 3) := by decide +kernel
theorem d_Pm_initTable_78 : decode b_Pm_initTable 78 = .ok (.istore 7, 2) := by decide +kernel
theorem d_Pm_initTable_80 : decode b_Pm_initTable 80 = .ok (.aload_n 0, 1) := by decide +kernel
theorem d_Pm_initTable_81 : decode b_Pm_initTable 81 = .ok (.getfield 47, 3) := by decide +kernel
theorem d_Pm_initTable_84 : decode b_Pm_initTable 84 = .ok (.iload 6, 2) := by decide +kernel
theorem d_Pm_initTable_86 : decode b_Pm_initTable 86 = .ok (.aload_n 0, 1) := by decide +kernel
theorem d_Pm_initTable_87 : decode b_Pm_initTable 87 = .ok (.getfield 35, 3) := by decide +kernel
theorem d_Pm_initTable_90 : decode b_Pm_initTable 90 = .ok (.iload 7, 2) := by decide +kernel
theorem d_Pm_initTable_92 : decode b_Pm_initTable 92 = .ok (.iload 5, 2) := by decide +kernel
theorem d_Pm_initTable_94 : decode b_Pm_initTable 94 = .ok (.invokestatic 84, 3) := by decide +kernel
theorem d_Pm_initTable_97 : decode b_Pm_initTable 97 = .ok (.return_, 1) := by decide +kernel
end
section
/-! ===== my own rows, 1: a method that returns or throws (launches without stack traces) ===== -/
section TR1
/-- a method has thrown q, an object of the class named E -/
def tr_out (X : String → State → Prop) (A : Nat → Prop) (mc ms : Nat) (st : State) (q : Addr) (t : State) : Prop :=
  ∃ (E : String) (ce : Cell) (L : List Loc), (X E t ∧ va_F A st t) ∧ (t.heap[q]? = some ce ∧ ce.vm = .none ∧ st.vm.findClass E = some ce.cls) ∧ st.WarmedH t.vm ∧ st.sameButNew ({ t with vm := st.vm } : State) L mc ms ∧ ∀ z ∈ L, A z.base
def tr_Q (Qc : Array Value → State → Outcome → State → Prop) (X : String → State → Prop) (A : Nat → Prop) (mc ms : Nat) : Array Value → State → Outcome → State → Prop := fun a st o t =>
  (Qc a st o t ∧ ∃ L, FrameEnd st o t L mc ms ∧ ∀ z ∈ L, A z.base) ∨ ∃ q, o = .threw q ∧ tr_out X A mc ms st q t
/-- the contract of a method that may throw -/
def tr_Met (l : Launch) (y : MethodName) (ws : List Cond) (rm : Room) (Pc : Array Value → State → Prop) (Qc : Array Value → State → Outcome → State → Prop) (X : String → State → Prop) (A : Nat → Prop) (mc ms : Nat) : Prop :=
  MetFree l y (headSpec ws rm) Pc (fun _ _ _ _ _ => True) (tr_Q Qc X A mc ms)
/-- what its body owes -/
def tr_MQ (below : List Frame) (Qc : Array Value → State → Outcome → State → Prop) (X : String → State → Prop) (A : Nat → Prop) (a : Array Value) (s : State) (mc ms : Nat) : State → Prop := fun t =>
  ∃ o, t.status = .running ∧ Ended t below o ∧ tr_Q Qc X A mc ms a s o t
/-- the frame g, with q thrown over it -/
def tr_W (p : Program) (l : Launch) (e : Env) (R : Room) (s : State) (m : MethodId) (args : Array Value) (below : List Frame) (meth : Method) (c : Code) (H : Heap) (locs : List Loc) (cells slots : Nat) (Q : State → Prop) (g : JFrame) (q : Addr) : Prop :=
  ∀ T : State, T.heap = H → Stand p l e R s m args below meth c T locs cells slots → ∃ t, Steps p.tables e below ((T.setTop g).pushFrame (.throwing q)) t ∧ Q t
theorem tr_ofW {l : Launch} {y : MethodName} {ws ws' : List Cond} {rm : Room} {Pc : Array Value → State → Prop} {Qc : Array Value → State → Outcome → State → Prop} {X : String → State → Prop} {A : Nat → Prop} {mc ms : Nat} {cc : ByteArray} {maxL : Nat} {ret : Option FieldType}
    (hy : plainName y.cls = true) (hw : ws = Cond.code y cc maxL ret :: ws')
    (body : ∀ p e s m args below meth c s₁, BodyLoose p l y (headSpec ws rm) cc maxL ret e s m args below meth c s₁ → c.maxLocals = maxL → Pc args s →
      W p l e (headSpec ws rm).room s m args below meth c s.heap [] 0 0 (tr_MQ below Qc X A args s mc ms) (entryFrame m args maxL)) : tr_Met l y ws rm Pc Qc X A mc ms := by
  refine MetFree.of_bodyS (code := cc) (maxLocals := maxL) (ret := ret) hy ?_ ?_
  · intro args s m h hn
    obtain ⟨meth, c, h1, h2, h3, h4, h5, h6, -, -⟩ := Cond.code_spec hn (atoms_spec (ws := ws) h _ (by rw [hw]; exact List.mem_cons_self))
    exact ⟨meth, c, h1, h2, h3, h4, h5, h6⟩
  · intro p e s m args below meth c s₁ B hml hP _
    have hh0 : s₁.heap = s.heap := by rw [B.state]; rfl
    obtain ⟨t, a1, o, b1, b2, b3⟩ := body p e s m args below meth c s₁ B hml hP s₁ hh0 (Stand.of_body B)
    exact ⟨t, o, a1, b1, b2, b3⟩
end TR1
section TR2
variable {p : Program} {l : Launch} {e : Env} {R : Room} {s : State} {m : MethodId} {args : Array Value} {below : List Frame} {meth : Method} {c : Code} {H : Heap} {locs : List Loc} {cells slots : Nat} {Q : State → Prop}
variable {Qc : Array Value → State → Outcome → State → Prop} {X : String → State → Prop} {A : Nat → Prop} {mc ms : Nat}
theorem tr_ret {g : JFrame} (k : W p l e R s m args below meth c H locs cells slots (MQ below Qc args s mc ms A) g) : W p l e R s m args below meth c H locs cells slots (tr_MQ below Qc X A args s mc ms) g := by
  intro T hT Y
  obtain ⟨t, a1, o, b1, b2, b3, b4⟩ := k T hT Y
  exact ⟨t, a1, o, b1, b2, Or.inl ⟨b3, b4⟩⟩
/-- nobody here catches it -/
theorem tr_pass {pc : Nat} {ls : Array Slot} {rest : List Value} {E : String} {ce : Cell} {q : Addr} (hout : ∀ x ∈ c.exceptionTable.toList, covers x pc = false) (hlocks : meth.locks = false)
    (hcell : H[q]? = some ce) (hv : ce.vm = .none) (hcl : s.vm.findClass E = some ce.cls) (hx : ∀ t : State, t.heap = H → X E t) (hS : va_S A s.heap H locs) (hc : cells ≤ mc) (hs : slots ≤ ms) :
    tr_W p l e R s m args below meth c H locs cells slots (tr_MQ below Qc X A args s mc ms) (F0 m pc ls rest) q := by
  intro T hT Y
  obtain ⟨st1, hrun, hend, hW, hsm⟩ := Y.leaveThrown q (g := F0 m pc ls rest) rfl rfl rfl hout hlocks
  refine ⟨_, st1, .threw q, hrun, hend, Or.inr ⟨q, rfl, E, ce, locs, ⟨hx _ hT, hS.F hT⟩, ⟨?_, hv, hcl⟩, hW, hsm.mono hc hs, hS.2.2⟩⟩
  show T.heap[q]? = some ce
  rw [hT]; exact hcell
/-- behind a callee's end s₂ (its frames aside): the caller stands in a state B -/
theorem tr_mid {U s₂ : State} {g : JFrame} {mk : MethodId} {a : Array Value} {L : List Loc} {k n : Nat} (Y : Stand p l e R s m args below meth c U locs cells slots)
    (hW : (U.calling g mk a).WarmedH s₂.vm) (hs : (U.calling g mk a).sameButNew ({ s₂ with vm := (U.calling g mk a).vm } : State) L k n) :
    ∃ B : State, B.heap = s₂.heap ∧ B.vm = s₂.vm ∧ Stand p l e R s m args below meth c B (locs ++ L) (cells + k) (slots + n) ∧
      (∀ g' : JFrame, s₂.frames = .java g' :: U.frames.tail → s₂ = B.setTop g') ∧ (∀ (g' : JFrame) (q : Addr), s₂.frames = .throwing q :: .java g' :: U.frames.tail → s₂ = (B.setTop g').pushFrame (.throwing q)) := by
  have htop := Y.here.top
  obtain ⟨e2, q2, q3, q4, q5, q6⟩ := hs
  have e3 : s₂ = ({ (U.calling g mk a).setFrames s₂.frames with heap := s₂.heap, slotsUsed := s₂.slotsUsed } : State).setVm s₂.vm := by
    have h9 : s₂ = ({ s₂ with vm := (U.calling g mk a).vm } : State).setVm s₂.vm := rfl
    rw [e2] at h9
    exact h9
  have hW' : U.WarmedH s₂.vm := hW
  obtain ⟨g₀, hg0⟩ := Option.isSome_iff_exists.mp htop
  obtain ⟨r, hr⟩ := State.topJava?_eq_some.mp hg0
  have hr' : (({ U with heap := s₂.heap, slotsUsed := s₂.slotsUsed } : State).setVm s₂.vm).frames = .java g₀ :: r := hr
  have hsame : U.sameButNew ({ U with heap := s₂.heap, slotsUsed := s₂.slotsUsed } : State) L k n := by
    refine ⟨?_, q2, q3, q4, q5, q6⟩
    obtain ⟨t, ht, -⟩ := State.frames_cons hr
    show ({ U with heap := s₂.heap, slotsUsed := s₂.slotsUsed } : State) = { U.setFrames U.frames with heap := s₂.heap, slotsUsed := s₂.slotsUsed }
    rw [State.setFrames_self ht]
  refine ⟨({ U with heap := s₂.heap, slotsUsed := s₂.slotsUsed } : State).setVm s₂.vm, rfl, rfl,
    ⟨Y.admits, Y.cas, Y.clock, Y.frames, Y.room, Y.hears, Y.method, Y.code, (Y.here.setHeapUsed s₂.heap s₂.slotsUsed).setVm hW'.alike, Y.tail, State.WarmedH.trans Y.warmed hW', Y.limits, Y.bytes, Y.same.trans (hsame.setVm s.vm)⟩, ?_, ?_⟩
  · intro g' hf
    refine e3.trans ?_
    rw [hf, State.calling_eq htop, State.setFrames_setFrames, State.setTop_of_frames _ hr', hr]
    rfl
  · intro g' q hf
    refine e3.trans ?_
    rw [hf, State.calling_eq htop, State.setFrames_setFrames, State.pushFrame, State.frames_setTop _ hr', State.setTop_of_frames _ hr', State.setFrames_setFrames, hr]
    rfl
/-- the callee's run, from its entry: it comes back, or it throws over the caller's frame -/
theorem tr_enter {y : MethodName} {ws : List Cond} {rm : Room} {Pc : Array Value → State → Prop} {bytes : ByteArray} {maxL len W9 : Nat} {ret : Option FieldType} {U : State}
    (hM : tr_Met l y ws rm Pc Qc X A mc ms) (hrc : rm.cells = mc) (hrs : rm.slots = ms) (hframes : rm.frames + 1 ≤ R.frames) (hlocals : W9 + (maxL + 11) + rm.locals ≤ R.locals)
    (hws : ∀ w ∈ ws, ∀ (a' : Array Value) (U : State), s.WarmedH U.vm → w.before a' U = true) (hcode : Cond.code y bytes maxL ret ∈ ws) (hinit : ∀ (a' : Array Value) (U : State), s.WarmedH U.vm → (Cond.initialized y.cls).before a' U = true)
    (Y : Stand p l e R s m args below meth c U locs cells slots) {g : JFrame} (hg : g.method = m) (hsize : g.locals.size = c.maxLocals) {ig : Instr} (hdg : decode c.code g.pc = .ok (ig, len)) (hW : 2 * g.monitorRoom + (g.stack.map fun v => v.category).sum ≤ W9)
    {mk : MethodId} (hn : U.methodNamed? y = some mk) {a : Array Value} (hc : cells + mc ≤ R.cells) (hs : slots + ms ≤ R.slots) (hPc : Pc a (U.calling g mk a)) :
    ∃ (t B : State) (L : List Loc), B.heap = t.heap ∧ B.vm = t.vm ∧ Stand p l e R s m args below meth c B (locs ++ L) (cells + mc) (slots + ms) ∧ (∀ z ∈ L, A z.base) ∧
      ((∃ v : Option Value, Qc a (U.calling g mk a) (.returned v) t ∧ Steps p.tables e below (doInvoke e (U.setTop g) [] mk a).1 (B.setTop { g with pc := g.pc + len, stack := v.toList ++ g.stack })) ∨
       (∃ (q : Addr) (E : String) (ce : Cell), (X E t ∧ va_F A (U.calling g mk a) t) ∧ (t.heap[q]? = some ce ∧ ce.vm = .none ∧ U.vm.findClass E = some ce.cls) ∧ Steps p.tables e below (doInvoke e (U.setTop g) [] mk a).1 ((B.setTop g).pushFrame (.throwing q)))) := by
  have h1 : (headSpec ws rm).pre.before a U = true := atoms_intro fun w hw => hws w hw _ _ Y.warmed
  have h2 : (Cond.code y bytes maxL ret).before a U = true := hws _ hcode _ _ Y.warmed
  have h3 : (Cond.initialized y.cls).before a U = true := hinit _ _ Y.warmed
  obtain ⟨methY, cY, hmY, hcY, -, hlY, -, -, -, -⟩ := Cond.code_spec hn h2
  obtain ⟨kY, hkY, -⟩ := className_of_methodNamed hn
  have hinitY : kY.init = .initialized := Cond.initialized_spec (findClass_of_methodNamed hn) hkY h3
  have h : At U g.method c below := by rw [hg]; exact Y.here
  have hlocals9 : W9 + (maxL + 11) + (headSpec ws rm).room.locals ≤ R.locals := hlocals
  have happ : (headSpec ws rm).appliesLoose y e.platform (U.calling g mk a) = true :=
    Spec.appliesLoose_calling (g := g) h hdg hn hkY hinitY
      (Y.room_calling (g := g) (R' := (headSpec ws rm).room) hsize hmY hcY hframes (by rw [hlY]; omega) (by rw [show (headSpec ws rm).room.cells = mc from hrc]; exact hc) (by rw [show (headSpec ws rm).room.slots = ms from hrs]; exact hs)) h1
  obtain ⟨mid, hmid⟩ := h.above
  have hfr : (U.setTop g).frames = (.java g :: mid) ++ below := by rw [State.frames_setTop' g h.top, hmid]; rfl
  obtain ⟨o, s₂, hsteps, -, hend, hq⟩ := Steps.callFree hM p Y.admits Y.cas Y.clock (acts := []) hfr happ hPc trivial
  have hq' : tr_Q Qc X A mc ms a (U.calling g mk a) o s₂ := hq
  rw [State.frames_setTop' g h.top] at hend
  rcases hq' with ⟨hqc, L, hfe, hL⟩ | ⟨q, rfl, E, ce, L, hx, hce, hW₂, hsm, hL⟩
  · obtain ⟨⟨v, rfl⟩, hW₂, hsm⟩ := hfe
    obtain ⟨B, b1, b2, b3, b4, -⟩ := tr_mid Y hW₂ hsm
    refine ⟨s₂, B, L, b1, b2, b3, hL, Or.inl ⟨v, hqc, ?_⟩⟩
    obtain ⟨c₂, i₂, len₂, hc₂, hd₂, hf₂⟩ := hend
    have hW' : U.WarmedH s₂.vm := hW₂
    have hcc : c₂ = c := by
      have h9 : s₂.code? g.method = U.code? g.method := by rw [State.code?_eq, State.code?_eq, hW'.alike.method?]
      exact Option.some.inj (hc₂.symm.trans (h9.trans h.code))
    subst hcc
    have hlen : len₂ = len := by rw [hdg] at hd₂; cases hd₂; rfl
    subst hlen
    rw [← b4 _ hf₂]
    exact hsteps
  · obtain ⟨B, b1, b2, b3, -, b5⟩ := tr_mid Y hW₂ hsm
    refine ⟨s₂, B, L, b1, b2, b3, hL, Or.inr ⟨q, E, ce, hx, hce, ?_⟩⟩
    have hf₂ : s₂.frames = .throwing q :: .java g :: U.frames.tail := hend
    rw [← b5 _ _ hf₂]
    exact hsteps
end TR2
section TR3
variable {p : Program} {l : Launch} {e : Env} {R : Room} {s : State} {m : MethodId} {args : Array Value} {below : List Frame} {meth : Method} {c : Code} {H : Heap} {locs : List Loc} {cells slots : Nat} {Q : State → Prop}
variable {Ts ws ws' : List Cond} {cc bytes : ByteArray} {nL maxL index n mc ms pc : Nat} {own C : String} {y : MethodName} {ret : Option FieldType} {rm : Room} {Pc : Array Value → State → Prop} {Qc : Array Value → State → Outcome → State → Prop} {X : String → State → Prop} {A A0 : Nat → Prop} {H0 : Heap}
variable {b : Addr} {As rest st0 : List Value} {g : JFrame} {a : Array Value} {ls : Array Slot}
/-- a call that comes back or throws, seen from the caller's frame g -/
def tr_Run (p : Program) (l : Launch) (e : Env) (R : Room) (s : State) (m : MethodId) (args : Array Value) (below : List Frame) (meth : Method) (c : Code) (H : Heap) (locs : List Loc) (cells slots mc ms : Nat) (g : JFrame) (rest : List Value) (Qa : State → Outcome → State → Prop) (X : String → State → Prop) (A : Nat → Prop) : Prop :=
  ∀ T : State, T.heap = H → Stand p l e R s m args below meth c T locs cells slots → ∃ (st₀ t B : State) (L : List Loc), st₀.heap = H ∧ B.heap = t.heap ∧ s.vm.Alike t.vm ∧ Stand p l e R s m args below meth c B (locs ++ L) (cells + mc) (slots + ms) ∧ (∀ z ∈ L, A z.base) ∧
    ((∃ v : Option Value, Qa st₀ (.returned v) t ∧ ∀ tg, Steps p.tables e below (B.setTop { g with pc := g.pc + 3, stack := v.toList ++ rest }) tg → Steps p.tables e below (T.setTop g) tg) ∨
     (∃ (q : Addr) (E : String) (ce : Cell), (X E t ∧ va_F A st₀ t) ∧ (t.heap[q]? = some ce ∧ ce.vm = .none ∧ s.vm.findClass E = some ce.cls) ∧ Steps p.tables e below (T.setTop g) ((B.setTop { g with stack := rest }).pushFrame (.throwing q))))
theorem tr_runV (S : CallFix p m c cc nL s args Ts own) (hM : tr_Met l y ws rm Pc Qc X A mc ms) (cw : CallW R s args own C index y bytes maxL ret ws rm mc ms n) (hp : PreV s H C b Pc As)
    (hg : g.method = m) (hn : As.length = n) (hsize : g.locals.size = nL) (hstack : g.stack = As.reverse ++ .ref b :: rest) (hW : 2 * g.monitorRoom + (rest.map fun v => v.category).sum ≤ 8) (hdg : decode cc g.pc = .ok (.invokevirtual index, 3)) (hf : cells + mc ≤ R.cells ∧ slots + ms ≤ R.slots) :
    tr_Run p l e R s m args below meth c H locs cells slots mc ms g rest (Qc (Value.ref b :: As).toArray) X A := by
  intro T hT Y
  obtain ⟨hx, hb, hml, hown, -⟩ := S
  obtain ⟨⟨hrc, hrs, hfr, hlo, hws, hcw, hcode, hini, hy, hnn, hlink⟩, hinst, hsel⟩ := cw
  obtain ⟨hbl, ⟨cellB, hcell, hobj, hcls⟩, hPc⟩ := hp
  obtain ⟨mk, methM, hnamed, hmethM, hstM, habM⟩ := Cond.instanceMethod_spec hinst
  obtain ⟨methM', cM, hmethM', -, -, -, -, -, -, hsigM⟩ := Cond.code_spec hnamed hcode
  cases hmethM.symm.trans hmethM'
  obtain ⟨c2, r2, m2, q1, q2, q3, q4, kP, hkP, hkPi⟩ := Cond.selects_spec hsel
  cases hcls.symm.trans q1
  cases (State.methodFound?_of_named hnamed hy).symm.trans q2
  cases hnamed.symm.trans q3
  have hselP : selectMethod e.platform s.vm cellB.cls mk = .method mk := by rw [Launch.admits_selectMethod Y.admits]; exact q4
  have hdg' : decode c.code g.pc = .ok (.invokevirtual index, 3) := by rw [hb]; exact hdg
  obtain ⟨vm₁, X₁, hstep₁⟩ := Y.invokevirtual hx hown hlink hnamed hmethM hstM hkP hkPi hy (a := b) (cell := cellB) (by rw [hT]; exact hcell)
    (fun z h => by rw [h] at hobj; cases hobj) hselP hmethM habM hkP hkPi (g := g) hg (argsL := As) (rest := rest) (by rw [hn]; exact hnn _ hsigM) hstack hdg'
  obtain ⟨t, B, L, b1, b2, b3, hL, h⟩ := tr_enter (bytes := bytes) (maxL := maxL) (ret := ret) (W9 := 8) (len := 3) hM hrc hrs hfr hlo hws hcw (fun a' U hW => word_at hW (Or.inl (by first | rfl | simp [Cond.onTables, Cond.keeps, Cond.steady])) hini) X₁
    (g := { g with stack := rest }) hg (hsize.trans hml.symm) hdg' hW (X₁.named hnamed) (a := (Value.ref b :: As).toArray) hf.1 hf.2 (hbl _ _ _ _ (hPc (T.setVm vm₁) hT X₁.warmed))
  refine ⟨(T.setVm vm₁).calling { g with stack := rest } mk (Value.ref b :: As).toArray, t, B, L, hT, b1, ?_, b3, hL, ?_⟩
  · rw [← b2]; exact b3.warmed.alike
  · rcases h with ⟨v, hq, hst⟩ | ⟨q, E, ce, hx9, ⟨w1, w2, w3⟩, hst⟩
    · exact Or.inl ⟨v, hq, fun tg h9 => hstep₁ _ fun acts => by rw [doInvoke_state]; exact hst.trans h9⟩
    · refine Or.inr ⟨q, E, ce, hx9, ⟨w1, w2, ?_⟩, hstep₁ _ fun acts => by rw [doInvoke_state]; exact hst⟩
      rw [X₁.warmed.alike.symm.findClass]; exact w3
theorem tr_runS (S : CallFix p m c cc nL s args Ts own) (hM : tr_Met l y ws rm Pc Qc X A mc ms) (cw : CallB R s args own index y bytes maxL ret ws rm mc ms n ∧ (Cond.static y).before args s = true) (hp : PreS s H Pc As)
    (hg : g.method = m) (hn : As.length = n) (hsize : g.locals.size = nL) (hstack : g.stack = As.reverse ++ rest) (hW : 2 * g.monitorRoom + (rest.map fun v => v.category).sum ≤ 8) (hdg : decode cc g.pc = .ok (.invokestatic index, 3)) (hf : cells + mc ≤ R.cells ∧ slots + ms ≤ R.slots) :
    tr_Run p l e R s m args below meth c H locs cells slots mc ms g rest (Qc As.toArray) X A := by
  intro T hT Y
  obtain ⟨hx, hb, hml, hown, -⟩ := S
  obtain ⟨⟨hrc, hrs, hfr, hlo, hws, hcw, hcode, hini, hy, hnn, hlink⟩, hstat⟩ := cw
  obtain ⟨hbl, hPc⟩ := hp
  obtain ⟨mk, hnamed⟩ := Cond.code_named hcode
  obtain ⟨methM, cM, hmethM, -, -, -, -, -, -, hsigM⟩ := Cond.code_spec hnamed hcode
  have hstatic : methM.isStatic = true := Cond.static_spec hnamed hmethM hstat
  obtain ⟨kP, hkP, -⟩ := className_of_methodNamed hnamed
  have hinitP : kP.init = .initialized := Cond.initialized_spec (findClass_of_methodNamed hnamed) hkP hini
  have hdg' : decode c.code g.pc = .ok (.invokestatic index, 3) := by rw [hb]; exact hdg
  obtain ⟨vm₁, X₁, hstep₁⟩ := Y.invokestatic hx hown hlink hnamed hmethM hstatic hkP hinitP hy (g := g) hg (argsL := As) (rest := rest) (by rw [hn]; exact hnn _ hsigM) hstack hdg'
  obtain ⟨t, B, L, b1, b2, b3, hL, h⟩ := tr_enter (bytes := bytes) (maxL := maxL) (ret := ret) (W9 := 8) (len := 3) hM hrc hrs hfr hlo hws hcw (fun a' U hW => word_at hW (Or.inl (by first | rfl | simp [Cond.onTables, Cond.keeps, Cond.steady])) hini) X₁
    (g := { g with stack := rest }) hg (hsize.trans hml.symm) hdg' hW (X₁.named hnamed) (a := As.toArray) hf.1 hf.2 (hbl _ _ _ _ (hPc (T.setVm vm₁) hT X₁.warmed))
  refine ⟨(T.setVm vm₁).calling { g with stack := rest } mk As.toArray, t, B, L, hT, b1, ?_, b3, hL, ?_⟩
  · rw [← b2]; exact b3.warmed.alike
  · rcases h with ⟨v, hq, hst⟩ | ⟨q, E, ce, hx9, ⟨w1, w2, w3⟩, hst⟩
    · exact Or.inl ⟨v, hq, fun tg h9 => hstep₁ _ fun acts => by rw [doInvoke_state]; exact hst.trans h9⟩
    · refine Or.inr ⟨q, E, ce, hx9, ⟨w1, w2, ?_⟩, hstep₁ _ fun acts => by rw [doInvoke_state]; exact hst⟩
      rw [X₁.warmed.alike.symm.findClass]; exact w3
/-- what a call leaves as it was -/
theorem tr_keep {st₀ t B : State} {L : List Loc} (h0 : st₀.heap = H) (e1 : B.heap = t.heap) (hS : va_S A0 H0 H locs) (hA : ∀ q, A q → A0 q) (hL : ∀ z ∈ L, A z.base) (hF : va_F A st₀ t) :
    (∀ q : Nat, q < H.size → ¬ A q → B.heap[q]? = H[q]?) ∧ va_S A0 H0 B.heap (locs ++ L) := by
  obtain ⟨f1, f2⟩ := hF
  rw [h0] at f1 f2
  rw [← e1] at f1
  have k : ∀ q : Nat, q < H.size → ¬ A q → B.heap[q]? = H[q]? := fun q h1 h2 => by rw [e1]; exact f2 q h1 h2
  refine ⟨k, Nat.le_trans hS.1 f1, fun q h1 h2 => ?_, fun z hz => ?_⟩
  · exact (k q (Nat.lt_of_lt_of_le h1 hS.1) (fun h => h2 (hA q h))).trans (hS.2.1 q h1 h2)
  · rcases List.mem_append.mp hz with h | h
    · exact hS.2.2 z h
    · exact hA _ (hL z h)
end TR3
/-! ===== my own rows, 2: cells changed in their places ===== -/
def setL : va_W → List Nat → va_W → va_W
  | ws, i :: is, w :: w1 => setL (ws.set i w) is w1
  | ws, _, _ => ws
theorem setL_fst : ∀ (is : List Nat) (ws w1 : va_W), is.map (fun i => (ws[i]?).map Prod.fst) = w1.map (fun w => some w.1) → (setL ws is w1).map Prod.fst = ws.map Prod.fst := by
  intro is
  induction is with
  | nil => intro ws w1 _; cases w1 <;> rfl
  | cons i is ih =>
    intro ws w1 h
    cases w1 with
    | nil => rfl
    | cons w w1 =>
      simp only [List.map_cons, List.cons.injEq] at h
      have e : (ws.set i w).map Prod.fst = ws.map Prod.fst := by
        apply List.ext_getElem?
        intro j
        rw [List.getElem?_map, List.getElem?_map, List.getElem?_set]
        by_cases hij : i = j
        · subst hij
          rw [h.1]
          obtain ⟨x, hx, -⟩ := Option.map_eq_some_iff.mp h.1
          have hl : i < ws.length := (List.getElem?_eq_some_iff.mp hx).1
          simp [hl]
        · rw [if_neg hij]
      show (setL (ws.set i w) is w1).map Prod.fst = _
      rw [ih (ws.set i w) w1 ?_, e]
      rw [← h.2]
      apply List.map_congr_left
      intro j _
      rw [← List.getElem?_map, ← List.getElem?_map, e]
theorem setL_get : ∀ (is : List Nat) (ws w1 : va_W), is.length = w1.length → ∀ (k : Nat) (q : Nat × va_E), (setL ws is w1)[k]? = some q → q ∈ w1 ∨ (ws[k]? = some q ∧ k ∉ is) := by
  intro is
  induction is with
  | nil => intro ws w1 h k q hq; exact Or.inr ⟨by cases w1 <;> exact hq, List.not_mem_nil⟩
  | cons i is ih =>
    intro ws w1 h k q hq
    cases w1 with
    | nil => simp at h
    | cons w w1 =>
      rcases ih (ws.set i w) w1 (by simpa using h) k q hq with h1 | ⟨h1, h2⟩
      · exact Or.inl (List.mem_cons_of_mem _ h1)
      · by_cases hik : i = k
        · subst hik
          rw [List.getElem?_set] at h1
          simp only [if_true] at h1
          by_cases hl : i < ws.length
          · rw [if_pos hl] at h1
            cases h1
            exact Or.inl List.mem_cons_self
          · rw [if_neg hl] at h1
            cases h1
        · rw [List.getElem?_set, if_neg hik] at h1
          exact Or.inr ⟨h1, fun hm => by
            rcases List.mem_cons.mp hm with h9 | h9
            · exact hik h9.symm
            · exact h2 h9⟩
theorem jn_set {A0 : Nat → Prop} {D : va_G} {cl : List vw_C} {ws wc w1 : va_W} {H H1 : Heap} (hP : va_P D cl ws H) (hD : va_D A0 ws) (is : List Nat) (hC : is.map (fun i => ws[i]?) = wc.map some) (had : w1.map Prod.fst = wc.map Prod.fst)
    (hk : ∀ q : Nat, q < H.size → ¬ va_A wc H.size q → H1[q]? = H[q]?) (hP1 : va_P D cl w1 H1) : va_P D cl (setL ws is w1) H1 ∧ va_D A0 (setL ws is w1) := by
  have hl : is.length = w1.length := by
    have h1 := congrArg List.length hC
    have h2 := congrArg List.length had
    simp only [List.length_map] at h1 h2
    omega
  have hf : (setL ws is w1).map Prod.fst = ws.map Prod.fst := by
    apply setL_fst
    have h1 : is.map (fun i => (ws[i]?).map Prod.fst) = (is.map (fun i => ws[i]?)).map (Option.map Prod.fst) := by rw [List.map_map]; rfl
    have h2 : w1.map (fun w => some w.1) = (w1.map Prod.fst).map some := by rw [List.map_map]; rfl
    rw [h1, hC, h2, had, List.map_map, List.map_map]
    rfl
  have ha : ∀ (k : Nat) (q : Nat × va_E), (setL ws is w1)[k]? = some q → ∃ e, ws[k]? = some (q.1, e) := by
    intro k q hq
    have h1 : ((setL ws is w1).map Prod.fst)[k]? = some q.1 := by rw [List.getElem?_map, hq]; rfl
    rw [hf, List.getElem?_map] at h1
    obtain ⟨x, hx, hx2⟩ := Option.map_eq_some_iff.mp h1
    exact ⟨x.2, by rw [hx, ← hx2]⟩
  refine ⟨fun k q hq => ?_, fun i j x y hi hj hxy => ?_, fun k q hq => ?_⟩
  · rcases setL_get is ws w1 hl k q hq with h1 | ⟨h1, h2⟩
    · obtain ⟨j, hj⟩ := List.getElem?_of_mem h1
      exact hP1 j q hj
    · refine (hP k q h1).kept (hk q.1 (hP k q h1).lt ?_)
      rintro (⟨j, e, hj⟩ | h9)
      · have h3 : (wc.map some)[j]? = some (some (q.1, e)) := by rw [List.getElem?_map, hj]; rfl
        rw [← hC, List.getElem?_map] at h3
        obtain ⟨i, hi, hi2⟩ := Option.map_eq_some_iff.mp h3
        have h4 := hD.1 i k (q.1, e) q hi2 h1 rfl
        exact h2 (h4 ▸ List.mem_of_getElem? hi)
      · exact absurd h9 (Nat.not_le.mpr (hP k q h1).lt)
  · obtain ⟨e1, h1⟩ := ha i x hi
    obtain ⟨e2, h2⟩ := ha j y hj
    exact hD.1 i j _ _ h1 h2 hxy
  · obtain ⟨e1, h1⟩ := ha k q hq
    exact hD.2 k (q.1, e1) h1
end
section
/-! ===== my own rows, 3: calls ===== -/
section PU
variable {p : Program} {l : Launch} {e : Env} {R : Room} {s : State} {m : MethodId} {args : Array Value} {below : List Frame} {meth : Method} {c : Code} {H : Heap} {locs : List Loc} {cells slots : Nat} {Q : State → Prop}
variable {mc ms pc : Nat} {A0 : Nat → Prop} {H0 : Heap} {D : va_G} {cl : List vw_C} {ws wc : va_W} {rest st0 : List Value} {a : Array Value} {ls : Array Slot}
/-- a call that changes nothing, its answer an int -/
theorem pu_i {v : Int32} (hr : va_Run p l e R s m args below meth c H locs cells slots 0 0 (F0 m pc ls st0) rest (va_Qi (fun r (_ : Unit) => r = v) (fun _ _ => True) (fun _ => False) a) (fun _ => False)) (hS : va_S A0 H0 H locs) (hP : va_P D cl ws H)
    (kk : ∀ (H1 : Heap) (locs1 : List Loc), va_P D cl ws H1 → va_S A0 H0 H1 locs1 → W p l e R s m args below meth c H1 locs1 cells slots Q (F0 m (pc + 3) ls (.int v :: rest))) : W p l e R s m args below meth c H locs cells slots Q (F0 m pc ls st0) := by
  refine va_calli hr hS (fun _ _ h => h.elim) (fun _ h => h.elim) (fun r u t H1 locs1 _ _ hp _ _ hk hS1 => ?_)
  subst hp
  exact kk H1 locs1 (hP.kept fun k q hq => hk q.1 (hP k q hq).lt (fun h => h)) hS1
/-- .. a long -/
theorem pu_l {v : Int64} (hr : va_Run p l e R s m args below meth c H locs cells slots 0 0 (F0 m pc ls st0) rest (va_Ql (fun r (_ : Unit) => r = v) (fun _ _ => True) (fun _ => False) a) (fun _ => False)) (hS : va_S A0 H0 H locs) (hP : va_P D cl ws H)
    (kk : ∀ (H1 : Heap) (locs1 : List Loc), va_P D cl ws H1 → va_S A0 H0 H1 locs1 → W p l e R s m args below meth c H1 locs1 cells slots Q (F0 m (pc + 3) ls (.long v :: rest))) : W p l e R s m args below meth c H locs cells slots Q (F0 m pc ls st0) := by
  refine va_calll hr hS (fun _ _ h => h.elim) (fun _ h => h.elim) (fun r u t H1 locs1 _ _ hp _ _ hk hS1 => ?_)
  subst hp
  exact kk H1 locs1 (hP.kept fun k q hq => hk q.1 (hP k q hq).lt (fun h => h)) hS1
/-- .. nothing -/
theorem pu_v (hr : va_Run p l e R s m args below meth c H locs cells slots 0 0 (F0 m pc ls st0) rest (va_Qv (fun (_ : Unit) => True) (fun _ _ => True) (fun _ => False) a) (fun _ => False)) (hS : va_S A0 H0 H locs) (hP : va_P D cl ws H)
    (kk : ∀ (H1 : Heap) (locs1 : List Loc), va_P D cl ws H1 → va_S A0 H0 H1 locs1 → W p l e R s m args below meth c H1 locs1 cells slots Q (F0 m (pc + 3) ls rest)) : W p l e R s m args below meth c H locs cells slots Q (F0 m pc ls st0) := by
  refine va_callv hr hS (fun _ _ h => h.elim) (fun _ h => h.elim) (fun u t H1 locs1 _ _ hp _ _ hk hS1 => ?_)
  exact kk H1 locs1 (hP.kept fun k q hq => hk q.1 (hP k q hq).lt (fun h => h)) hS1
/-- a call that changes the cells at the places 'is' -/
theorem ip_i {S : Type} {post : Int32 → S → Prop} {w1 : S → va_W} (hr : va_Run p l e R s m args below meth c H locs cells slots mc ms (F0 m pc ls st0) rest (va_Qi post (fun u t => va_P D cl (w1 u) t.heap) (va_A wc H.size) a) (va_A wc H.size)) (hS : va_S A0 H0 H locs) (hP : va_P D cl ws H) (hD : va_D A0 ws) (hA : ∀ q, H0.size ≤ q → A0 q)
    (is : List Nat) (hC : is.map (fun i => ws[i]?) = wc.map some) (had : ∀ u, (w1 u).map Prod.fst = wc.map Prod.fst)
    (kk : ∀ (r : Int32) (u : S) (H1 : Heap) (locs1 : List Loc), post r u → va_P D cl (setL ws is (w1 u)) H1 → va_D A0 (setL ws is (w1 u)) → va_S A0 H0 H1 locs1 → W p l e R s m args below meth c H1 locs1 (cells + mc) (slots + ms) Q (F0 m (pc + 3) ls (.int r :: rest))) : W p l e R s m args below meth c H locs cells slots Q (F0 m pc ls st0) := by
  have hF := va_free hD hS hA is hC
  refine va_calli hr hS (fun q _ h => hF q h) hF (fun r u t H1 locs1 ht _ hp hB _ hk hS1 => ?_)
  rw [ht] at hB
  obtain ⟨j1, j2⟩ := jn_set hP hD is hC (had u) hk hB
  exact kk r u H1 locs1 hp j1 j2 hS1
theorem ip_v {S : Type} {post : S → Prop} {w1 : S → va_W} (hr : va_Run p l e R s m args below meth c H locs cells slots mc ms (F0 m pc ls st0) rest (va_Qv post (fun u t => va_P D cl (w1 u) t.heap) (va_A wc H.size) a) (va_A wc H.size)) (hS : va_S A0 H0 H locs) (hP : va_P D cl ws H) (hD : va_D A0 ws) (hA : ∀ q, H0.size ≤ q → A0 q)
    (is : List Nat) (hC : is.map (fun i => ws[i]?) = wc.map some) (had : ∀ u, (w1 u).map Prod.fst = wc.map Prod.fst)
    (kk : ∀ (u : S) (H1 : Heap) (locs1 : List Loc), post u → va_P D cl (setL ws is (w1 u)) H1 → va_D A0 (setL ws is (w1 u)) → va_S A0 H0 H1 locs1 → W p l e R s m args below meth c H1 locs1 (cells + mc) (slots + ms) Q (F0 m (pc + 3) ls rest)) : W p l e R s m args below meth c H locs cells slots Q (F0 m pc ls st0) := by
  have hF := va_free hD hS hA is hC
  refine va_callv hr hS (fun q _ h => hF q h) hF (fun u t H1 locs1 ht _ hp hB _ hk hS1 => ?_)
  rw [ht] at hB
  obtain ⟨j1, j2⟩ := jn_set hP hD is hC (had u) hk hB
  exact kk u H1 locs1 hp j1 j2 hS1
/-- what a thrown call leaves to its caller -/
def tr_kx (p : Program) (l : Launch) (e : Env) (R : Room) (s : State) (m : MethodId) (args : Array Value) (below : List Frame) (meth : Method) (c : Code) (cells slots : Nat) (Q : State → Prop) (D : va_G) (cl : List vw_C) (A0 : Nat → Prop) (H0 : Heap) (g : JFrame) (w : va_W) (E : String) : Prop :=
  ∀ (q : Addr) (ce : Cell) (H1 : Heap) (locs1 : List Loc), va_P D cl w H1 → va_D A0 w → va_S A0 H0 H1 locs1 → H1[q]? = some ce → ce.vm = .none → s.vm.findClass E = some ce.cls → tr_W p l e R s m args below meth c H1 locs1 cells slots Q g q
theorem tx_i {S SX : Type} {post : Int32 → S → Prop} {w1 : S → va_W} {px : String → SX → Prop} {w2 : SX → va_W} (hr : tr_Run p l e R s m args below meth c H locs cells slots mc ms (F0 m pc ls st0) rest (va_Qi post (fun u t => va_P D cl (w1 u) t.heap) (va_A wc H.size) a) (fun E t => ∃ u : SX, px E u ∧ va_P D cl (w2 u) t.heap) (va_A wc H.size)) (hS : va_S A0 H0 H locs) (hP : va_P D cl ws H) (hD : va_D A0 ws) (hA : ∀ q, H0.size ≤ q → A0 q)
    (is : List Nat) (hC : is.map (fun i => ws[i]?) = wc.map some) (had : ∀ u, (w1 u).map Prod.fst = wc.map Prod.fst) (hax : ∀ u, (w2 u).map Prod.fst = wc.map Prod.fst)
    (kx : ∀ (E : String) (u : SX), px E u → tr_kx p l e R s m args below meth c (cells + mc) (slots + ms) Q D cl A0 H0 (F0 m pc ls rest) (setL ws is (w2 u)) E)
    (kk : ∀ (r : Int32) (u : S) (H1 : Heap) (locs1 : List Loc), post r u → va_P D cl (setL ws is (w1 u)) H1 → va_D A0 (setL ws is (w1 u)) → va_S A0 H0 H1 locs1 → W p l e R s m args below meth c H1 locs1 (cells + mc) (slots + ms) Q (F0 m (pc + 3) ls (.int r :: rest))) : W p l e R s m args below meth c H locs cells slots Q (F0 m pc ls st0) := by
  have hF := va_free hD hS hA is hC
  intro T hT Y
  obtain ⟨st₀, t, B, L, h0, e1, -, b3, hL, h⟩ := hr T hT Y
  rcases h with ⟨v, ⟨⟨r, u, hv, hp, hB⟩, hFr⟩, st⟩ | ⟨q, E, ce, ⟨⟨u, hp, hB⟩, hFr⟩, ⟨c1, c2, c3⟩, st⟩
  · obtain ⟨k1, k2⟩ := tr_keep h0 e1 hS hF hL hFr
    cases hv
    obtain ⟨j1, j2⟩ := jn_set hP hD is hC (had u) k1 (by rw [e1]; exact hB)
    obtain ⟨t2, a1, b1⟩ := kk r u B.heap (locs ++ L) hp j1 j2 k2 B rfl b3
    exact ⟨t2, st t2 a1, b1⟩
  · obtain ⟨k1, k2⟩ := tr_keep h0 e1 hS hF hL hFr
    obtain ⟨j1, j2⟩ := jn_set hP hD is hC (hax u) k1 (by rw [e1]; exact hB)
    obtain ⟨t2, a1, b1⟩ := kx E u hp q ce B.heap (locs ++ L) j1 j2 k2 (by rw [e1]; exact c1) c2 c3 B rfl b3
    exact ⟨t2, st.trans a1, b1⟩
theorem tx_l {S SX : Type} {post : Int64 → S → Prop} {w1 : S → va_W} {px : String → SX → Prop} {w2 : SX → va_W} (hr : tr_Run p l e R s m args below meth c H locs cells slots mc ms (F0 m pc ls st0) rest (va_Ql post (fun u t => va_P D cl (w1 u) t.heap) (va_A wc H.size) a) (fun E t => ∃ u : SX, px E u ∧ va_P D cl (w2 u) t.heap) (va_A wc H.size)) (hS : va_S A0 H0 H locs) (hP : va_P D cl ws H) (hD : va_D A0 ws) (hA : ∀ q, H0.size ≤ q → A0 q)
    (is : List Nat) (hC : is.map (fun i => ws[i]?) = wc.map some) (had : ∀ u, (w1 u).map Prod.fst = wc.map Prod.fst) (hax : ∀ u, (w2 u).map Prod.fst = wc.map Prod.fst)
    (kx : ∀ (E : String) (u : SX), px E u → tr_kx p l e R s m args below meth c (cells + mc) (slots + ms) Q D cl A0 H0 (F0 m pc ls rest) (setL ws is (w2 u)) E)
    (kk : ∀ (r : Int64) (u : S) (H1 : Heap) (locs1 : List Loc), post r u → va_P D cl (setL ws is (w1 u)) H1 → va_D A0 (setL ws is (w1 u)) → va_S A0 H0 H1 locs1 → W p l e R s m args below meth c H1 locs1 (cells + mc) (slots + ms) Q (F0 m (pc + 3) ls (.long r :: rest))) : W p l e R s m args below meth c H locs cells slots Q (F0 m pc ls st0) := by
  have hF := va_free hD hS hA is hC
  intro T hT Y
  obtain ⟨st₀, t, B, L, h0, e1, -, b3, hL, h⟩ := hr T hT Y
  rcases h with ⟨v, ⟨⟨r, u, hv, hp, hB⟩, hFr⟩, st⟩ | ⟨q, E, ce, ⟨⟨u, hp, hB⟩, hFr⟩, ⟨c1, c2, c3⟩, st⟩
  · obtain ⟨k1, k2⟩ := tr_keep h0 e1 hS hF hL hFr
    cases hv
    obtain ⟨j1, j2⟩ := jn_set hP hD is hC (had u) k1 (by rw [e1]; exact hB)
    obtain ⟨t2, a1, b1⟩ := kk r u B.heap (locs ++ L) hp j1 j2 k2 B rfl b3
    exact ⟨t2, st t2 a1, b1⟩
  · obtain ⟨k1, k2⟩ := tr_keep h0 e1 hS hF hL hFr
    obtain ⟨j1, j2⟩ := jn_set hP hD is hC (hax u) k1 (by rw [e1]; exact hB)
    obtain ⟨t2, a1, b1⟩ := kx E u hp q ce B.heap (locs ++ L) j1 j2 k2 (by rw [e1]; exact c1) c2 c3 B rfl b3
    exact ⟨t2, st.trans a1, b1⟩
theorem tx_v {S SX : Type} {post : S → Prop} {w1 : S → va_W} {px : String → SX → Prop} {w2 : SX → va_W} (hr : tr_Run p l e R s m args below meth c H locs cells slots mc ms (F0 m pc ls st0) rest (va_Qv post (fun u t => va_P D cl (w1 u) t.heap) (va_A wc H.size) a) (fun E t => ∃ u : SX, px E u ∧ va_P D cl (w2 u) t.heap) (va_A wc H.size)) (hS : va_S A0 H0 H locs) (hP : va_P D cl ws H) (hD : va_D A0 ws) (hA : ∀ q, H0.size ≤ q → A0 q)
    (is : List Nat) (hC : is.map (fun i => ws[i]?) = wc.map some) (had : ∀ u, (w1 u).map Prod.fst = wc.map Prod.fst) (hax : ∀ u, (w2 u).map Prod.fst = wc.map Prod.fst)
    (kx : ∀ (E : String) (u : SX), px E u → tr_kx p l e R s m args below meth c (cells + mc) (slots + ms) Q D cl A0 H0 (F0 m pc ls rest) (setL ws is (w2 u)) E)
    (kk : ∀ (u : S) (H1 : Heap) (locs1 : List Loc), post u → va_P D cl (setL ws is (w1 u)) H1 → va_D A0 (setL ws is (w1 u)) → va_S A0 H0 H1 locs1 → W p l e R s m args below meth c H1 locs1 (cells + mc) (slots + ms) Q (F0 m (pc + 3) ls rest)) : W p l e R s m args below meth c H locs cells slots Q (F0 m pc ls st0) := by
  have hF := va_free hD hS hA is hC
  intro T hT Y
  obtain ⟨st₀, t, B, L, h0, e1, -, b3, hL, h⟩ := hr T hT Y
  rcases h with ⟨v, ⟨⟨u, hv, hp, hB⟩, hFr⟩, st⟩ | ⟨q, E, ce, ⟨⟨u, hp, hB⟩, hFr⟩, ⟨c1, c2, c3⟩, st⟩
  · obtain ⟨k1, k2⟩ := tr_keep h0 e1 hS hF hL hFr
    cases hv
    obtain ⟨j1, j2⟩ := jn_set hP hD is hC (had u) k1 (by rw [e1]; exact hB)
    obtain ⟨t2, a1, b1⟩ := kk u B.heap (locs ++ L) hp j1 j2 k2 B rfl b3
    exact ⟨t2, st t2 a1, b1⟩
  · obtain ⟨k1, k2⟩ := tr_keep h0 e1 hS hF hL hFr
    obtain ⟨j1, j2⟩ := jn_set hP hD is hC (hax u) k1 (by rw [e1]; exact hB)
    obtain ⟨t2, a1, b1⟩ := kx E u hp q ce B.heap (locs ++ L) j1 j2 k2 (by rw [e1]; exact c1) c2 c3 B rfl b3
    exact ⟨t2, st.trans a1, b1⟩
end PU
/-! ===== my own rows, 4: what stays true while nothing outside A changes ===== -/
def ps (Φ : State → Prop) (A : Nat → Prop) (U : State) (H : Heap) : Prop := ∀ V : State, U.WarmedH V.vm → H.size ≤ V.heap.size → (∀ a : Nat, a < H.size → ¬ A a → V.heap[a]? = H[a]?) → Φ V
theorem ps.now {Φ : State → Prop} {A : Nat → Prop} {U : State} (h : ps Φ A U U.heap) : Φ U := h U (State.WarmedH.refl U) (Nat.le_refl _) (fun _ _ _ => rfl)
theorem ps.go {Φ : State → Prop} {A B : Nat → Prop} {U V : State} {H : Heap} {locs : List Loc} (h : ps Φ A U H) (hW : U.WarmedH V.vm) (hS : va_S A H V.heap locs) (hB : ∀ q, q < V.heap.size → B q → A q) : ps Φ B V V.heap := fun Z hZ hz hk =>
  h Z (State.WarmedH.trans hW hZ) (Nat.le_trans hS.1 hz) (fun a ha hA => (hk a (Nat.lt_of_lt_of_le ha hS.1) (fun b => hA (hB _ (Nat.lt_of_lt_of_le ha hS.1) b))).trans (hS.2.1 a ha hA))
theorem ps.blind {Φ : State → Prop} {A : Nat → Prop} {U : State} {g : JFrame} {mk : MethodId} {a : Array Value} (h : ps Φ A U U.heap) : ps Φ A (U.calling g mk a) (U.calling g mk a).heap := fun Z hZ hz hk => h Z hZ hz hk
/-! ===== my own rows, 5: throw new E("text") ===== -/
section TH
variable {p : Program} {l : Launch} {e : Env} {R : Room} {s : State} {m : MethodId} {args : Array Value} {below : List Frame} {meth : Method} {c : Code} {H : Heap} {locs : List Loc} {cells slots : Nat} {Q : State → Prop}
variable {Qc : Array Value → State → Outcome → State → Prop} {X : String → State → Prop} {A : Nat → Prop} {mc ms : Nat}
/-- the state T, seen as the method's own start -/
def tr_at (s T : State) (m : MethodId) (args : Array Value) (below : List Frame) : State := (T.setVm s.vm).setFrames (.invoking m args :: below)
theorem tr_base {T : State} (Y : Stand p l e R s m args below meth c T locs cells slots) {R' : Room} (hf : R'.frames ≤ R.frames) (hl : R'.locals ≤ R.locals) (hc : cells + R'.cells ≤ R.cells) (hs : slots + R'.slots ≤ R.slots) :
    Stand p l e R' (tr_at s T m args below) m args below meth c T [] 0 0 := by
  obtain ⟨g₀, hg0⟩ := Option.isSome_iff_exists.mp Y.here.top
  obtain ⟨r, hr⟩ := State.topJava?_eq_some.mp hg0
  obtain ⟨th, hth, -⟩ := State.frames_cons hr
  have hlt : T.cur < T.threads.size := State.cur_lt_of_frames hr
  have hF : (tr_at s T m args below).frames = .invoking m args :: below := State.frames_setFrames _ (s := T.setVm s.vm) hlt
  have hU : (tr_at s T m args below).localsInUse = s.localsInUse := by
    rw [State.localsInUse_invoking hF (meth := meth) (c := c) Y.method Y.code, State.localsInUse_invoking Y.frames Y.method Y.code]
  have hlim : e.platform.stackLimits (tr_at s T m args below).me = e.platform.stackLimits s.me := (State.stackLimits_setFrames e.platform (T.setVm s.vm) _).trans Y.limits
  have hby : (tr_at s T m args below).me.stackBytes = s.me.stackBytes := (State.stackBytes_setFrames (T.setVm s.vm) _).trans Y.bytes
  obtain ⟨r1, r2, r3, r4⟩ := State.hasRoom_stack Y.room
  have r5 := State.hasRoom_real Y.room
  have r6 := State.hasRoom_plain Y.room
  obtain ⟨r7, r8⟩ := State.hasRoom_heap Y.room
  have q1 := Y.heapSize
  have q2 := Y.used
  have hlen : (tr_at s T m args below).frames.length = s.frames.length := by rw [hF, Y.frames]
  have k1 : (tr_at s T m args below).heap.size + R'.cells ≤ e.platform.maxCells := by
    show T.heap.size + R'.cells ≤ e.platform.maxCells
    omega
  have k2 : (tr_at s T m args below).slotsUsed + R'.slots ≤ e.platform.maxSlots := by
    show T.slotsUsed + R'.slots ≤ e.platform.maxSlots
    omega
  refine ⟨Y.admits, Y.cas, Y.clock, hF, ?_, Y.hears, Y.method, Y.code, Y.here, Y.tail, Y.warmed, hlim.symm ▸ Y.limits, hby.symm ▸ Y.bytes, ?_⟩
  · unfold State.hasRoom
    simp only [Bool.and_eq_true, decide_eq_true_eq]
    rw [hU, hlen, hlim, hby]
    exact ⟨⟨⟨⟨by omega, by omega, by omega, by omega, by omega, r6⟩, k1⟩, k2⟩, Y.book⟩
  · have hd : (T.heap.toList.drop T.heap.size) = [] := List.drop_eq_nil_of_le (Nat.le_of_eq Array.length_toList)
    refine ⟨?_, Nat.le_refl _, Nat.le_refl _, ?_, ?_, fun a c9 h9 => ⟨c9, h9, rfl, rfl, fun _ _ => rfl⟩⟩
    · show T.setVm s.vm = { (tr_at s T m args below).setFrames (T.setVm s.vm).frames with heap := T.heap, slotsUsed := T.slotsUsed }
      have hself : (T.setVm s.vm).setFrames (T.setVm s.vm).frames = T.setVm s.vm := State.setFrames_self (s := T.setVm s.vm) hth
      unfold tr_at
      rw [State.setFrames_setFrames, hself]
      rfl
    · show T.slotsUsed = T.slotsUsed + ((T.heap.toList.drop T.heap.size).map (·.slots.size)).sum
      rw [hd]; rfl
    · show ((T.heap.toList.drop T.heap.size).map (·.slots.size)).sum ≤ 0
      rw [hd]; exact Nat.le_refl _
/-- a heap that has grown, nothing else: what was there is there -/
theorem tr_grown {U V : State} {k n : Nat} (h : U.sameButNew V [] k n) : U.heap.size ≤ V.heap.size ∧ ∀ q : Nat, q < U.heap.size → V.heap[q]? = U.heap[q]? := by
  obtain ⟨-, h2, -, -, -, h6⟩ := h
  refine ⟨h2, fun q hq => ?_⟩
  obtain ⟨c9, e1, e2, e3, e4⟩ := h6 q _ (Array.getElem?_eq_getElem hq)
  have hs : c9.slots = (U.heap[q]).slots := Array.ext_getElem? fun i => e4 i (fun hm => nomatch hm)
  rw [hs] at e2
  rw [e1, e2, Array.getElem?_eq_getElem hq]
/-- new; dup; ldc; invokespecial; athrow -/
theorem tr_throw {cc : ByteArray} {pc : Nat} {ls : Array Slot} {rest : List Value} (hexec : p.tables.exec = Jvm.exec) (hb : c.code = cc) (hl : l.stackTraces = false) {own cls text : String} {names : List String} {ik is ic : Nat}
    (hown : s.vm.findClass own = some m.cls) (hcls : Bundle.fit cls = true) (hnames : ∀ n ∈ names, Bundle.fit n = true)
    (hw : ps (fun V => (∀ (a : Array Value) (w : Cond), w ∈ Cond.classLink own ik cls :: Cond.initialized cls :: Bundle.ownAtoms own ic cls names → w.before a V = true) ∧ ∃ sa, vk_R own is text sa V) A s s.heap)
    (hS : va_S A s.heap H locs) (hsize : ls.size = c.maxLocals)
    (d0 : decode cc pc = .ok (.new ik, 3)) (d3 : decode cc (pc + 3) = .ok (.dup, 1)) (d4 : decode cc (pc + 4) = .ok (.ldc is, 2)) (d6 : decode cc (pc + 6) = .ok (.invokespecial ic, 3)) (d9 : decode cc (pc + 9) = .ok (.athrow, 1))
    (hout : ∀ x ∈ c.exceptionTable.toList, covers x (pc + 9) = false)
    (hRf : names.length + 3 < R.frames) (hRl : (rest.map fun v => v.category).sum + (13 * (names.length + 1) + 43) ≤ R.locals) (hRc : cells + 1 ≤ R.cells) (hRs : slots + 6 ≤ R.slots) (hlocks : meth.locks = false)
    (hx : ∀ t : State, H.size ≤ t.heap.size → (∀ q : Nat, q < H.size → t.heap[q]? = H[q]?) → X cls t) (hA : ∀ q, s.heap.size ≤ q → A q) (hc : cells + 1 ≤ mc) (hs : slots + 6 ≤ ms) :
    W p l e R s m args below meth c H locs cells slots (tr_MQ below Qc X A args s mc ms) (F0 m pc ls rest) := by
  intro T hT Y
  have htr : e.platform.stackTraces = false := (show e.platform.stackTraces = l.stackTraces by rw [Y.admits.platform]).trans hl
  have Z := tr_base Y (R' := { frames := R.frames, locals := R.locals, cells := 1, slots := 6 }) (Nat.le_refl _) (Nat.le_refl _) hRc hRs
  generalize hs' : tr_at s T m args below = s' at Z
  have hvm : s'.vm = s.vm := by rw [← hs']; rfl
  have hhp : s'.heap = H := by rw [← hs']; exact hT
  obtain ⟨hwd, sa, hstr⟩ := hw s' (by rw [hvm]; exact State.WarmedH.refl s) (by rw [hhp]; exact hS.1) (by rw [hhp]; exact hS.2.1)
  have hown' : s'.vm.findClass own = some m.cls := by rw [hvm]; exact hown
  have hat : ∀ w ∈ Bundle.ownAtoms own ic cls names, w.before args s' = true := fun w h => hwd args w (List.mem_cons_of_mem _ (List.mem_cons_of_mem _ h))
  obtain ⟨vm₁, cX, kX, hfX, hkX, -, -, X₁, st1⟩ := Z.newCold hexec (own := own) (C := cls) (index := ik) (n := 6) hown' (hwd args _ List.mem_cons_self) (hat _ (by simp [Bundle.ownAtoms])) (hwd args _ (List.mem_cons_of_mem _ List.mem_cons_self))
    (g := F0 m pc ls rest) rfl (by rw [hb]; exact d0) (Nat.le_refl _) (Nat.le_refl _)
  generalize hT1 : (T.setVm vm₁).pushCell { cls := cX, slots := kX.instanceTypes.map defaultValue, vm := .none } = T1 at X₁ st1
  have hcat : (Value.ref T.heap.size).category = 1 := rfl
  have hcellA : T1.heap[T.heap.size]? = some (freshCell cX kX) := by rw [← hT1]; exact State.heap_pushCell_size _ _
  have d3' : decode c.code (pc + 3) = .ok (.dup, 1) := by rw [hb]; exact d3
  have d4' : decode c.code (pc + 4) = .ok (.ldc is, 2) := by rw [hb]; exact d4
  obtain ⟨U, hsteps, hrun, hend, hW, hsame, ce, hce, hO⟩ := X₁.ctorThrowS hexec htr (own := own) (cls := cls) (names := names) (ic := ic) hown' hcls hnames hat (fun x hx => nomatch hx) hfX hkX hcellA (by rw [hhp, hT]; exact Nat.le_refl _) (msg := .ref sa) rfl
    (g := { method := m, pc := pc + 6, locals := ls, stack := .ref sa :: .ref T.heap.size :: .ref T.heap.size :: rest, locked := none }) rfl hsize rfl rfl (rest := rest) rfl
    (by rw [hb]; exact d6) (by rw [hb]; exact d9) hout hRf (by simp only [List.map_cons, List.sum_cons, hcat]; omega) hlocks
  have hgr : s'.heap.size ≤ U.heap.size ∧ ∀ q : Nat, q < s'.heap.size → U.heap[q]? = s'.heap[q]? := tr_grown (V := ({ U with vm := s'.vm } : State)) hsame
  rw [hhp] at hgr
  obtain ⟨f1, f2⟩ := hgr
  have hWs : s.WarmedH U.vm := by
    have h9 : s'.WarmedH U.vm := hW
    exact State.WarmedH.trans (s := s) (by rw [hvm]; exact State.WarmedH.refl s) h9
  have hall : s.sameButNew ({ U with vm := s.vm } : State) locs mc ms := by
    obtain ⟨e1, e2⟩ := hsame
    subst hs'
    unfold tr_at at e1
    rw [State.setFrames_setFrames] at e1
    have h2 : (T.setVm s.vm).sameButNew ({ U with vm := s.vm } : State) [] (0 + 1) (0 + 6) := ⟨e1, e2⟩
    have h3 := Y.same.trans h2
    rw [List.append_nil] at h3
    exact h3.mono hc hs
  refine ⟨U, ?_, .threw T.heap.size, hrun, hend, Or.inr ⟨T.heap.size, rfl, cls, ce, locs, ⟨hx U f1 f2, Nat.le_trans hS.1 f1, fun q h1 h2 => (f2 q (Nat.lt_of_lt_of_le h1 hS.1)).trans (hS.2.1 q h1 h2)⟩, ⟨hce, hO.vm, ?_⟩, hWs, hall, hS.2.2⟩⟩
  · refine st1 _ ?_
    show Steps p.tables e below (T1.setTop { method := m, pc := pc + 3, locals := ls, stack := .ref T.heap.size :: rest, locked := none }) _
    jvm_step X₁.here [X₁.here.top, hexec, d3', Value.category]
    exact X₁.ldcString hexec (own := own) (text := text) (index := is) (a := sa) hown' hstr.1 hstr.2
      (g := { method := m, pc := pc + 4, locals := ls, stack := .ref T.heap.size :: .ref T.heap.size :: rest, locked := none }) rfl d4' _ hsteps
  · have h9 := hO.cls
    rw [hvm] at h9
    exact h9
end TH
end
section
/-! ===== what holds wherever a method starts: words, classes, statics ===== -/
abbrev cxT : Type := va_G × (Nat → ClassId) × (Nat → Nat)
def tyL (G : cxT) : List (ClassId × FieldType) := [(G.2.1 0, .int), (G.2.1 1, .byte), (G.2.1 2, .boolean), (G.2.1 3, .long)]
/-- the words on Throwable's statics, which speak of the heap -/
def hw0 : List Cond := [.isRef (.static Bundle.tN "UNASSIGNED_STACK" Bundle.steD), .isRef (.static Bundle.tN "SUPPRESSED_SENTINEL" Bundle.listD), .laysStatic Bundle.tN "UNASSIGNED_STACK" Bundle.steD, .laysStatic Bundle.tN "SUPPRESSED_SENTINEL" Bundle.listD]
/-- words that warmer tables keep, by laws of their own -/
def xok : Cond → Bool
  | .declares _ => true
  | .castable _ _ => true
  | _ => false
def hw4 : List Cond := hw0 ++ lw_tbl.filter xok
def strL : List (Nat × String) := [(108, "no such memory or load operator"), (175, "beyond an end"), (126, "no such memory or store operator"), (132, "no such memory"), (134, "no such memory or segment"), (144, "no such segment"), (156, "no such table"), (161, "no such table or reference"), (166, "no such table or another type"), (168, "no such table or segment")]
/-- the class's two tables of widths -/
def wLoad : Nat → Int32 := fun j => ([4, 8, 4, 8, 1, 1, 2, 2, 1, 1, 2, 2, 4, 4] : List Int32).getD j 0
def wStore : Nat → Int32 := fun j => ([4, 8, 4, 8, 1, 2, 1, 2, 4] : List Int32).getD j 0
abbrev E_ill : String := "java/lang/IllegalArgumentException"
abbrev E_uns : String := "java/lang/UnsupportedOperationException"
def cxP (G : cxT) (A : Nat → Prop) (V : State) : Prop :=
  (∀ (a : Array Value) (w : Cond), w ∈ bw → w.before a V = true) ∧ va_K G.1 vwC (tyL G) V ∧ (∀ (a : Array Value) (w : Cond), w ∈ hw4 → w.before a V = true) ∧ (∀ q ∈ strL, ∃ sa, vk_R R_Pm q.1 q.2 sa V) ∧
  (va_Z R_Pm "LOAD_WIDTHS" "[I" (.ref (G.2.2 0)) A V V.heap ∧ va_T .int (G.2.2 0) 14 (fun j => .int (wLoad j)) A V V.heap) ∧
  (va_Z R_Pm "STORE_WIDTHS" "[I" (.ref (G.2.2 1)) A V V.heap ∧ va_T .int (G.2.2 1) 9 (fun j => .int (wStore j)) A V V.heap) ∧ va_Nc E_uns E_ill V
theorem cxP.narrow {G : cxT} {A B : Nat → Prop} {V : State} (h : cxP G A V) (hB : ∀ q, B q → A q) : cxP G B V := by
  obtain ⟨h1, h2, h3, h4, ⟨h5, h6⟩, ⟨h7, h8⟩, h9⟩ := h
  exact ⟨h1, h2, h3, h4, ⟨h5.narrow hB, h6.narrow hB⟩, ⟨h7.narrow hB, h8.narrow hB⟩, h9⟩
def cx (G : cxT) (A : Nat → Prop) (U : State) : Prop := ps (cxP G A) A U U.heap
theorem cx.now {G : cxT} {A : Nat → Prop} {U : State} (h : cx G A U) : cxP G A U := ps.now h
theorem cx.imp {G : cxT} {A : Nat → Prop} {U : State} {Ψ : State → Prop} (h : cx G A U) (f : ∀ V, cxP G A V → Ψ V) : ps Ψ A U U.heap := fun V h1 h2 h3 => f V (h V h1 h2 h3)
theorem cx.go {G : cxT} {A B : Nat → Prop} {s U : State} {H : Heap} {locs : List Loc} (h : cx G A s) (hU : U.heap = H) (hW : s.WarmedH U.vm) (hS : va_S A s.heap H locs) (hB : ∀ q, B q → A q) : cx G B U := by
  subst hU
  intro Z hZ hz hk
  exact (h Z (State.WarmedH.trans hW hZ) (Nat.le_trans hS.1 hz) (fun a ha hA => (hk a (Nat.lt_of_lt_of_le ha hS.1) (fun b => hA (hB _ b))).trans (hS.2.1 a ha hA))).narrow hB
/-- a start of a method that changes nothing -/
def cp (G : cxT) (av : List Value) (ws : va_W) : Array Value → State → Prop := va_Pc av (fun U => cx G (fun _ => False) U ∧ va_P G.1 vwC ws U.heap)
theorem cp_blind {G : cxT} {av : List Value} {ws : va_W} : FrameBlind (cp G av ws) := fun _ _ _ _ h => ⟨h.1, fun Z hZ hz hk => h.2.1 Z hZ hz hk, h.2.2⟩
theorem cp_pre {G : cxT} {A : Nat → Prop} {s : State} {H : Heap} {locs : List Loc} {av : List Value} {ws : va_W} (hcx : cx G A s) (hS : va_S A s.heap H locs) (hP : va_P G.1 vwC ws H) : ∀ U : State, U.heap = H → s.WarmedH U.vm → cp G av ws av.toArray U :=
  fun U hU hW => ⟨rfl, hcx.go hU hW hS (fun _ h => h.elim), by rw [hU]; exact hP⟩
/-- a start of a method that may change its cells, and make new ones -/
def cm (G : cxT) (av : List Value) (ws : va_W) (sz : Nat) : Array Value → State → Prop := va_Pc av (fun U => U.heap.size = sz ∧ cx G (va_A ws sz) U ∧ va_P G.1 vwC ws U.heap ∧ va_D (fun _ => True) ws)
theorem cm_blind {G : cxT} {av : List Value} {ws : va_W} {sz : Nat} : FrameBlind (cm G av ws sz) := fun _ _ _ _ h => ⟨h.1, h.2.1, fun Z hZ hz hk => h.2.2.1 Z hZ hz hk, h.2.2.2⟩
theorem cm_pre {G : cxT} {A : Nat → Prop} {s : State} {H : Heap} {locs : List Loc} {av : List Value} {ws : va_W} (hcx : cx G A s) (hS : va_S A s.heap H locs) (hP : va_P G.1 vwC ws H) (hD : va_D A ws) (hF : ∀ q, va_A ws H.size q → A q) : ∀ U : State, U.heap = H → s.WarmedH U.vm → cm G av ws H.size av.toArray U :=
  fun U hU hW => ⟨rfl, by rw [hU], hcx.go hU hW hS hF, by rw [hU]; exact hP, hD.weaken (fun _ _ _ _ => trivial)⟩
/-- a method without a table of its own catches nothing -/
theorem tr_nt {p : Program} {l : Launch} {y : MethodName} {ws ws' : List Cond} {rm : Room} {cc : ByteArray} {maxL : Nat} {ret : Option FieldType} {e : Env} {s : State} {m : MethodId} {args : Array Value} {below : List Frame} {meth : Method} {c : Code} {s₁ : State}
    (B : BodyLoose p l y (headSpec ws rm) cc maxL ret e s m args below meth c s₁) (hw : ws = Cond.code y cc maxL ret :: ws') : ∀ (pc : Nat), ∀ x ∈ c.exceptionTable.toList, covers x pc = false := by
  have h := BodyLoose.noHandlers B (atoms_spec (ws := ws) B.pre _ (by rw [hw]; exact List.mem_cons_self))
  intro pc x hx
  have h9 : c.exceptionTable = #[] := by simpa using h
  rw [h9] at hx
  cases hx
/-- a call's words -/
theorem gi_V {own C : String} {idx maxL : Nat} {y : MethodName} {bytes : ByteArray} {ret : Option FieldType} (h1 : Cond.methodLink own idx y ∈ bw) (h2 : Cond.instanceMethod y ∈ bw) (h3 : Cond.selects C y y ∈ bw) (h4 : Cond.initialized C ∈ bw) (h5 : Cond.code y bytes maxL ret ∈ bw) : GoodIn bw (wsV own idx C y [.code y bytes maxL ret]) := by
  intro w hw
  have hm : w ∈ bw := by
    simp only [wsV, List.cons_append, List.nil_append, List.mem_cons, List.not_mem_nil, or_false] at hw
    rcases hw with rfl | rfl | rfl | rfl | rfl <;> assumption
  exact ⟨hm, good_of_word (bw_good w hm)⟩
theorem gi_S {own : String} {idx maxL : Nat} {y : MethodName} {bytes : ByteArray} {ret : Option FieldType} (h1 : Cond.methodLink own idx y ∈ bw) (h2 : Cond.static y ∈ bw) (h4 : Cond.initialized y.cls ∈ bw) (h5 : Cond.code y bytes maxL ret ∈ bw) : GoodIn bw (va_wsS own idx y [.code y bytes maxL ret]) := by
  intro w hw
  have hm : w ∈ bw := by
    simp only [va_wsS, List.cons_append, List.nil_append, List.mem_cons, List.not_mem_nil, or_false] at hw
    rcases hw with rfl | rfl | rfl | rfl <;> assumption
  exact ⟨hm, good_of_word (bw_good w hm)⟩
theorem gi_1 {y : MethodName} {bytes : ByteArray} {maxL : Nat} {ret : Option FieldType} (h5 : Cond.code y bytes maxL ret ∈ bw) : GoodIn bw [.code y bytes maxL ret] := by
  intro w hw
  obtain rfl := List.mem_singleton.mp hw
  exact ⟨h5, good_of_word (bw_good _ h5)⟩
end
section
/-! ===== Layout: what its methods answer ===== -/
def ly_has (cnt k : Int32) : Int32 := if k < 0 then 0 else if cnt ≤ k then 0 else 1
def ly_full (cnt : Int32) (n : Nat) : Int32 := if cnt < nI n then 0 else 1
def ly_st (cnt k : Int32) (f0 : Nat → Int32) : Int32 := if ly_has cnt k = 0 then 0 else f0 k.toNatClampNeg
def ly_ln (cnt k : Int32) (f1 : Nat → Int32) : Int32 := if ly_has cnt k = 0 then (-1) else f1 k.toNatClampNeg
def ly_en (cnt us k : Int32) (f0 f1 : Nat → Int32) : Int32 := if ly_has cnt k = 0 then us else f0 k.toNatClampNeg + f1 k.toNatClampNeg
def ly_can (cnt us rm m mo : Int32) (n : Nat) (f2 : Nat → Int32) : Int32 := if mo = 0 then (if ly_full cnt n = 0 then (if rm - us < m then 0 else 1) else 0) else (if cnt ≤ 0 then 0 else if f2 (cnt - 1).toNatClampNeg = 0 then (if rm - us < m then 0 else 1) else 0)
theorem ly_has_in {cnt k : Int32} {n : Nat} (h : ¬ ly_has cnt k = 0) (hc : cnt.toInt ≤ n) : vp_in k n := by
  unfold ly_has at h
  by_cases h1 : k < 0
  · simp [h1] at h
  · by_cases h2 : cnt ≤ k
    · simp [h1, h2] at h
    · rw [vp_in_iff]
      rw [Int32.lt_iff_toInt_lt] at h1
      rw [Int32.le_iff_toInt_le] at h2
      have e : (0 : Int32).toInt = 0 := rfl
      omega

def wp_Ly_has (post : Int32 → Prop) (n : Nat) (rm : Int32) (cnt : Int32) (us : Int32) (f0 : Nat → Int32) (f1 : Nat → Int32) (f2 : Nat → Int32) (k : Int32) : Prop := ((k < 0 → (post 0)) ∧ (¬ k < 0 → (((cnt ≤ k → (post 0)) ∧ (¬ cnt ≤ k → (post 1))))))
set_option maxHeartbeats 4000000 in
set_option maxRecDepth 100000 in
theorem t_Ly_has (l : Launch) (G : cxT) (h : Nat) (a1 : Nat) (a2 : Nat) (a3 : Nat) (n : Nat) (rm : Int32) (cnt : Int32) (us : Int32) (f0 : Nat → Int32) (f1 : Nat → Int32) (f2 : Nat → Int32) (k : Int32) (post : Int32 → Prop) (hw : wp_Ly_has post n rm cnt us f0 f1 f2 k) : Met l y_Ly_has [.code y_Ly_has b_Ly_has 2 (some .boolean)] ({ frames := 0, cells := 0, slots := 0, locals := 0 } : Room) (cp G [.ref h, .int k] [(h, .inr (0, [.int rm, .ref a1, .ref a2, .ref a3, .int cnt, .int us])), (a1, .inl (G.2.1 0, n, .inl f0)), (a2, .inl (G.2.1 0, n, .inl f1)), (a3, .inl (G.2.1 2, n, .inl f2))]) (va_Qi (fun r (_ : Unit) => post r) (fun _ _ => True) (fun _ => False)) 0 0 (fun _ => False) := by
  refine Met.ofW (cc := b_Ly_has) (maxL := 2) (ret := (some .boolean)) (by decide) rfl ?_
  intro p e s m args below meth c s₁ B hml hv
  obtain ⟨rfl, hcx, hP⟩ := hv
  have hx := B.exec
  have hb := B.bytes
  have hr := B.returns
  have hlocks := B.notSynchronized
  have hown : s.vm.findClass R_Ly = some m.cls := findClass_of_methodNamed B.named
  have hS : va_S (fun _ => False) s.heap s.heap [] := va_S.rf
  have hts := hcx.now.1 [.ref h, .int k].toArray
  have hK := hcx.now.2.1
  have hl := lv_entry ([.ref h, .int k]) (n := 2) (Nat.le_of_ble_eq_true rfl)
  rw [lg_entry_eq]
  generalize (lg_sl ([.ref h, .int k]) ++ List.replicate (2 - (lg_sl ([.ref h, .int k])).length) Slot.unset).toArray = ls at hl ⊢
  have hl : lv_has ls 2 [(0, .ref h), (1, .int k)] := hl
  unfold wp_Ly_has at hw
  refine lv_iload_n hx hb d_Ly_has_0 rfl (lv_at hl 1 rfl) ?_
  refine lv_if_lt (tgt := 16) hx hb d_Ly_has_1 (by decide) (fun c_1 => ?_) (fun c_1 => ?_)
  · replace hw := hw.1 c_1
    refine lv_iconst (v := 0) hx hb d_Ly_has_16 (by decide) ?_
    exact W.zret (v := 0) (ty := .boolean) hx hb hr rfl (fun t ht hW => ⟨⟨0, (), rfl, hw, trivial⟩, hS.F ht⟩) hS.2.2 d_Ly_has_17
  · replace hw := hw.2 c_1
    refine lv_iload_n hx hb d_Ly_has_4 rfl (lv_at hl 1 rfl) ?_
    refine lv_aload_n hx hb d_Ly_has_5 rfl (lv_at hl 0 rfl) ?_
    refine va_get (D := G.1) (ci := 0) (v := .int cnt) (C := R_Ly) (T := T_Ly) (N := 6) hx hb hts in_Ly hown hK hP 0 rfl rfl 4 (by decide) (hts _ fl_Ly_26) (fun _ h9 => h9) rfl d_Ly_has_6 ?_
    refine lv_icmp_ge (tgt := 16) hx hb d_Ly_has_9 (by decide) (fun c_2 => ?_) (fun c_2 => ?_)
    · replace hw := hw.1 c_2
      refine lv_iconst (v := 0) hx hb d_Ly_has_16 (by decide) ?_
      exact W.zret (v := 0) (ty := .boolean) hx hb hr rfl (fun t ht hW => ⟨⟨0, (), rfl, hw, trivial⟩, hS.F ht⟩) hS.2.2 d_Ly_has_17
    · replace hw := hw.2 c_2
      refine lv_iconst (v := 1) hx hb d_Ly_has_12 (by decide) ?_
      refine lv_goto (tgt := 17) hx hb d_Ly_has_13 (by decide) ?_
      exact W.zret (v := 1) (ty := .boolean) hx hb hr rfl (fun t ht hW => ⟨⟨1, (), rfl, hw, trivial⟩, hS.F ht⟩) hS.2.2 d_Ly_has_17
theorem c_Ly_has (l : Launch) (G : cxT) (h : Nat) (a1 : Nat) (a2 : Nat) (a3 : Nat) (n : Nat) (rm : Int32) (cnt : Int32) (us : Int32) (f0 : Nat → Int32) (f1 : Nat → Int32) (f2 : Nat → Int32) (k : Int32) : Met l y_Ly_has [.code y_Ly_has b_Ly_has 2 (some .boolean)] ({ frames := 0, cells := 0, slots := 0, locals := 0 } : Room) (cp G [.ref h, .int k] [(h, .inr (0, [.int rm, .ref a1, .ref a2, .ref a3, .int cnt, .int us])), (a1, .inl (G.2.1 0, n, .inl f0)), (a2, .inl (G.2.1 0, n, .inl f1)), (a3, .inl (G.2.1 2, n, .inl f2))]) (va_Qi (fun r (_ : Unit) => (fun r => r = (ly_has cnt k)) r) (fun _ _ => True) (fun _ => False)) 0 0 (fun _ => False) :=
  t_Ly_has l G h a1 a2 a3 n rm cnt us f0 f1 f2 k (fun r => r = (ly_has cnt k)) (by
    unfold wp_Ly_has ly_has
    exact ⟨fun c1 => by simp [c1], fun c1 => ⟨fun c2 => by simp [c1, c2], fun c2 => by simp [c1, c2]⟩⟩)
def wp_Ly_isFull (post : Int32 → Prop) (n : Nat) (rm : Int32) (cnt : Int32) (us : Int32) (f0 : Nat → Int32) (f1 : Nat → Int32) (f2 : Nat → Int32) : Prop := ((cnt < nI n → (post 0)) ∧ (¬ cnt < nI n → (post 1)))
set_option maxHeartbeats 4000000 in
set_option maxRecDepth 100000 in
theorem t_Ly_isFull (l : Launch) (G : cxT) (h : Nat) (a1 : Nat) (a2 : Nat) (a3 : Nat) (n : Nat) (rm : Int32) (cnt : Int32) (us : Int32) (f0 : Nat → Int32) (f1 : Nat → Int32) (f2 : Nat → Int32) (post : Int32 → Prop) (hw : wp_Ly_isFull post n rm cnt us f0 f1 f2) : Met l y_Ly_isFull [.code y_Ly_isFull b_Ly_isFull 1 (some .boolean)] ({ frames := 0, cells := 0, slots := 0, locals := 0 } : Room) (cp G [.ref h] [(h, .inr (0, [.int rm, .ref a1, .ref a2, .ref a3, .int cnt, .int us])), (a1, .inl (G.2.1 0, n, .inl f0)), (a2, .inl (G.2.1 0, n, .inl f1)), (a3, .inl (G.2.1 2, n, .inl f2))]) (va_Qi (fun r (_ : Unit) => post r) (fun _ _ => True) (fun _ => False)) 0 0 (fun _ => False) := by
  refine Met.ofW (cc := b_Ly_isFull) (maxL := 1) (ret := (some .boolean)) (by decide) rfl ?_
  intro p e s m args below meth c s₁ B hml hv
  obtain ⟨rfl, hcx, hP⟩ := hv
  have hx := B.exec
  have hb := B.bytes
  have hr := B.returns
  have hlocks := B.notSynchronized
  have hown : s.vm.findClass R_Ly = some m.cls := findClass_of_methodNamed B.named
  have hS : va_S (fun _ => False) s.heap s.heap [] := va_S.rf
  have hts := hcx.now.1 [.ref h].toArray
  have hK := hcx.now.2.1
  have hl := lv_entry ([.ref h]) (n := 1) (Nat.le_of_ble_eq_true rfl)
  rw [lg_entry_eq]
  generalize (lg_sl ([.ref h]) ++ List.replicate (1 - (lg_sl ([.ref h])).length) Slot.unset).toArray = ls at hl ⊢
  have hl : lv_has ls 1 [(0, .ref h)] := hl
  unfold wp_Ly_isFull at hw
  refine lv_aload_n hx hb d_Ly_isFull_0 rfl (lv_at hl 0 rfl) ?_
  refine va_get (D := G.1) (ci := 0) (v := .int cnt) (C := R_Ly) (T := T_Ly) (N := 6) hx hb hts in_Ly hown hK hP 0 rfl rfl 4 (by decide) (hts _ fl_Ly_26) (fun _ h9 => h9) rfl d_Ly_isFull_1 ?_
  refine lv_aload_n hx hb d_Ly_isFull_4 rfl (lv_at hl 0 rfl) ?_
  refine va_get (D := G.1) (ci := 0) (v := .ref a1) (C := R_Ly) (T := T_Ly) (N := 6) hx hb hts in_Ly hown hK hP 0 rfl rfl 1 (by decide) (hts _ fl_Ly_15) (fun _ h9 => h9) rfl d_Ly_isFull_5 ?_
  refine va_alen (v := nI n) hx hb hK hP 1 0 rfl rfl rfl d_Ly_isFull_8 ?_
  refine lv_icmp_lt (tgt := 16) hx hb d_Ly_isFull_9 (by decide) (fun c_1 => ?_) (fun c_1 => ?_)
  · replace hw := hw.1 c_1
    refine lv_iconst (v := 0) hx hb d_Ly_isFull_16 (by decide) ?_
    exact W.zret (v := 0) (ty := .boolean) hx hb hr rfl (fun t ht hW => ⟨⟨0, (), rfl, hw, trivial⟩, hS.F ht⟩) hS.2.2 d_Ly_isFull_17
  · replace hw := hw.2 c_1
    refine lv_iconst (v := 1) hx hb d_Ly_isFull_12 (by decide) ?_
    refine lv_goto (tgt := 17) hx hb d_Ly_isFull_13 (by decide) ?_
    exact W.zret (v := 1) (ty := .boolean) hx hb hr rfl (fun t ht hW => ⟨⟨1, (), rfl, hw, trivial⟩, hS.F ht⟩) hS.2.2 d_Ly_isFull_17
theorem c_Ly_isFull (l : Launch) (G : cxT) (h : Nat) (a1 : Nat) (a2 : Nat) (a3 : Nat) (n : Nat) (rm : Int32) (cnt : Int32) (us : Int32) (f0 : Nat → Int32) (f1 : Nat → Int32) (f2 : Nat → Int32) : Met l y_Ly_isFull [.code y_Ly_isFull b_Ly_isFull 1 (some .boolean)] ({ frames := 0, cells := 0, slots := 0, locals := 0 } : Room) (cp G [.ref h] [(h, .inr (0, [.int rm, .ref a1, .ref a2, .ref a3, .int cnt, .int us])), (a1, .inl (G.2.1 0, n, .inl f0)), (a2, .inl (G.2.1 0, n, .inl f1)), (a3, .inl (G.2.1 2, n, .inl f2))]) (va_Qi (fun r (_ : Unit) => (fun r => r = (ly_full cnt n)) r) (fun _ _ => True) (fun _ => False)) 0 0 (fun _ => False) :=
  t_Ly_isFull l G h a1 a2 a3 n rm cnt us f0 f1 f2 (fun r => r = (ly_full cnt n)) (by
    unfold wp_Ly_isFull ly_full
    exact ⟨fun c1 => by simp [c1], fun c1 => by simp [c1]⟩)
def wp_Ly_count (post : Int32 → Prop) (n : Nat) (rm : Int32) (cnt : Int32) (us : Int32) (f0 : Nat → Int32) (f1 : Nat → Int32) (f2 : Nat → Int32) : Prop := post cnt
set_option maxHeartbeats 4000000 in
set_option maxRecDepth 100000 in
theorem t_Ly_count (l : Launch) (G : cxT) (h : Nat) (a1 : Nat) (a2 : Nat) (a3 : Nat) (n : Nat) (rm : Int32) (cnt : Int32) (us : Int32) (f0 : Nat → Int32) (f1 : Nat → Int32) (f2 : Nat → Int32) (post : Int32 → Prop) (hw : wp_Ly_count post n rm cnt us f0 f1 f2) : Met l y_Ly_count [.code y_Ly_count b_Ly_count 1 (some .int)] ({ frames := 0, cells := 0, slots := 0, locals := 0 } : Room) (cp G [.ref h] [(h, .inr (0, [.int rm, .ref a1, .ref a2, .ref a3, .int cnt, .int us])), (a1, .inl (G.2.1 0, n, .inl f0)), (a2, .inl (G.2.1 0, n, .inl f1)), (a3, .inl (G.2.1 2, n, .inl f2))]) (va_Qi (fun r (_ : Unit) => post r) (fun _ _ => True) (fun _ => False)) 0 0 (fun _ => False) := by
  refine Met.ofW (cc := b_Ly_count) (maxL := 1) (ret := (some .int)) (by decide) rfl ?_
  intro p e s m args below meth c s₁ B hml hv
  obtain ⟨rfl, hcx, hP⟩ := hv
  have hx := B.exec
  have hb := B.bytes
  have hr := B.returns
  have hlocks := B.notSynchronized
  have hown : s.vm.findClass R_Ly = some m.cls := findClass_of_methodNamed B.named
  have hS : va_S (fun _ => False) s.heap s.heap [] := va_S.rf
  have hts := hcx.now.1 [.ref h].toArray
  have hK := hcx.now.2.1
  have hl := lv_entry ([.ref h]) (n := 1) (Nat.le_of_ble_eq_true rfl)
  rw [lg_entry_eq]
  generalize (lg_sl ([.ref h]) ++ List.replicate (1 - (lg_sl ([.ref h])).length) Slot.unset).toArray = ls at hl ⊢
  have hl : lv_has ls 1 [(0, .ref h)] := hl
  unfold wp_Ly_count at hw
  refine lv_aload_n hx hb d_Ly_count_0 rfl (lv_at hl 0 rfl) ?_
  refine va_get (D := G.1) (ci := 0) (v := .int cnt) (C := R_Ly) (T := T_Ly) (N := 6) hx hb hts in_Ly hown hK hP 0 rfl rfl 4 (by decide) (hts _ fl_Ly_26) (fun _ h9 => h9) rfl d_Ly_count_1 ?_
  exact W.iret (v := cnt) hx hb hr (fun t ht hW => ⟨⟨cnt, (), rfl, hw, trivial⟩, hS.F ht⟩) hS.2.2 d_Ly_count_4
theorem c_Ly_count (l : Launch) (G : cxT) (h : Nat) (a1 : Nat) (a2 : Nat) (a3 : Nat) (n : Nat) (rm : Int32) (cnt : Int32) (us : Int32) (f0 : Nat → Int32) (f1 : Nat → Int32) (f2 : Nat → Int32) : Met l y_Ly_count [.code y_Ly_count b_Ly_count 1 (some .int)] ({ frames := 0, cells := 0, slots := 0, locals := 0 } : Room) (cp G [.ref h] [(h, .inr (0, [.int rm, .ref a1, .ref a2, .ref a3, .int cnt, .int us])), (a1, .inl (G.2.1 0, n, .inl f0)), (a2, .inl (G.2.1 0, n, .inl f1)), (a3, .inl (G.2.1 2, n, .inl f2))]) (va_Qi (fun r (_ : Unit) => (fun r => r = cnt) r) (fun _ _ => True) (fun _ => False)) 0 0 (fun _ => False) :=
  t_Ly_count l G h a1 a2 a3 n rm cnt us f0 f1 f2 (fun r => r = cnt) (by
    exact rfl)
def wp_Ly_used (post : Int32 → Prop) (n : Nat) (rm : Int32) (cnt : Int32) (us : Int32) (f0 : Nat → Int32) (f1 : Nat → Int32) (f2 : Nat → Int32) : Prop := post us
set_option maxHeartbeats 4000000 in
set_option maxRecDepth 100000 in
theorem t_Ly_used (l : Launch) (G : cxT) (h : Nat) (a1 : Nat) (a2 : Nat) (a3 : Nat) (n : Nat) (rm : Int32) (cnt : Int32) (us : Int32) (f0 : Nat → Int32) (f1 : Nat → Int32) (f2 : Nat → Int32) (post : Int32 → Prop) (hw : wp_Ly_used post n rm cnt us f0 f1 f2) : Met l y_Ly_used [.code y_Ly_used b_Ly_used 1 (some .int)] ({ frames := 0, cells := 0, slots := 0, locals := 0 } : Room) (cp G [.ref h] [(h, .inr (0, [.int rm, .ref a1, .ref a2, .ref a3, .int cnt, .int us])), (a1, .inl (G.2.1 0, n, .inl f0)), (a2, .inl (G.2.1 0, n, .inl f1)), (a3, .inl (G.2.1 2, n, .inl f2))]) (va_Qi (fun r (_ : Unit) => post r) (fun _ _ => True) (fun _ => False)) 0 0 (fun _ => False) := by
  refine Met.ofW (cc := b_Ly_used) (maxL := 1) (ret := (some .int)) (by decide) rfl ?_
  intro p e s m args below meth c s₁ B hml hv
  obtain ⟨rfl, hcx, hP⟩ := hv
  have hx := B.exec
  have hb := B.bytes
  have hr := B.returns
  have hlocks := B.notSynchronized
  have hown : s.vm.findClass R_Ly = some m.cls := findClass_of_methodNamed B.named
  have hS : va_S (fun _ => False) s.heap s.heap [] := va_S.rf
  have hts := hcx.now.1 [.ref h].toArray
  have hK := hcx.now.2.1
  have hl := lv_entry ([.ref h]) (n := 1) (Nat.le_of_ble_eq_true rfl)
  rw [lg_entry_eq]
  generalize (lg_sl ([.ref h]) ++ List.replicate (1 - (lg_sl ([.ref h])).length) Slot.unset).toArray = ls at hl ⊢
  have hl : lv_has ls 1 [(0, .ref h)] := hl
  unfold wp_Ly_used at hw
  refine lv_aload_n hx hb d_Ly_used_0 rfl (lv_at hl 0 rfl) ?_
  refine va_get (D := G.1) (ci := 0) (v := .int us) (C := R_Ly) (T := T_Ly) (N := 6) hx hb hts in_Ly hown hK hP 0 rfl rfl 5 (by decide) (hts _ fl_Ly_29) (fun _ h9 => h9) rfl d_Ly_used_1 ?_
  exact W.iret (v := us) hx hb hr (fun t ht hW => ⟨⟨us, (), rfl, hw, trivial⟩, hS.F ht⟩) hS.2.2 d_Ly_used_4
theorem c_Ly_used (l : Launch) (G : cxT) (h : Nat) (a1 : Nat) (a2 : Nat) (a3 : Nat) (n : Nat) (rm : Int32) (cnt : Int32) (us : Int32) (f0 : Nat → Int32) (f1 : Nat → Int32) (f2 : Nat → Int32) : Met l y_Ly_used [.code y_Ly_used b_Ly_used 1 (some .int)] ({ frames := 0, cells := 0, slots := 0, locals := 0 } : Room) (cp G [.ref h] [(h, .inr (0, [.int rm, .ref a1, .ref a2, .ref a3, .int cnt, .int us])), (a1, .inl (G.2.1 0, n, .inl f0)), (a2, .inl (G.2.1 0, n, .inl f1)), (a3, .inl (G.2.1 2, n, .inl f2))]) (va_Qi (fun r (_ : Unit) => (fun r => r = us) r) (fun _ _ => True) (fun _ => False)) 0 0 (fun _ => False) :=
  t_Ly_used l G h a1 a2 a3 n rm cnt us f0 f1 f2 (fun r => r = us) (by
    exact rfl)
def wp_Ly_left (post : Int32 → Prop) (n : Nat) (rm : Int32) (cnt : Int32) (us : Int32) (f0 : Nat → Int32) (f1 : Nat → Int32) (f2 : Nat → Int32) : Prop := post (rm - us)
set_option maxHeartbeats 4000000 in
set_option maxRecDepth 100000 in
theorem t_Ly_left (l : Launch) (G : cxT) (h : Nat) (a1 : Nat) (a2 : Nat) (a3 : Nat) (n : Nat) (rm : Int32) (cnt : Int32) (us : Int32) (f0 : Nat → Int32) (f1 : Nat → Int32) (f2 : Nat → Int32) (post : Int32 → Prop) (hw : wp_Ly_left post n rm cnt us f0 f1 f2) : Met l y_Ly_left [.code y_Ly_left b_Ly_left 1 (some .int)] ({ frames := 0, cells := 0, slots := 0, locals := 0 } : Room) (cp G [.ref h] [(h, .inr (0, [.int rm, .ref a1, .ref a2, .ref a3, .int cnt, .int us])), (a1, .inl (G.2.1 0, n, .inl f0)), (a2, .inl (G.2.1 0, n, .inl f1)), (a3, .inl (G.2.1 2, n, .inl f2))]) (va_Qi (fun r (_ : Unit) => post r) (fun _ _ => True) (fun _ => False)) 0 0 (fun _ => False) := by
  refine Met.ofW (cc := b_Ly_left) (maxL := 1) (ret := (some .int)) (by decide) rfl ?_
  intro p e s m args below meth c s₁ B hml hv
  obtain ⟨rfl, hcx, hP⟩ := hv
  have hx := B.exec
  have hb := B.bytes
  have hr := B.returns
  have hlocks := B.notSynchronized
  have hown : s.vm.findClass R_Ly = some m.cls := findClass_of_methodNamed B.named
  have hS : va_S (fun _ => False) s.heap s.heap [] := va_S.rf
  have hts := hcx.now.1 [.ref h].toArray
  have hK := hcx.now.2.1
  have hl := lv_entry ([.ref h]) (n := 1) (Nat.le_of_ble_eq_true rfl)
  rw [lg_entry_eq]
  generalize (lg_sl ([.ref h]) ++ List.replicate (1 - (lg_sl ([.ref h])).length) Slot.unset).toArray = ls at hl ⊢
  have hl : lv_has ls 1 [(0, .ref h)] := hl
  unfold wp_Ly_left at hw
  refine lv_aload_n hx hb d_Ly_left_0 rfl (lv_at hl 0 rfl) ?_
  refine va_get (D := G.1) (ci := 0) (v := .int rm) (C := R_Ly) (T := T_Ly) (N := 6) hx hb hts in_Ly hown hK hP 0 rfl rfl 0 (by decide) (hts _ fl_Ly_9) (fun _ h9 => h9) rfl d_Ly_left_1 ?_
  refine lv_aload_n hx hb d_Ly_left_4 rfl (lv_at hl 0 rfl) ?_
  refine va_get (D := G.1) (ci := 0) (v := .int us) (C := R_Ly) (T := T_Ly) (N := 6) hx hb hts in_Ly hown hK hP 0 rfl rfl 5 (by decide) (hts _ fl_Ly_29) (fun _ h9 => h9) rfl d_Ly_left_5 ?_
  refine lv_isub hx hb d_Ly_left_8 ?_
  exact W.iret (v := rm - us) hx hb hr (fun t ht hW => ⟨⟨rm - us, (), rfl, hw, trivial⟩, hS.F ht⟩) hS.2.2 d_Ly_left_9
theorem c_Ly_left (l : Launch) (G : cxT) (h : Nat) (a1 : Nat) (a2 : Nat) (a3 : Nat) (n : Nat) (rm : Int32) (cnt : Int32) (us : Int32) (f0 : Nat → Int32) (f1 : Nat → Int32) (f2 : Nat → Int32) : Met l y_Ly_left [.code y_Ly_left b_Ly_left 1 (some .int)] ({ frames := 0, cells := 0, slots := 0, locals := 0 } : Room) (cp G [.ref h] [(h, .inr (0, [.int rm, .ref a1, .ref a2, .ref a3, .int cnt, .int us])), (a1, .inl (G.2.1 0, n, .inl f0)), (a2, .inl (G.2.1 0, n, .inl f1)), (a3, .inl (G.2.1 2, n, .inl f2))]) (va_Qi (fun r (_ : Unit) => (fun r => r = (rm - us)) r) (fun _ _ => True) (fun _ => False)) 0 0 (fun _ => False) :=
  t_Ly_left l G h a1 a2 a3 n rm cnt us f0 f1 f2 (fun r => r = (rm - us)) (by
    exact rfl)
def wp_Ly_startOf (post : Int32 → Prop) (n : Nat) (rm : Int32) (cnt : Int32) (us : Int32) (f0 : Nat → Int32) (f1 : Nat → Int32) (f2 : Nat → Int32) (k : Int32) : Prop := ((ly_has cnt k = 0 → (post 0)) ∧ (¬ ly_has cnt k = 0 → ((vp_in k n) ∧ (post (f0 k.toNatClampNeg)))))
set_option maxHeartbeats 4000000 in
set_option maxRecDepth 100000 in
theorem t_Ly_startOf (l : Launch) (G : cxT) (h : Nat) (a1 : Nat) (a2 : Nat) (a3 : Nat) (n : Nat) (rm : Int32) (cnt : Int32) (us : Int32) (f0 : Nat → Int32) (f1 : Nat → Int32) (f2 : Nat → Int32) (k : Int32) (post : Int32 → Prop) (hw : wp_Ly_startOf post n rm cnt us f0 f1 f2 k) : Met l y_Ly_startOf [.code y_Ly_startOf b_Ly_startOf 2 (some .int)] ({ frames := 1, cells := 0, slots := 0, locals := 40 } : Room) (cp G [.ref h, .int k] [(h, .inr (0, [.int rm, .ref a1, .ref a2, .ref a3, .int cnt, .int us])), (a1, .inl (G.2.1 0, n, .inl f0)), (a2, .inl (G.2.1 0, n, .inl f1)), (a3, .inl (G.2.1 2, n, .inl f2))]) (va_Qi (fun r (_ : Unit) => post r) (fun _ _ => True) (fun _ => False)) 0 0 (fun _ => False) := by
  refine Met.ofW (cc := b_Ly_startOf) (maxL := 2) (ret := (some .int)) (by decide) rfl ?_
  intro p e s m args below meth c s₁ B hml hv
  obtain ⟨rfl, hcx, hP⟩ := hv
  have hx := B.exec
  have hb := B.bytes
  have hr := B.returns
  have hlocks := B.notSynchronized
  have hown : s.vm.findClass R_Ly = some m.cls := findClass_of_methodNamed B.named
  have hS : va_S (fun _ => False) s.heap s.heap [] := va_S.rf
  have hts := hcx.now.1 [.ref h, .int k].toArray
  have hK := hcx.now.2.1
  have hl := lv_entry ([.ref h, .int k]) (n := 2) (Nat.le_of_ble_eq_true rfl)
  rw [lg_entry_eq]
  generalize (lg_sl ([.ref h, .int k]) ++ List.replicate (2 - (lg_sl ([.ref h, .int k])).length) Slot.unset).toArray = ls at hl ⊢
  have hl : lv_has ls 2 [(0, .ref h), (1, .int k)] := hl
  unfold wp_Ly_startOf at hw
  refine lv_aload_n hx hb d_Ly_startOf_0 rfl (lv_at hl 0 rfl) ?_
  refine lv_iload_n hx hb d_Ly_startOf_1 rfl (lv_at hl 1 rfl) ?_
  have hPc := hP.sub (ws' := [(h, .inr (0, [.int rm, .ref a1, .ref a2, .ref a3, .int cnt, .int us])), (a1, .inl (G.2.1 0, n, .inl f0)), (a2, .inl (G.2.1 0, n, .inl f1)), (a3, .inl (G.2.1 2, n, .inl f2))]) [0, 1, 2, 3] rfl
  refine pu_i (va_runV (As := [.int k]) (rest := []) ⟨hx, hb, hml, hown, hts⟩ (c_Ly_has l G h a1 a2 a3 n rm cnt us f0 f1 f2 k) (cwV 1 hts (gi_V ml_Ly_32 im_Ly_has se_Ly_has ini_Ly co_Ly_has) rfl rfl rfl (by decide +kernel) ⟨Nat.le_of_ble_eq_true rfl, Nat.le_of_ble_eq_true rfl⟩) ⟨cp_blind, va_recv hK hPc (ci := 0) (q0 := 0) rfl rfl, cp_pre hcx hS hPc⟩ rfl rfl hl.1 rfl (lv_room (Nat.le_of_ble_eq_true rfl)) d_Ly_startOf_2 ⟨Nat.le_of_ble_eq_true rfl, Nat.le_of_ble_eq_true rfl⟩) hS hP (fun H locs hP hS => ?_)
  refine lv_if_eq (tgt := 17) hx hb d_Ly_startOf_5 (by decide) (fun c_1 => ?_) (fun c_1 => ?_)
  · replace hw := hw.1 c_1
    refine lv_iconst (v := 0) hx hb d_Ly_startOf_17 (by decide) ?_
    exact W.iret (v := 0) hx hb hr (fun t ht hW => ⟨⟨0, (), rfl, hw, trivial⟩, hS.F ht⟩) hS.2.2 d_Ly_startOf_18
  · replace hw := hw.2 c_1
    refine lv_aload_n hx hb d_Ly_startOf_8 rfl (lv_at hl 0 rfl) ?_
    refine va_get (D := G.1) (ci := 0) (v := .ref a1) (C := R_Ly) (T := T_Ly) (N := 6) hx hb hts in_Ly hown hK hP 0 rfl rfl 1 (by decide) (hts _ fl_Ly_15) (fun _ h9 => h9) rfl d_Ly_startOf_9 ?_
    refine lv_iload_n hx hb d_Ly_startOf_12 rfl (lv_at hl 1 rfl) ?_
    obtain ⟨h_2, hw⟩ := hw
    refine va_iald hx hb hK hP 1 0 rfl rfl h_2 d_Ly_startOf_13 ?_
    refine lv_goto (tgt := 18) hx hb d_Ly_startOf_14 (by decide) ?_
    exact W.iret (v := f0 k.toNatClampNeg) hx hb hr (fun t ht hW => ⟨⟨f0 k.toNatClampNeg, (), rfl, hw, trivial⟩, hS.F ht⟩) hS.2.2 d_Ly_startOf_18
theorem c_Ly_startOf (l : Launch) (G : cxT) (h : Nat) (a1 : Nat) (a2 : Nat) (a3 : Nat) (n : Nat) (rm : Int32) (cnt : Int32) (us : Int32) (f0 : Nat → Int32) (f1 : Nat → Int32) (f2 : Nat → Int32) (k : Int32) (h0 : cnt.toInt ≤ n) : Met l y_Ly_startOf [.code y_Ly_startOf b_Ly_startOf 2 (some .int)] ({ frames := 1, cells := 0, slots := 0, locals := 40 } : Room) (cp G [.ref h, .int k] [(h, .inr (0, [.int rm, .ref a1, .ref a2, .ref a3, .int cnt, .int us])), (a1, .inl (G.2.1 0, n, .inl f0)), (a2, .inl (G.2.1 0, n, .inl f1)), (a3, .inl (G.2.1 2, n, .inl f2))]) (va_Qi (fun r (_ : Unit) => (fun r => r = (ly_st cnt k f0)) r) (fun _ _ => True) (fun _ => False)) 0 0 (fun _ => False) :=
  t_Ly_startOf l G h a1 a2 a3 n rm cnt us f0 f1 f2 k (fun r => r = (ly_st cnt k f0)) (by
    unfold wp_Ly_startOf ly_st
    exact ⟨fun c1 => by simp [c1], fun c1 => ⟨ly_has_in c1 h0, by simp [c1]⟩⟩)
def wp_Ly_lengthOf (post : Int32 → Prop) (n : Nat) (rm : Int32) (cnt : Int32) (us : Int32) (f0 : Nat → Int32) (f1 : Nat → Int32) (f2 : Nat → Int32) (k : Int32) : Prop := ((ly_has cnt k = 0 → (post (-1))) ∧ (¬ ly_has cnt k = 0 → ((vp_in k n) ∧ (post (f1 k.toNatClampNeg)))))
set_option maxHeartbeats 4000000 in
set_option maxRecDepth 100000 in
theorem t_Ly_lengthOf (l : Launch) (G : cxT) (h : Nat) (a1 : Nat) (a2 : Nat) (a3 : Nat) (n : Nat) (rm : Int32) (cnt : Int32) (us : Int32) (f0 : Nat → Int32) (f1 : Nat → Int32) (f2 : Nat → Int32) (k : Int32) (post : Int32 → Prop) (hw : wp_Ly_lengthOf post n rm cnt us f0 f1 f2 k) : Met l y_Ly_lengthOf [.code y_Ly_lengthOf b_Ly_lengthOf 2 (some .int)] ({ frames := 1, cells := 0, slots := 0, locals := 40 } : Room) (cp G [.ref h, .int k] [(h, .inr (0, [.int rm, .ref a1, .ref a2, .ref a3, .int cnt, .int us])), (a1, .inl (G.2.1 0, n, .inl f0)), (a2, .inl (G.2.1 0, n, .inl f1)), (a3, .inl (G.2.1 2, n, .inl f2))]) (va_Qi (fun r (_ : Unit) => post r) (fun _ _ => True) (fun _ => False)) 0 0 (fun _ => False) := by
  refine Met.ofW (cc := b_Ly_lengthOf) (maxL := 2) (ret := (some .int)) (by decide) rfl ?_
  intro p e s m args below meth c s₁ B hml hv
  obtain ⟨rfl, hcx, hP⟩ := hv
  have hx := B.exec
  have hb := B.bytes
  have hr := B.returns
  have hlocks := B.notSynchronized
  have hown : s.vm.findClass R_Ly = some m.cls := findClass_of_methodNamed B.named
  have hS : va_S (fun _ => False) s.heap s.heap [] := va_S.rf
  have hts := hcx.now.1 [.ref h, .int k].toArray
  have hK := hcx.now.2.1
  have hl := lv_entry ([.ref h, .int k]) (n := 2) (Nat.le_of_ble_eq_true rfl)
  rw [lg_entry_eq]
  generalize (lg_sl ([.ref h, .int k]) ++ List.replicate (2 - (lg_sl ([.ref h, .int k])).length) Slot.unset).toArray = ls at hl ⊢
  have hl : lv_has ls 2 [(0, .ref h), (1, .int k)] := hl
  unfold wp_Ly_lengthOf at hw
  refine lv_aload_n hx hb d_Ly_lengthOf_0 rfl (lv_at hl 0 rfl) ?_
  refine lv_iload_n hx hb d_Ly_lengthOf_1 rfl (lv_at hl 1 rfl) ?_
  have hPc := hP.sub (ws' := [(h, .inr (0, [.int rm, .ref a1, .ref a2, .ref a3, .int cnt, .int us])), (a1, .inl (G.2.1 0, n, .inl f0)), (a2, .inl (G.2.1 0, n, .inl f1)), (a3, .inl (G.2.1 2, n, .inl f2))]) [0, 1, 2, 3] rfl
  refine pu_i (va_runV (As := [.int k]) (rest := []) ⟨hx, hb, hml, hown, hts⟩ (c_Ly_has l G h a1 a2 a3 n rm cnt us f0 f1 f2 k) (cwV 1 hts (gi_V ml_Ly_32 im_Ly_has se_Ly_has ini_Ly co_Ly_has) rfl rfl rfl (by decide +kernel) ⟨Nat.le_of_ble_eq_true rfl, Nat.le_of_ble_eq_true rfl⟩) ⟨cp_blind, va_recv hK hPc (ci := 0) (q0 := 0) rfl rfl, cp_pre hcx hS hPc⟩ rfl rfl hl.1 rfl (lv_room (Nat.le_of_ble_eq_true rfl)) d_Ly_lengthOf_2 ⟨Nat.le_of_ble_eq_true rfl, Nat.le_of_ble_eq_true rfl⟩) hS hP (fun H locs hP hS => ?_)
  refine lv_if_eq (tgt := 17) hx hb d_Ly_lengthOf_5 (by decide) (fun c_1 => ?_) (fun c_1 => ?_)
  · replace hw := hw.1 c_1
    refine lv_iconst (v := (-1)) hx hb d_Ly_lengthOf_17 (by decide) ?_
    exact W.iret (v := (-1)) hx hb hr (fun t ht hW => ⟨⟨(-1), (), rfl, hw, trivial⟩, hS.F ht⟩) hS.2.2 d_Ly_lengthOf_18
  · replace hw := hw.2 c_1
    refine lv_aload_n hx hb d_Ly_lengthOf_8 rfl (lv_at hl 0 rfl) ?_
    refine va_get (D := G.1) (ci := 0) (v := .ref a2) (C := R_Ly) (T := T_Ly) (N := 6) hx hb hts in_Ly hown hK hP 0 rfl rfl 2 (by decide) (hts _ fl_Ly_19) (fun _ h9 => h9) rfl d_Ly_lengthOf_9 ?_
    refine lv_iload_n hx hb d_Ly_lengthOf_12 rfl (lv_at hl 1 rfl) ?_
    obtain ⟨h_2, hw⟩ := hw
    refine va_iald hx hb hK hP 2 0 rfl rfl h_2 d_Ly_lengthOf_13 ?_
    refine lv_goto (tgt := 18) hx hb d_Ly_lengthOf_14 (by decide) ?_
    exact W.iret (v := f1 k.toNatClampNeg) hx hb hr (fun t ht hW => ⟨⟨f1 k.toNatClampNeg, (), rfl, hw, trivial⟩, hS.F ht⟩) hS.2.2 d_Ly_lengthOf_18
theorem c_Ly_lengthOf (l : Launch) (G : cxT) (h : Nat) (a1 : Nat) (a2 : Nat) (a3 : Nat) (n : Nat) (rm : Int32) (cnt : Int32) (us : Int32) (f0 : Nat → Int32) (f1 : Nat → Int32) (f2 : Nat → Int32) (k : Int32) (h0 : cnt.toInt ≤ n) : Met l y_Ly_lengthOf [.code y_Ly_lengthOf b_Ly_lengthOf 2 (some .int)] ({ frames := 1, cells := 0, slots := 0, locals := 40 } : Room) (cp G [.ref h, .int k] [(h, .inr (0, [.int rm, .ref a1, .ref a2, .ref a3, .int cnt, .int us])), (a1, .inl (G.2.1 0, n, .inl f0)), (a2, .inl (G.2.1 0, n, .inl f1)), (a3, .inl (G.2.1 2, n, .inl f2))]) (va_Qi (fun r (_ : Unit) => (fun r => r = (ly_ln cnt k f1)) r) (fun _ _ => True) (fun _ => False)) 0 0 (fun _ => False) :=
  t_Ly_lengthOf l G h a1 a2 a3 n rm cnt us f0 f1 f2 k (fun r => r = (ly_ln cnt k f1)) (by
    unfold wp_Ly_lengthOf ly_ln
    exact ⟨fun c1 => by simp [c1], fun c1 => ⟨ly_has_in c1 h0, by simp [c1]⟩⟩)
def wp_Ly_endOf (post : Int32 → Prop) (n : Nat) (rm : Int32) (cnt : Int32) (us : Int32) (f0 : Nat → Int32) (f1 : Nat → Int32) (f2 : Nat → Int32) (k : Int32) : Prop := ((ly_has cnt k = 0 → (post us)) ∧ (¬ ly_has cnt k = 0 → ((vp_in k n) ∧ ((vp_in k n) ∧ (post ((f0 k.toNatClampNeg) + (f1 k.toNatClampNeg)))))))
set_option maxHeartbeats 4000000 in
set_option maxRecDepth 100000 in
theorem t_Ly_endOf (l : Launch) (G : cxT) (h : Nat) (a1 : Nat) (a2 : Nat) (a3 : Nat) (n : Nat) (rm : Int32) (cnt : Int32) (us : Int32) (f0 : Nat → Int32) (f1 : Nat → Int32) (f2 : Nat → Int32) (k : Int32) (post : Int32 → Prop) (hw : wp_Ly_endOf post n rm cnt us f0 f1 f2 k) : Met l y_Ly_endOf [.code y_Ly_endOf b_Ly_endOf 2 (some .int)] ({ frames := 1, cells := 0, slots := 0, locals := 40 } : Room) (cp G [.ref h, .int k] [(h, .inr (0, [.int rm, .ref a1, .ref a2, .ref a3, .int cnt, .int us])), (a1, .inl (G.2.1 0, n, .inl f0)), (a2, .inl (G.2.1 0, n, .inl f1)), (a3, .inl (G.2.1 2, n, .inl f2))]) (va_Qi (fun r (_ : Unit) => post r) (fun _ _ => True) (fun _ => False)) 0 0 (fun _ => False) := by
  refine Met.ofW (cc := b_Ly_endOf) (maxL := 2) (ret := (some .int)) (by decide) rfl ?_
  intro p e s m args below meth c s₁ B hml hv
  obtain ⟨rfl, hcx, hP⟩ := hv
  have hx := B.exec
  have hb := B.bytes
  have hr := B.returns
  have hlocks := B.notSynchronized
  have hown : s.vm.findClass R_Ly = some m.cls := findClass_of_methodNamed B.named
  have hS : va_S (fun _ => False) s.heap s.heap [] := va_S.rf
  have hts := hcx.now.1 [.ref h, .int k].toArray
  have hK := hcx.now.2.1
  have hl := lv_entry ([.ref h, .int k]) (n := 2) (Nat.le_of_ble_eq_true rfl)
  rw [lg_entry_eq]
  generalize (lg_sl ([.ref h, .int k]) ++ List.replicate (2 - (lg_sl ([.ref h, .int k])).length) Slot.unset).toArray = ls at hl ⊢
  have hl : lv_has ls 2 [(0, .ref h), (1, .int k)] := hl
  unfold wp_Ly_endOf at hw
  refine lv_aload_n hx hb d_Ly_endOf_0 rfl (lv_at hl 0 rfl) ?_
  refine lv_iload_n hx hb d_Ly_endOf_1 rfl (lv_at hl 1 rfl) ?_
  have hPc := hP.sub (ws' := [(h, .inr (0, [.int rm, .ref a1, .ref a2, .ref a3, .int cnt, .int us])), (a1, .inl (G.2.1 0, n, .inl f0)), (a2, .inl (G.2.1 0, n, .inl f1)), (a3, .inl (G.2.1 2, n, .inl f2))]) [0, 1, 2, 3] rfl
  refine pu_i (va_runV (As := [.int k]) (rest := []) ⟨hx, hb, hml, hown, hts⟩ (c_Ly_has l G h a1 a2 a3 n rm cnt us f0 f1 f2 k) (cwV 1 hts (gi_V ml_Ly_32 im_Ly_has se_Ly_has ini_Ly co_Ly_has) rfl rfl rfl (by decide +kernel) ⟨Nat.le_of_ble_eq_true rfl, Nat.le_of_ble_eq_true rfl⟩) ⟨cp_blind, va_recv hK hPc (ci := 0) (q0 := 0) rfl rfl, cp_pre hcx hS hPc⟩ rfl rfl hl.1 rfl (lv_room (Nat.le_of_ble_eq_true rfl)) d_Ly_endOf_2 ⟨Nat.le_of_ble_eq_true rfl, Nat.le_of_ble_eq_true rfl⟩) hS hP (fun H locs hP hS => ?_)
  refine lv_if_eq (tgt := 24) hx hb d_Ly_endOf_5 (by decide) (fun c_1 => ?_) (fun c_1 => ?_)
  · replace hw := hw.1 c_1
    refine lv_aload_n hx hb d_Ly_endOf_24 rfl (lv_at hl 0 rfl) ?_
    refine va_get (D := G.1) (ci := 0) (v := .int us) (C := R_Ly) (T := T_Ly) (N := 6) hx hb hts in_Ly hown hK hP 0 rfl rfl 5 (by decide) (hts _ fl_Ly_29) (fun _ h9 => h9) rfl d_Ly_endOf_25 ?_
    exact W.iret (v := us) hx hb hr (fun t ht hW => ⟨⟨us, (), rfl, hw, trivial⟩, hS.F ht⟩) hS.2.2 d_Ly_endOf_28
  · replace hw := hw.2 c_1
    refine lv_aload_n hx hb d_Ly_endOf_8 rfl (lv_at hl 0 rfl) ?_
    refine va_get (D := G.1) (ci := 0) (v := .ref a1) (C := R_Ly) (T := T_Ly) (N := 6) hx hb hts in_Ly hown hK hP 0 rfl rfl 1 (by decide) (hts _ fl_Ly_15) (fun _ h9 => h9) rfl d_Ly_endOf_9 ?_
    refine lv_iload_n hx hb d_Ly_endOf_12 rfl (lv_at hl 1 rfl) ?_
    obtain ⟨h_2, hw⟩ := hw
    refine va_iald hx hb hK hP 1 0 rfl rfl h_2 d_Ly_endOf_13 ?_
    refine lv_aload_n hx hb d_Ly_endOf_14 rfl (lv_at hl 0 rfl) ?_
    refine va_get (D := G.1) (ci := 0) (v := .ref a2) (C := R_Ly) (T := T_Ly) (N := 6) hx hb hts in_Ly hown hK hP 0 rfl rfl 2 (by decide) (hts _ fl_Ly_19) (fun _ h9 => h9) rfl d_Ly_endOf_15 ?_
    refine lv_iload_n hx hb d_Ly_endOf_18 rfl (lv_at hl 1 rfl) ?_
    obtain ⟨h_3, hw⟩ := hw
    refine va_iald hx hb hK hP 2 0 rfl rfl h_3 d_Ly_endOf_19 ?_
    refine lv_iadd hx hb d_Ly_endOf_20 ?_
    refine lv_goto (tgt := 28) hx hb d_Ly_endOf_21 (by decide) ?_
    exact W.iret (v := (f0 k.toNatClampNeg) + (f1 k.toNatClampNeg)) hx hb hr (fun t ht hW => ⟨⟨(f0 k.toNatClampNeg) + (f1 k.toNatClampNeg), (), rfl, hw, trivial⟩, hS.F ht⟩) hS.2.2 d_Ly_endOf_28
theorem c_Ly_endOf (l : Launch) (G : cxT) (h : Nat) (a1 : Nat) (a2 : Nat) (a3 : Nat) (n : Nat) (rm : Int32) (cnt : Int32) (us : Int32) (f0 : Nat → Int32) (f1 : Nat → Int32) (f2 : Nat → Int32) (k : Int32) (h0 : cnt.toInt ≤ n) : Met l y_Ly_endOf [.code y_Ly_endOf b_Ly_endOf 2 (some .int)] ({ frames := 1, cells := 0, slots := 0, locals := 40 } : Room) (cp G [.ref h, .int k] [(h, .inr (0, [.int rm, .ref a1, .ref a2, .ref a3, .int cnt, .int us])), (a1, .inl (G.2.1 0, n, .inl f0)), (a2, .inl (G.2.1 0, n, .inl f1)), (a3, .inl (G.2.1 2, n, .inl f2))]) (va_Qi (fun r (_ : Unit) => (fun r => r = (ly_en cnt us k f0 f1)) r) (fun _ _ => True) (fun _ => False)) 0 0 (fun _ => False) :=
  t_Ly_endOf l G h a1 a2 a3 n rm cnt us f0 f1 f2 k (fun r => r = (ly_en cnt us k f0 f1)) (by
    unfold wp_Ly_endOf ly_en
    exact ⟨fun c1 => by simp [c1], fun c1 => ⟨ly_has_in c1 h0, ly_has_in c1 h0, by simp [c1]⟩⟩)
end
section

def ly_shift (f0 : Nat → Int32) (k c : Nat) (d : Int32) : Nat → Int32 := fun j => if k < j ∧ j < c then f0 j + d else f0 j
theorem ly_can_in {cnt : Int32} {n : Nat} (h : ¬ cnt ≤ 0) (hc : cnt.toInt ≤ n) : vp_in (cnt - 1) n := by
  rw [Int32.le_iff_toInt_le] at h
  have e : (0 : Int32).toInt = 0 := rfl
  obtain ⟨j, hj, rfl⟩ := nI_of (x := cnt) (by rw [Int32.lt_iff_toInt_lt]; omega)
  rw [nI_toInt hj] at h hc
  obtain ⟨i, rfl⟩ : ∃ i, j = i + 1 := ⟨j - 1, by omega⟩
  rw [nI_pred, vp_in_iff, nI_toInt (by omega)]
  omega

def wp_Ly_canTake (post : Int32 → Prop) (n : Nat) (rm : Int32) (cnt : Int32) (us : Int32) (f0 : Nat → Int32) (f1 : Nat → Int32) (f2 : Nat → Int32) (km : Int32) (mo : Int32) : Prop := ((mo = 0 → (((¬ ly_full cnt n = 0 → (post 0)) ∧ (ly_full cnt n = 0 → (((rm - us < km → (post 0)) ∧ (¬ rm - us < km → (post 1)))))))) ∧ (¬ mo = 0 → (((cnt ≤ 0 → (post 0)) ∧ (¬ cnt ≤ 0 → ((vp_in (cnt - 1) n) ∧ (((¬ f2 (cnt - 1).toNatClampNeg = 0 → (post 0)) ∧ (f2 (cnt - 1).toNatClampNeg = 0 → (((rm - us < km → (post 0)) ∧ (¬ rm - us < km → (post 1)))))))))))))
set_option maxHeartbeats 4000000 in
set_option maxRecDepth 100000 in
theorem t_Ly_canTake (l : Launch) (G : cxT) (h : Nat) (a1 : Nat) (a2 : Nat) (a3 : Nat) (n : Nat) (rm : Int32) (cnt : Int32) (us : Int32) (f0 : Nat → Int32) (f1 : Nat → Int32) (f2 : Nat → Int32) (km : Int32) (mo : Int32) (post : Int32 → Prop) (hw : wp_Ly_canTake post n rm cnt us f0 f1 f2 km mo) : Met l y_Ly_canTake [.code y_Ly_canTake b_Ly_canTake 4 (some .boolean)] ({ frames := 1, cells := 0, slots := 0, locals := 40 } : Room) (cp G [.ref h, .int km, .int mo] [(h, .inr (0, [.int rm, .ref a1, .ref a2, .ref a3, .int cnt, .int us])), (a1, .inl (G.2.1 0, n, .inl f0)), (a2, .inl (G.2.1 0, n, .inl f1)), (a3, .inl (G.2.1 2, n, .inl f2))]) (va_Qi (fun r (_ : Unit) => post r) (fun _ _ => True) (fun _ => False)) 0 0 (fun _ => False) := by
  refine Met.ofW (cc := b_Ly_canTake) (maxL := 4) (ret := (some .boolean)) (by decide) rfl ?_
  intro p e s m args below meth c s₁ B hml hv
  obtain ⟨rfl, hcx, hP⟩ := hv
  have hx := B.exec
  have hb := B.bytes
  have hr := B.returns
  have hlocks := B.notSynchronized
  have hown : s.vm.findClass R_Ly = some m.cls := findClass_of_methodNamed B.named
  have hS : va_S (fun _ => False) s.heap s.heap [] := va_S.rf
  have hts := hcx.now.1 [.ref h, .int km, .int mo].toArray
  have hK := hcx.now.2.1
  have hl := lv_entry ([.ref h, .int km, .int mo]) (n := 4) (Nat.le_of_ble_eq_true rfl)
  rw [lg_entry_eq]
  generalize (lg_sl ([.ref h, .int km, .int mo]) ++ List.replicate (4 - (lg_sl ([.ref h, .int km, .int mo])).length) Slot.unset).toArray = ls at hl ⊢
  have hl : lv_has ls 4 [(0, .ref h), (1, .int km), (2, .int mo)] := hl
  unfold wp_Ly_canTake at hw
  refine lv_iload_n hx hb d_Ly_canTake_0 rfl (lv_at hl 2 rfl) ?_
  refine lv_if_eq (tgt := 33) hx hb d_Ly_canTake_1 (by decide) (fun c_1 => ?_) (fun c_1 => ?_)
  · replace hw := hw.1 c_1
    refine lv_aload_n hx hb d_Ly_canTake_33 rfl (lv_at hl 0 rfl) ?_
    have hPc := hP.sub (ws' := [(h, .inr (0, [.int rm, .ref a1, .ref a2, .ref a3, .int cnt, .int us])), (a1, .inl (G.2.1 0, n, .inl f0)), (a2, .inl (G.2.1 0, n, .inl f1)), (a3, .inl (G.2.1 2, n, .inl f2))]) [0, 1, 2, 3] rfl
    refine pu_i (va_runV (As := []) (rest := []) ⟨hx, hb, hml, hown, hts⟩ (c_Ly_isFull l G h a1 a2 a3 n rm cnt us f0 f1 f2) (cwV 0 hts (gi_V ml_Ly_36 im_Ly_isFull se_Ly_isFull ini_Ly co_Ly_isFull) rfl rfl rfl (by decide +kernel) ⟨Nat.le_of_ble_eq_true rfl, Nat.le_of_ble_eq_true rfl⟩) ⟨cp_blind, va_recv hK hPc (ci := 0) (q0 := 0) rfl rfl, cp_pre hcx hS hPc⟩ rfl rfl hl.1 rfl (lv_room (Nat.le_of_ble_eq_true rfl)) d_Ly_canTake_34 ⟨Nat.le_of_ble_eq_true rfl, Nat.le_of_ble_eq_true rfl⟩) hS hP (fun H locs hP hS => ?_)
    refine lv_if_ne (tgt := 44) hx hb d_Ly_canTake_37 (by decide) (fun c_2 => ?_) (fun c_2 => ?_)
    · replace hw := hw.1 c_2
      refine lv_iconst (v := 0) hx hb d_Ly_canTake_44 (by decide) ?_
      refine lv_istore_n (lv' := [(3, .int 0), (0, .ref h), (1, .int km), (2, .int mo)]) hx hb d_Ly_canTake_45 rfl hl (by decide) rfl (fun ls hl => ?_)
      refine lv_iload_n hx hb d_Ly_canTake_46 rfl (lv_at hl 0 rfl) ?_
      refine lv_if_eq (tgt := 62) hx hb d_Ly_canTake_47 (by decide) (fun _ => ?_) (fun c_3 => absurd c_3 (by decide))
      refine lv_iconst (v := 0) hx hb d_Ly_canTake_62 (by decide) ?_
      exact W.zret (v := 0) (ty := .boolean) hx hb hr rfl (fun t ht hW => ⟨⟨0, (), rfl, hw, trivial⟩, hS.F ht⟩) hS.2.2 d_Ly_canTake_63
    · replace hw := hw.2 c_2
      refine lv_iconst (v := 1) hx hb d_Ly_canTake_40 (by decide) ?_
      refine lv_goto (tgt := 45) hx hb d_Ly_canTake_41 (by decide) ?_
      refine lv_istore_n (lv' := [(3, .int 1), (0, .ref h), (1, .int km), (2, .int mo)]) hx hb d_Ly_canTake_45 rfl hl (by decide) rfl (fun ls hl => ?_)
      refine lv_iload_n hx hb d_Ly_canTake_46 rfl (lv_at hl 0 rfl) ?_
      refine lv_if_eq (tgt := 62) hx hb d_Ly_canTake_47 (by decide) (fun c_4 => absurd c_4 (by decide)) (fun _ => ?_)
      refine lv_iload_n hx hb d_Ly_canTake_50 rfl (lv_at hl 2 rfl) ?_
      refine lv_aload_n hx hb d_Ly_canTake_51 rfl (lv_at hl 1 rfl) ?_
      have hPc := hP.sub (ws' := [(h, .inr (0, [.int rm, .ref a1, .ref a2, .ref a3, .int cnt, .int us])), (a1, .inl (G.2.1 0, n, .inl f0)), (a2, .inl (G.2.1 0, n, .inl f1)), (a3, .inl (G.2.1 2, n, .inl f2))]) [0, 1, 2, 3] rfl
      refine pu_i (va_runV (As := []) (rest := [.int km]) ⟨hx, hb, hml, hown, hts⟩ (c_Ly_left l G h a1 a2 a3 n rm cnt us f0 f1 f2) (cwV 0 hts (gi_V ml_Ly_40 im_Ly_left se_Ly_left ini_Ly co_Ly_left) rfl rfl rfl (by decide +kernel) ⟨Nat.le_of_ble_eq_true rfl, Nat.le_of_ble_eq_true rfl⟩) ⟨cp_blind, va_recv hK hPc (ci := 0) (q0 := 0) rfl rfl, cp_pre hcx hS hPc⟩ rfl rfl hl.1 rfl (lv_room (Nat.le_of_ble_eq_true rfl)) d_Ly_canTake_52 ⟨Nat.le_of_ble_eq_true rfl, Nat.le_of_ble_eq_true rfl⟩) hS hP (fun H locs hP hS => ?_)
      refine lv_icmp_gt (tgt := 62) hx hb d_Ly_canTake_55 (by decide) (fun c_5 => ?_) (fun c_5 => ?_)
      · replace hw := hw.1 c_5
        refine lv_iconst (v := 0) hx hb d_Ly_canTake_62 (by decide) ?_
        exact W.zret (v := 0) (ty := .boolean) hx hb hr rfl (fun t ht hW => ⟨⟨0, (), rfl, hw, trivial⟩, hS.F ht⟩) hS.2.2 d_Ly_canTake_63
      · replace hw := hw.2 c_5
        refine lv_iconst (v := 1) hx hb d_Ly_canTake_58 (by decide) ?_
        refine lv_goto (tgt := 63) hx hb d_Ly_canTake_59 (by decide) ?_
        exact W.zret (v := 1) (ty := .boolean) hx hb hr rfl (fun t ht hW => ⟨⟨1, (), rfl, hw, trivial⟩, hS.F ht⟩) hS.2.2 d_Ly_canTake_63
  · replace hw := hw.2 c_1
    refine lv_aload_n hx hb d_Ly_canTake_4 rfl (lv_at hl 0 rfl) ?_
    refine va_get (D := G.1) (ci := 0) (v := .int cnt) (C := R_Ly) (T := T_Ly) (N := 6) hx hb hts in_Ly hown hK hP 0 rfl rfl 4 (by decide) (hts _ fl_Ly_26) (fun _ h9 => h9) rfl d_Ly_canTake_5 ?_
    refine lv_if_le (tgt := 29) hx hb d_Ly_canTake_8 (by decide) (fun c_6 => ?_) (fun c_6 => ?_)
    · replace hw := hw.1 c_6
      refine lv_iconst (v := 0) hx hb d_Ly_canTake_29 (by decide) ?_
      refine lv_goto (tgt := 45) hx hb d_Ly_canTake_30 (by decide) ?_
      refine lv_istore_n (lv' := [(3, .int 0), (0, .ref h), (1, .int km), (2, .int mo)]) hx hb d_Ly_canTake_45 rfl hl (by decide) rfl (fun ls hl => ?_)
      refine lv_iload_n hx hb d_Ly_canTake_46 rfl (lv_at hl 0 rfl) ?_
      refine lv_if_eq (tgt := 62) hx hb d_Ly_canTake_47 (by decide) (fun _ => ?_) (fun c_7 => absurd c_7 (by decide))
      refine lv_iconst (v := 0) hx hb d_Ly_canTake_62 (by decide) ?_
      exact W.zret (v := 0) (ty := .boolean) hx hb hr rfl (fun t ht hW => ⟨⟨0, (), rfl, hw, trivial⟩, hS.F ht⟩) hS.2.2 d_Ly_canTake_63
    · replace hw := hw.2 c_6
      refine lv_aload_n hx hb d_Ly_canTake_11 rfl (lv_at hl 0 rfl) ?_
      refine va_get (D := G.1) (ci := 0) (v := .ref a3) (C := R_Ly) (T := T_Ly) (N := 6) hx hb hts in_Ly hown hK hP 0 rfl rfl 3 (by decide) (hts _ fl_Ly_22) (fun _ h9 => h9) rfl d_Ly_canTake_12 ?_
      refine lv_aload_n hx hb d_Ly_canTake_15 rfl (lv_at hl 0 rfl) ?_
      refine va_get (D := G.1) (ci := 0) (v := .int cnt) (C := R_Ly) (T := T_Ly) (N := 6) hx hb hts in_Ly hown hK hP 0 rfl rfl 4 (by decide) (hts _ fl_Ly_26) (fun _ h9 => h9) rfl d_Ly_canTake_16 ?_
      refine lv_iconst (v := 1) hx hb d_Ly_canTake_19 (by decide) ?_
      refine lv_isub hx hb d_Ly_canTake_20 ?_
      obtain ⟨h_8, hw⟩ := hw
      refine va_zald hx hb hK hP 3 2 rfl rfl h_8 d_Ly_canTake_21 ?_
      refine lv_if_ne (tgt := 29) hx hb d_Ly_canTake_22 (by decide) (fun c_9 => ?_) (fun c_9 => ?_)
      · replace hw := hw.1 c_9
        refine lv_iconst (v := 0) hx hb d_Ly_canTake_29 (by decide) ?_
        refine lv_goto (tgt := 45) hx hb d_Ly_canTake_30 (by decide) ?_
        refine lv_istore_n (lv' := [(3, .int 0), (0, .ref h), (1, .int km), (2, .int mo)]) hx hb d_Ly_canTake_45 rfl hl (by decide) rfl (fun ls hl => ?_)
        refine lv_iload_n hx hb d_Ly_canTake_46 rfl (lv_at hl 0 rfl) ?_
        refine lv_if_eq (tgt := 62) hx hb d_Ly_canTake_47 (by decide) (fun _ => ?_) (fun c_10 => absurd c_10 (by decide))
        refine lv_iconst (v := 0) hx hb d_Ly_canTake_62 (by decide) ?_
        exact W.zret (v := 0) (ty := .boolean) hx hb hr rfl (fun t ht hW => ⟨⟨0, (), rfl, hw, trivial⟩, hS.F ht⟩) hS.2.2 d_Ly_canTake_63
      · replace hw := hw.2 c_9
        refine lv_iconst (v := 1) hx hb d_Ly_canTake_25 (by decide) ?_
        refine lv_goto (tgt := 45) hx hb d_Ly_canTake_26 (by decide) ?_
        refine lv_istore_n (lv' := [(3, .int 1), (0, .ref h), (1, .int km), (2, .int mo)]) hx hb d_Ly_canTake_45 rfl hl (by decide) rfl (fun ls hl => ?_)
        refine lv_iload_n hx hb d_Ly_canTake_46 rfl (lv_at hl 0 rfl) ?_
        refine lv_if_eq (tgt := 62) hx hb d_Ly_canTake_47 (by decide) (fun c_11 => absurd c_11 (by decide)) (fun _ => ?_)
        refine lv_iload_n hx hb d_Ly_canTake_50 rfl (lv_at hl 2 rfl) ?_
        refine lv_aload_n hx hb d_Ly_canTake_51 rfl (lv_at hl 1 rfl) ?_
        have hPc := hP.sub (ws' := [(h, .inr (0, [.int rm, .ref a1, .ref a2, .ref a3, .int cnt, .int us])), (a1, .inl (G.2.1 0, n, .inl f0)), (a2, .inl (G.2.1 0, n, .inl f1)), (a3, .inl (G.2.1 2, n, .inl f2))]) [0, 1, 2, 3] rfl
        refine pu_i (va_runV (As := []) (rest := [.int km]) ⟨hx, hb, hml, hown, hts⟩ (c_Ly_left l G h a1 a2 a3 n rm cnt us f0 f1 f2) (cwV 0 hts (gi_V ml_Ly_40 im_Ly_left se_Ly_left ini_Ly co_Ly_left) rfl rfl rfl (by decide +kernel) ⟨Nat.le_of_ble_eq_true rfl, Nat.le_of_ble_eq_true rfl⟩) ⟨cp_blind, va_recv hK hPc (ci := 0) (q0 := 0) rfl rfl, cp_pre hcx hS hPc⟩ rfl rfl hl.1 rfl (lv_room (Nat.le_of_ble_eq_true rfl)) d_Ly_canTake_52 ⟨Nat.le_of_ble_eq_true rfl, Nat.le_of_ble_eq_true rfl⟩) hS hP (fun H locs hP hS => ?_)
        refine lv_icmp_gt (tgt := 62) hx hb d_Ly_canTake_55 (by decide) (fun c_12 => ?_) (fun c_12 => ?_)
        · replace hw := hw.1 c_12
          refine lv_iconst (v := 0) hx hb d_Ly_canTake_62 (by decide) ?_
          exact W.zret (v := 0) (ty := .boolean) hx hb hr rfl (fun t ht hW => ⟨⟨0, (), rfl, hw, trivial⟩, hS.F ht⟩) hS.2.2 d_Ly_canTake_63
        · replace hw := hw.2 c_12
          refine lv_iconst (v := 1) hx hb d_Ly_canTake_58 (by decide) ?_
          refine lv_goto (tgt := 63) hx hb d_Ly_canTake_59 (by decide) ?_
          exact W.zret (v := 1) (ty := .boolean) hx hb hr rfl (fun t ht hW => ⟨⟨1, (), rfl, hw, trivial⟩, hS.F ht⟩) hS.2.2 d_Ly_canTake_63
theorem c_Ly_canTake (l : Launch) (G : cxT) (h : Nat) (a1 : Nat) (a2 : Nat) (a3 : Nat) (n : Nat) (rm : Int32) (cnt : Int32) (us : Int32) (f0 : Nat → Int32) (f1 : Nat → Int32) (f2 : Nat → Int32) (km : Int32) (mo : Int32) (h0 : cnt.toInt ≤ n) : Met l y_Ly_canTake [.code y_Ly_canTake b_Ly_canTake 4 (some .boolean)] ({ frames := 1, cells := 0, slots := 0, locals := 40 } : Room) (cp G [.ref h, .int km, .int mo] [(h, .inr (0, [.int rm, .ref a1, .ref a2, .ref a3, .int cnt, .int us])), (a1, .inl (G.2.1 0, n, .inl f0)), (a2, .inl (G.2.1 0, n, .inl f1)), (a3, .inl (G.2.1 2, n, .inl f2))]) (va_Qi (fun r (_ : Unit) => (fun r => r = (ly_can cnt us rm km mo n f2)) r) (fun _ _ => True) (fun _ => False)) 0 0 (fun _ => False) :=
  t_Ly_canTake l G h a1 a2 a3 n rm cnt us f0 f1 f2 km mo (fun r => r = (ly_can cnt us rm km mo n f2)) (by
    unfold wp_Ly_canTake ly_can
    refine ⟨fun c1 => ⟨fun c2 => ?_, fun c2 => ⟨fun c3 => by simp [c1, c2, c3], fun c3 => by simp [c1, c2, c3]⟩⟩, fun c1 => ⟨fun c2 => by simp [c1, c2], fun c2 => ⟨ly_can_in c2 h0, fun c3 => by simp [c1, c2, c3], fun c3 => ⟨fun c4 => by simp [c1, c2, c3, c4], fun c4 => by simp [c1, c2, c3, c4]⟩⟩⟩⟩
    simp [c1, c2])
def wp_Ly_append (post : Int32 → ((Nat → Int32) × (Nat → Int32) × Int32 × Int32) → Prop) (n : Nat) (rm : Int32) (cnt : Int32) (us : Int32) (f0 : Nat → Int32) (f1 : Nat → Int32) (f2 : Nat → Int32) (len : Int32) : Prop := ((ly_full cnt n = 0 → ((vp_in cnt n) ∧ ∀ a_3 : Nat → Int32, a_3 = upd f0 cnt.toNatClampNeg us → ((vp_in cnt n) ∧ ∀ a_5 : Nat → Int32, a_5 = upd f1 cnt.toNatClampNeg len → (∀ x_6 : Int32, x_6 = us + len → (∀ x_7 : Int32, x_7 = cnt + 1 → (post (x_7 - 1) (a_3, a_5, x_7, x_6))))))) ∧ (¬ ly_full cnt n = 0 → (post (-1) (f0, f1, cnt, us))))
set_option maxHeartbeats 4000000 in
set_option maxRecDepth 100000 in
theorem t_Ly_append (l : Launch) (G : cxT) (h : Nat) (a1 : Nat) (a2 : Nat) (a3 : Nat) (n : Nat) (rm : Int32) (cnt : Int32) (us : Int32) (f0 : Nat → Int32) (f1 : Nat → Int32) (f2 : Nat → Int32) (len : Int32) (sz : Nat) (post : Int32 → ((Nat → Int32) × (Nat → Int32) × Int32 × Int32) → Prop) (hw : wp_Ly_append post n rm cnt us f0 f1 f2 len) : Met l y_Ly_append [.code y_Ly_append b_Ly_append 2 (some .int)] ({ frames := 1, cells := 0, slots := 0, locals := 40 } : Room) (cm G [.ref h, .int len] [(h, .inr (0, [.int rm, .ref a1, .ref a2, .ref a3, .int cnt, .int us])), (a1, .inl (G.2.1 0, n, .inl f0)), (a2, .inl (G.2.1 0, n, .inl f1)), (a3, .inl (G.2.1 2, n, .inl f2))] sz) (va_Qi post (fun u t => va_P G.1 vwC [(h, .inr (0, [.int rm, .ref a1, .ref a2, .ref a3, .int u.2.2.1, .int u.2.2.2])), (a1, .inl (G.2.1 0, n, .inl u.1)), (a2, .inl (G.2.1 0, n, .inl u.2.1)), (a3, .inl (G.2.1 2, n, .inl f2))] t.heap) (va_A [(h, .inr (0, [.int rm, .ref a1, .ref a2, .ref a3, .int cnt, .int us])), (a1, .inl (G.2.1 0, n, .inl f0)), (a2, .inl (G.2.1 0, n, .inl f1)), (a3, .inl (G.2.1 2, n, .inl f2))] sz)) 0 0 (va_A [(h, .inr (0, [.int rm, .ref a1, .ref a2, .ref a3, .int cnt, .int us])), (a1, .inl (G.2.1 0, n, .inl f0)), (a2, .inl (G.2.1 0, n, .inl f1)), (a3, .inl (G.2.1 2, n, .inl f2))] sz) := by
  refine Met.ofW (cc := b_Ly_append) (maxL := 2) (ret := (some .int)) (by decide) rfl ?_
  intro p e s m args below meth c s₁ B hml hv
  obtain ⟨rfl, hsz, hcx, hP, hD0⟩ := hv
  have hx := B.exec
  have hb := B.bytes
  have hr := B.returns
  have hlocks := B.notSynchronized
  have hown : s.vm.findClass R_Ly = some m.cls := findClass_of_methodNamed B.named
  subst hsz
  have hD := hD0.self (sz := s.heap.size)
  generalize hAe : va_A [(h, .inr (0, [.int rm, .ref a1, .ref a2, .ref a3, .int cnt, .int us])), (a1, .inl (G.2.1 0, n, .inl f0)), (a2, .inl (G.2.1 0, n, .inl f1)), (a3, .inl (G.2.1 2, n, .inl f2))] s.heap.size = A at hD hcx ⊢
  have hA : ∀ q : Nat, s.heap.size ≤ q → A q := fun q h => by rw [← hAe]; exact Or.inr h
  have hS : va_S A s.heap s.heap [] := va_S.rf
  have hts := hcx.now.1 [.ref h, .int len].toArray
  have hK := hcx.now.2.1
  have hl := lv_entry ([.ref h, .int len]) (n := 2) (Nat.le_of_ble_eq_true rfl)
  rw [lg_entry_eq]
  generalize (lg_sl ([.ref h, .int len]) ++ List.replicate (2 - (lg_sl ([.ref h, .int len])).length) Slot.unset).toArray = ls at hl ⊢
  have hl : lv_has ls 2 [(0, .ref h), (1, .int len)] := hl
  unfold wp_Ly_append at hw
  refine lv_aload_n hx hb d_Ly_append_0 rfl (lv_at hl 0 rfl) ?_
  have hPc := hP.sub (ws' := [(h, .inr (0, [.int rm, .ref a1, .ref a2, .ref a3, .int cnt, .int us])), (a1, .inl (G.2.1 0, n, .inl f0)), (a2, .inl (G.2.1 0, n, .inl f1)), (a3, .inl (G.2.1 2, n, .inl f2))]) [0, 1, 2, 3] rfl
  refine pu_i (va_runV (As := []) (rest := []) ⟨hx, hb, hml, hown, hts⟩ (c_Ly_isFull l G h a1 a2 a3 n rm cnt us f0 f1 f2) (cwV 0 hts (gi_V ml_Ly_36 im_Ly_isFull se_Ly_isFull ini_Ly co_Ly_isFull) rfl rfl rfl (by decide +kernel) ⟨Nat.le_of_ble_eq_true rfl, Nat.le_of_ble_eq_true rfl⟩) ⟨cp_blind, va_recv hK hPc (ci := 0) (q0 := 0) rfl rfl, cp_pre hcx hS hPc⟩ rfl rfl hl.1 rfl (lv_room (Nat.le_of_ble_eq_true rfl)) d_Ly_append_1 ⟨Nat.le_of_ble_eq_true rfl, Nat.le_of_ble_eq_true rfl⟩) hS hP (fun H locs hP hS => ?_)
  refine lv_if_eq (tgt := 9) hx hb d_Ly_append_4 (by decide) (fun c_1 => ?_) (fun c_1 => ?_)
  · replace hw := hw.1 c_1
    refine lv_aload_n hx hb d_Ly_append_9 rfl (lv_at hl 0 rfl) ?_
    refine va_get (D := G.1) (ci := 0) (v := .ref a1) (C := R_Ly) (T := T_Ly) (N := 6) hx hb hts in_Ly hown hK hP 0 rfl rfl 1 (by decide) (hts _ fl_Ly_15) (fun _ h9 => h9) rfl d_Ly_append_10 ?_
    refine lv_aload_n hx hb d_Ly_append_13 rfl (lv_at hl 0 rfl) ?_
    refine va_get (D := G.1) (ci := 0) (v := .int cnt) (C := R_Ly) (T := T_Ly) (N := 6) hx hb hts in_Ly hown hK hP 0 rfl rfl 4 (by decide) (hts _ fl_Ly_26) (fun _ h9 => h9) rfl d_Ly_append_14 ?_
    refine lv_aload_n hx hb d_Ly_append_17 rfl (lv_at hl 0 rfl) ?_
    refine va_get (D := G.1) (ci := 0) (v := .int us) (C := R_Ly) (T := T_Ly) (N := 6) hx hb hts in_Ly hown hK hP 0 rfl rfl 5 (by decide) (hts _ fl_Ly_29) (fun _ h9 => h9) rfl d_Ly_append_18 ?_
    obtain ⟨h_2, hw⟩ := hw
    obtain ⟨a_3, ea_3⟩ : ∃ z, z = upd f0 cnt.toNatClampNeg us := ⟨_, rfl⟩
    replace hw := hw a_3 ea_3
    refine va_iast hx hb hK hP hD hS 1 0 rfl rfl h_2 d_Ly_append_21 (fun H locs hP hD hS => ?_)
    rw [← ea_3] at hP hD
    have hP : va_P G.1 vwC [(h, .inr (0, [.int rm, .ref a1, .ref a2, .ref a3, .int cnt, .int us])), (a1, .inl (G.2.1 0, n, .inl a_3)), (a2, .inl (G.2.1 0, n, .inl f1)), (a3, .inl (G.2.1 2, n, .inl f2))] H := hP
    have hD : va_D A [(h, .inr (0, [.int rm, .ref a1, .ref a2, .ref a3, .int cnt, .int us])), (a1, .inl (G.2.1 0, n, .inl a_3)), (a2, .inl (G.2.1 0, n, .inl f1)), (a3, .inl (G.2.1 2, n, .inl f2))] := hD
    refine lv_aload_n hx hb d_Ly_append_22 rfl (lv_at hl 0 rfl) ?_
    refine va_get (D := G.1) (ci := 0) (v := .ref a2) (C := R_Ly) (T := T_Ly) (N := 6) hx hb hts in_Ly hown hK hP 0 rfl rfl 2 (by decide) (hts _ fl_Ly_19) (fun _ h9 => h9) rfl d_Ly_append_23 ?_
    refine lv_aload_n hx hb d_Ly_append_26 rfl (lv_at hl 0 rfl) ?_
    refine va_get (D := G.1) (ci := 0) (v := .int cnt) (C := R_Ly) (T := T_Ly) (N := 6) hx hb hts in_Ly hown hK hP 0 rfl rfl 4 (by decide) (hts _ fl_Ly_26) (fun _ h9 => h9) rfl d_Ly_append_27 ?_
    refine lv_iload_n hx hb d_Ly_append_30 rfl (lv_at hl 1 rfl) ?_
    obtain ⟨h_4, hw⟩ := hw
    obtain ⟨a_5, ea_5⟩ : ∃ z, z = upd f1 cnt.toNatClampNeg len := ⟨_, rfl⟩
    replace hw := hw a_5 ea_5
    refine va_iast hx hb hK hP hD hS 2 0 rfl rfl h_4 d_Ly_append_31 (fun H locs hP hD hS => ?_)
    rw [← ea_5] at hP hD
    have hP : va_P G.1 vwC [(h, .inr (0, [.int rm, .ref a1, .ref a2, .ref a3, .int cnt, .int us])), (a1, .inl (G.2.1 0, n, .inl a_3)), (a2, .inl (G.2.1 0, n, .inl a_5)), (a3, .inl (G.2.1 2, n, .inl f2))] H := hP
    have hD : va_D A [(h, .inr (0, [.int rm, .ref a1, .ref a2, .ref a3, .int cnt, .int us])), (a1, .inl (G.2.1 0, n, .inl a_3)), (a2, .inl (G.2.1 0, n, .inl a_5)), (a3, .inl (G.2.1 2, n, .inl f2))] := hD
    refine lv_aload_n hx hb d_Ly_append_32 rfl (lv_at hl 0 rfl) ?_
    refine lv_dup hx hb d_Ly_append_33 rfl ?_
    refine va_get (D := G.1) (ci := 0) (v := .int us) (C := R_Ly) (T := T_Ly) (N := 6) hx hb hts in_Ly hown hK hP 0 rfl rfl 5 (by decide) (hts _ fl_Ly_29) (fun _ h9 => h9) rfl d_Ly_append_34 ?_
    refine lv_iload_n hx hb d_Ly_append_37 rfl (lv_at hl 1 rfl) ?_
    refine lv_iadd hx hb d_Ly_append_38 ?_
    refine lv_topi (fun x_6 ex_6 => ?_)
    replace hw := hw x_6 ex_6
    refine va_put (D := G.1) (ci := 0) (v := .int x_6) (ty := (.int)) (C := R_Ly) (T := T_Ly) (N := 6) hx hb hts in_Ly ty_Ly tk_Ly nm_Ly hown hK hP hD hS 0 rfl rfl 5 (by decide) (hts _ fl_Ly_29) (fun _ h9 => h9) rfl (by decide +kernel) rfl rfl (Nat.le_of_ble_eq_true rfl) d_Ly_append_39 (fun H locs hP hD hS => ?_)
    have hP : va_P G.1 vwC [(h, .inr (0, [.int rm, .ref a1, .ref a2, .ref a3, .int cnt, .int x_6])), (a1, .inl (G.2.1 0, n, .inl a_3)), (a2, .inl (G.2.1 0, n, .inl a_5)), (a3, .inl (G.2.1 2, n, .inl f2))] H := hP
    have hD : va_D A [(h, .inr (0, [.int rm, .ref a1, .ref a2, .ref a3, .int cnt, .int x_6])), (a1, .inl (G.2.1 0, n, .inl a_3)), (a2, .inl (G.2.1 0, n, .inl a_5)), (a3, .inl (G.2.1 2, n, .inl f2))] := hD
    refine lv_aload_n hx hb d_Ly_append_42 rfl (lv_at hl 0 rfl) ?_
    refine lv_dup hx hb d_Ly_append_43 rfl ?_
    refine va_get (D := G.1) (ci := 0) (v := .int cnt) (C := R_Ly) (T := T_Ly) (N := 6) hx hb hts in_Ly hown hK hP 0 rfl rfl 4 (by decide) (hts _ fl_Ly_26) (fun _ h9 => h9) rfl d_Ly_append_44 ?_
    refine lv_iconst (v := 1) hx hb d_Ly_append_47 (by decide) ?_
    refine lv_iadd hx hb d_Ly_append_48 ?_
    refine lv_topi (fun x_7 ex_7 => ?_)
    replace hw := hw x_7 ex_7
    refine va_put (D := G.1) (ci := 0) (v := .int x_7) (ty := (.int)) (C := R_Ly) (T := T_Ly) (N := 6) hx hb hts in_Ly ty_Ly tk_Ly nm_Ly hown hK hP hD hS 0 rfl rfl 4 (by decide) (hts _ fl_Ly_26) (fun _ h9 => h9) rfl (by decide +kernel) rfl rfl (Nat.le_of_ble_eq_true rfl) d_Ly_append_49 (fun H locs hP hD hS => ?_)
    have hP : va_P G.1 vwC [(h, .inr (0, [.int rm, .ref a1, .ref a2, .ref a3, .int x_7, .int x_6])), (a1, .inl (G.2.1 0, n, .inl a_3)), (a2, .inl (G.2.1 0, n, .inl a_5)), (a3, .inl (G.2.1 2, n, .inl f2))] H := hP
    have hD : va_D A [(h, .inr (0, [.int rm, .ref a1, .ref a2, .ref a3, .int x_7, .int x_6])), (a1, .inl (G.2.1 0, n, .inl a_3)), (a2, .inl (G.2.1 0, n, .inl a_5)), (a3, .inl (G.2.1 2, n, .inl f2))] := hD
    refine lv_aload_n hx hb d_Ly_append_52 rfl (lv_at hl 0 rfl) ?_
    refine va_get (D := G.1) (ci := 0) (v := .int x_7) (C := R_Ly) (T := T_Ly) (N := 6) hx hb hts in_Ly hown hK hP 0 rfl rfl 4 (by decide) (hts _ fl_Ly_26) (fun _ h9 => h9) rfl d_Ly_append_53 ?_
    refine lv_iconst (v := 1) hx hb d_Ly_append_56 (by decide) ?_
    refine lv_isub hx hb d_Ly_append_57 ?_
    exact W.iret (v := x_7 - 1) hx hb hr (fun t ht hW => ⟨⟨x_7 - 1, (a_3, a_5, x_7, x_6), rfl, hw, by have h9 := hP; rw [← ht] at h9; exact h9⟩, hS.F ht⟩) hS.2.2 d_Ly_append_58
  · replace hw := hw.2 c_1
    refine lv_iconst (v := (-1)) hx hb d_Ly_append_7 (by decide) ?_
    exact W.iret (v := (-1)) hx hb hr (fun t ht hW => ⟨⟨(-1), (f0, f1, cnt, us), rfl, hw, by have h9 := hP; rw [← ht] at h9; exact h9⟩, hS.F ht⟩) hS.2.2 d_Ly_append_8
theorem c_Ly_append (l : Launch) (G : cxT) (h : Nat) (a1 : Nat) (a2 : Nat) (a3 : Nat) (n : Nat) (rm : Int32) (cnt : Int32) (us : Int32) (f0 : Nat → Int32) (f1 : Nat → Int32) (f2 : Nat → Int32) (len : Int32) (sz : Nat) (h0 : vp_in cnt n) (h1 : ly_full cnt n = 0) : Met l y_Ly_append [.code y_Ly_append b_Ly_append 2 (some .int)] ({ frames := 1, cells := 0, slots := 0, locals := 40 } : Room) (cm G [.ref h, .int len] [(h, .inr (0, [.int rm, .ref a1, .ref a2, .ref a3, .int cnt, .int us])), (a1, .inl (G.2.1 0, n, .inl f0)), (a2, .inl (G.2.1 0, n, .inl f1)), (a3, .inl (G.2.1 2, n, .inl f2))] sz) (va_Qi (fun r u => r = cnt ∧ u = ((upd f0 cnt.toNatClampNeg us), (upd f1 cnt.toNatClampNeg len), (cnt + 1), (us + len))) (fun u t => va_P G.1 vwC [(h, .inr (0, [.int rm, .ref a1, .ref a2, .ref a3, .int u.2.2.1, .int u.2.2.2])), (a1, .inl (G.2.1 0, n, .inl u.1)), (a2, .inl (G.2.1 0, n, .inl u.2.1)), (a3, .inl (G.2.1 2, n, .inl f2))] t.heap) (va_A [(h, .inr (0, [.int rm, .ref a1, .ref a2, .ref a3, .int cnt, .int us])), (a1, .inl (G.2.1 0, n, .inl f0)), (a2, .inl (G.2.1 0, n, .inl f1)), (a3, .inl (G.2.1 2, n, .inl f2))] sz)) 0 0 (va_A [(h, .inr (0, [.int rm, .ref a1, .ref a2, .ref a3, .int cnt, .int us])), (a1, .inl (G.2.1 0, n, .inl f0)), (a2, .inl (G.2.1 0, n, .inl f1)), (a3, .inl (G.2.1 2, n, .inl f2))] sz) :=
  t_Ly_append l G h a1 a2 a3 n rm cnt us f0 f1 f2 len sz (fun r u => r = cnt ∧ u = ((upd f0 cnt.toNatClampNeg us), (upd f1 cnt.toNatClampNeg len), (cnt + 1), (us + len))) (by
    unfold wp_Ly_append
    exact ⟨fun _ => ⟨h0, fun a ea => ⟨h0, fun b eb x ex z ez => ⟨by rw [ez]; simp, by rw [ea, eb, ex, ez]⟩⟩⟩, fun c => absurd h1 c⟩)
def wp_Ly_widen_23 (post : ((Nat → Int32) × (Nat → Int32) × Int32) → Prop) (n : Nat) (k : Int32) (d : Int32) (rm : Int32) (cnt : Int32) (us : Int32) (f1 : Nat → Int32) (f2 : Nat → Int32) : Nat → Int32 → (Nat → Int32) → Prop
  | 0 => fun _ _ => False
  | n9 + 1 => fun x3 f0 => ((cnt ≤ x3 → (∀ x_102 : Int32, x_102 = us + d → (post (f0, f1, x_102)))) ∧ (¬ cnt ≤ x3 → ((vp_in x3 n) ∧ ((vp_in x3 n) ∧ ∀ a_105 : Nat → Int32, a_105 = upd f0 x3.toNatClampNeg ((f0 x3.toNatClampNeg) + d) → (∀ x_106 : Int32, x_106 = x3 + 1 → (wp_Ly_widen_23 post n k d rm cnt us f1 f2 n9 x_106 a_105))))))
set_option maxHeartbeats 4000000 in
set_option maxRecDepth 100000 in
theorem l_Ly_widen_23 {p : Program} {l : Launch} {e : Env} {s : State} {m : MethodId} {args : Array Value} {below : List Frame} {meth : Method} {c : Code} (G : cxT) (h : Nat) (a1 : Nat) (a2 : Nat) (a3 : Nat) (A : Nat → Prop) (post : ((Nat → Int32) × (Nat → Int32) × Int32) → Prop) (n : Nat) (k : Int32) (d : Int32) (rm : Int32) (cnt : Int32) (us : Int32) (f1 : Nat → Int32) (f2 : Nat → Int32) (hx : p.tables.exec = Jvm.exec) (hb : c.code = b_Ly_widen) (hr : meth.sig.returnType = none) (hml : c.maxLocals = 4) (hown : s.vm.findClass R_Ly = some m.cls) (hlocks : meth.locks = false) (hcx : cx G A s) (hA : ∀ q : Nat, s.heap.size ≤ q → A q) :
    ∀ (n9 : Nat) (x3 : Int32) (f0 : Nat → Int32), wp_Ly_widen_23 post n k d rm cnt us f1 f2 n9 x3 f0 → ∀ (H : Heap) (locs : List Loc), va_P G.1 vwC [(h, .inr (0, [.int rm, .ref a1, .ref a2, .ref a3, .int cnt, .int us])), (a1, .inl (G.2.1 0, n, .inl f0)), (a2, .inl (G.2.1 0, n, .inl f1)), (a3, .inl (G.2.1 2, n, .inl f2))] H → va_D A [(h, .inr (0, [.int rm, .ref a1, .ref a2, .ref a3, .int cnt, .int us])), (a1, .inl (G.2.1 0, n, .inl f0)), (a2, .inl (G.2.1 0, n, .inl f1)), (a3, .inl (G.2.1 2, n, .inl f2))] → va_S A s.heap H locs → ∀ (ls : Array Slot), lv_has ls 4 [(0, .ref h), (1, .int k), (2, .int d), (3, .int x3)] → W p l e (headSpec [.code y_Ly_widen b_Ly_widen 4 none] ({ frames := 1, cells := 0, slots := 0, locals := 40 } : Room)).room s m args below meth c H locs 0 0 (MQ below (va_Qv post (fun u t => va_P G.1 vwC [(h, .inr (0, [.int rm, .ref a1, .ref a2, .ref a3, .int cnt, .int u.2.2])), (a1, .inl (G.2.1 0, n, .inl u.1)), (a2, .inl (G.2.1 0, n, .inl u.2.1)), (a3, .inl (G.2.1 2, n, .inl f2))] t.heap) A) args s 0 0 A) (F0 m 23 ls []) := by
  have hts := hcx.now.1 args
  have hK := hcx.now.2.1
  intro n9
  induction n9 with
  | zero =>
    intro x3 f0 hw
    exact hw.elim
  | succ n9 ih =>
    intro x3 f0 hw H locs hP hD hS ls hl
    unfold wp_Ly_widen_23 at hw
    refine lv_iload_n hx hb d_Ly_widen_23 rfl (lv_at hl 3 rfl) ?_
    refine lv_aload_n hx hb d_Ly_widen_24 rfl (lv_at hl 0 rfl) ?_
    refine va_get (D := G.1) (ci := 0) (v := .int cnt) (C := R_Ly) (T := T_Ly) (N := 6) hx hb hts in_Ly hown hK hP 0 rfl rfl 4 (by decide) (hts _ fl_Ly_26) (fun _ h9 => h9) rfl d_Ly_widen_25 ?_
    refine lv_icmp_ge (tgt := 47) hx hb d_Ly_widen_28 (by decide) (fun c_101 => ?_) (fun c_101 => ?_)
    · replace hw := hw.1 c_101
      refine lv_aload_n hx hb d_Ly_widen_47 rfl (lv_at hl 0 rfl) ?_
      refine lv_dup hx hb d_Ly_widen_48 rfl ?_
      refine va_get (D := G.1) (ci := 0) (v := .int us) (C := R_Ly) (T := T_Ly) (N := 6) hx hb hts in_Ly hown hK hP 0 rfl rfl 5 (by decide) (hts _ fl_Ly_29) (fun _ h9 => h9) rfl d_Ly_widen_49 ?_
      refine lv_iload_n hx hb d_Ly_widen_52 rfl (lv_at hl 2 rfl) ?_
      refine lv_iadd hx hb d_Ly_widen_53 ?_
      refine lv_topi (fun x_102 ex_102 => ?_)
      replace hw := hw x_102 ex_102
      refine va_put (D := G.1) (ci := 0) (v := .int x_102) (ty := (.int)) (C := R_Ly) (T := T_Ly) (N := 6) hx hb hts in_Ly ty_Ly tk_Ly nm_Ly hown hK hP hD hS 0 rfl rfl 5 (by decide) (hts _ fl_Ly_29) (fun _ h9 => h9) rfl (by decide +kernel) rfl rfl (Nat.le_of_ble_eq_true rfl) d_Ly_widen_54 (fun H locs hP hD hS => ?_)
      have hP : va_P G.1 vwC [(h, .inr (0, [.int rm, .ref a1, .ref a2, .ref a3, .int cnt, .int x_102])), (a1, .inl (G.2.1 0, n, .inl f0)), (a2, .inl (G.2.1 0, n, .inl f1)), (a3, .inl (G.2.1 2, n, .inl f2))] H := hP
      have hD : va_D A [(h, .inr (0, [.int rm, .ref a1, .ref a2, .ref a3, .int cnt, .int x_102])), (a1, .inl (G.2.1 0, n, .inl f0)), (a2, .inl (G.2.1 0, n, .inl f1)), (a3, .inl (G.2.1 2, n, .inl f2))] := hD
      exact W.vret hx hb hr (fun t ht hW => ⟨⟨(f0, f1, x_102), rfl, hw, by have h9 := hP; rw [← ht] at h9; exact h9⟩, hS.F ht⟩) hS.2.2 d_Ly_widen_57
    · replace hw := hw.2 c_101
      refine lv_aload_n hx hb d_Ly_widen_31 rfl (lv_at hl 0 rfl) ?_
      refine va_get (D := G.1) (ci := 0) (v := .ref a1) (C := R_Ly) (T := T_Ly) (N := 6) hx hb hts in_Ly hown hK hP 0 rfl rfl 1 (by decide) (hts _ fl_Ly_15) (fun _ h9 => h9) rfl d_Ly_widen_32 ?_
      refine lv_iload_n hx hb d_Ly_widen_35 rfl (lv_at hl 3 rfl) ?_
      refine lv_dup2_11 hx hb d_Ly_widen_36 rfl rfl ?_
      obtain ⟨h_103, hw⟩ := hw
      refine va_iald hx hb hK hP 1 0 rfl rfl h_103 d_Ly_widen_37 ?_
      refine lv_iload_n hx hb d_Ly_widen_38 rfl (lv_at hl 2 rfl) ?_
      refine lv_iadd hx hb d_Ly_widen_39 ?_
      obtain ⟨h_104, hw⟩ := hw
      obtain ⟨a_105, ea_105⟩ : ∃ z, z = upd f0 x3.toNatClampNeg ((f0 x3.toNatClampNeg) + d) := ⟨_, rfl⟩
      replace hw := hw a_105 ea_105
      refine va_iast hx hb hK hP hD hS 1 0 rfl rfl h_104 d_Ly_widen_40 (fun H locs hP hD hS => ?_)
      rw [← ea_105] at hP hD
      have hP : va_P G.1 vwC [(h, .inr (0, [.int rm, .ref a1, .ref a2, .ref a3, .int cnt, .int us])), (a1, .inl (G.2.1 0, n, .inl a_105)), (a2, .inl (G.2.1 0, n, .inl f1)), (a3, .inl (G.2.1 2, n, .inl f2))] H := hP
      have hD : va_D A [(h, .inr (0, [.int rm, .ref a1, .ref a2, .ref a3, .int cnt, .int us])), (a1, .inl (G.2.1 0, n, .inl a_105)), (a2, .inl (G.2.1 0, n, .inl f1)), (a3, .inl (G.2.1 2, n, .inl f2))] := hD
      obtain ⟨x_106, ex_106⟩ : ∃ y : Int32, y = x3 + 1 := ⟨_, rfl⟩
      replace hw := hw x_106 ex_106
      refine lv_iinc (v := x_106) (lv' := [(3, .int x_106), (0, .ref h), (1, .int k), (2, .int d)]) hx hb d_Ly_widen_41 hl (k := 3) rfl (by rw [ex_106]; rfl) (by decide) rfl (fun ls hl => ?_)
      refine lv_goto (tgt := 23) hx hb d_Ly_widen_44 (by decide) ?_
      exact ih x_106 a_105 hw _ _ hP hD hS ls (lv_sub hl [1, 2, 3, 0] rfl)
def wp_Ly_widen (post : ((Nat → Int32) × (Nat → Int32) × Int32) → Prop) (n : Nat) (rm : Int32) (cnt : Int32) (us : Int32) (f0 : Nat → Int32) (f1 : Nat → Int32) (f2 : Nat → Int32) (k : Int32) (d : Int32) : Prop := ((¬ ly_has cnt k = 0 → ((vp_in k n) ∧ ((vp_in k n) ∧ ∀ a_4 : Nat → Int32, a_4 = upd f1 k.toNatClampNeg ((f1 k.toNatClampNeg) + d) → (∀ x_5 : Int32, x_5 = k + 1 → (∃ n9 : Nat, wp_Ly_widen_23 post n k d rm cnt us a_4 f2 n9 x_5 f0))))) ∧ (ly_has cnt k = 0 → (post (f0, f1, us))))
set_option maxHeartbeats 4000000 in
set_option maxRecDepth 100000 in
theorem t_Ly_widen (l : Launch) (G : cxT) (h : Nat) (a1 : Nat) (a2 : Nat) (a3 : Nat) (n : Nat) (rm : Int32) (cnt : Int32) (us : Int32) (f0 : Nat → Int32) (f1 : Nat → Int32) (f2 : Nat → Int32) (k : Int32) (d : Int32) (sz : Nat) (post : ((Nat → Int32) × (Nat → Int32) × Int32) → Prop) (hw : wp_Ly_widen post n rm cnt us f0 f1 f2 k d) : Met l y_Ly_widen [.code y_Ly_widen b_Ly_widen 4 none] ({ frames := 1, cells := 0, slots := 0, locals := 40 } : Room) (cm G [.ref h, .int k, .int d] [(h, .inr (0, [.int rm, .ref a1, .ref a2, .ref a3, .int cnt, .int us])), (a1, .inl (G.2.1 0, n, .inl f0)), (a2, .inl (G.2.1 0, n, .inl f1)), (a3, .inl (G.2.1 2, n, .inl f2))] sz) (va_Qv post (fun u t => va_P G.1 vwC [(h, .inr (0, [.int rm, .ref a1, .ref a2, .ref a3, .int cnt, .int u.2.2])), (a1, .inl (G.2.1 0, n, .inl u.1)), (a2, .inl (G.2.1 0, n, .inl u.2.1)), (a3, .inl (G.2.1 2, n, .inl f2))] t.heap) (va_A [(h, .inr (0, [.int rm, .ref a1, .ref a2, .ref a3, .int cnt, .int us])), (a1, .inl (G.2.1 0, n, .inl f0)), (a2, .inl (G.2.1 0, n, .inl f1)), (a3, .inl (G.2.1 2, n, .inl f2))] sz)) 0 0 (va_A [(h, .inr (0, [.int rm, .ref a1, .ref a2, .ref a3, .int cnt, .int us])), (a1, .inl (G.2.1 0, n, .inl f0)), (a2, .inl (G.2.1 0, n, .inl f1)), (a3, .inl (G.2.1 2, n, .inl f2))] sz) := by
  refine Met.ofW (cc := b_Ly_widen) (maxL := 4) (ret := none) (by decide) rfl ?_
  intro p e s m args below meth c s₁ B hml hv
  obtain ⟨rfl, hsz, hcx, hP, hD0⟩ := hv
  have hx := B.exec
  have hb := B.bytes
  have hr := B.returns
  have hlocks := B.notSynchronized
  have hown : s.vm.findClass R_Ly = some m.cls := findClass_of_methodNamed B.named
  subst hsz
  have hD := hD0.self (sz := s.heap.size)
  generalize hAe : va_A [(h, .inr (0, [.int rm, .ref a1, .ref a2, .ref a3, .int cnt, .int us])), (a1, .inl (G.2.1 0, n, .inl f0)), (a2, .inl (G.2.1 0, n, .inl f1)), (a3, .inl (G.2.1 2, n, .inl f2))] s.heap.size = A at hD hcx ⊢
  have hA : ∀ q : Nat, s.heap.size ≤ q → A q := fun q h => by rw [← hAe]; exact Or.inr h
  have hS : va_S A s.heap s.heap [] := va_S.rf
  have hts := hcx.now.1 [.ref h, .int k, .int d].toArray
  have hK := hcx.now.2.1
  have hl := lv_entry ([.ref h, .int k, .int d]) (n := 4) (Nat.le_of_ble_eq_true rfl)
  rw [lg_entry_eq]
  generalize (lg_sl ([.ref h, .int k, .int d]) ++ List.replicate (4 - (lg_sl ([.ref h, .int k, .int d])).length) Slot.unset).toArray = ls at hl ⊢
  have hl : lv_has ls 4 [(0, .ref h), (1, .int k), (2, .int d)] := hl
  unfold wp_Ly_widen at hw
  refine lv_aload_n hx hb d_Ly_widen_0 rfl (lv_at hl 0 rfl) ?_
  refine lv_iload_n hx hb d_Ly_widen_1 rfl (lv_at hl 1 rfl) ?_
  have hPc := hP.sub (ws' := [(h, .inr (0, [.int rm, .ref a1, .ref a2, .ref a3, .int cnt, .int us])), (a1, .inl (G.2.1 0, n, .inl f0)), (a2, .inl (G.2.1 0, n, .inl f1)), (a3, .inl (G.2.1 2, n, .inl f2))]) [0, 1, 2, 3] rfl
  refine pu_i (va_runV (As := [.int k]) (rest := []) ⟨hx, hb, hml, hown, hts⟩ (c_Ly_has l G h a1 a2 a3 n rm cnt us f0 f1 f2 k) (cwV 1 hts (gi_V ml_Ly_32 im_Ly_has se_Ly_has ini_Ly co_Ly_has) rfl rfl rfl (by decide +kernel) ⟨Nat.le_of_ble_eq_true rfl, Nat.le_of_ble_eq_true rfl⟩) ⟨cp_blind, va_recv hK hPc (ci := 0) (q0 := 0) rfl rfl, cp_pre hcx hS hPc⟩ rfl rfl hl.1 rfl (lv_room (Nat.le_of_ble_eq_true rfl)) d_Ly_widen_2 ⟨Nat.le_of_ble_eq_true rfl, Nat.le_of_ble_eq_true rfl⟩) hS hP (fun H locs hP hS => ?_)
  refine lv_if_ne (tgt := 9) hx hb d_Ly_widen_5 (by decide) (fun c_1 => ?_) (fun c_1 => ?_)
  · replace hw := hw.1 c_1
    refine lv_aload_n hx hb d_Ly_widen_9 rfl (lv_at hl 0 rfl) ?_
    refine va_get (D := G.1) (ci := 0) (v := .ref a2) (C := R_Ly) (T := T_Ly) (N := 6) hx hb hts in_Ly hown hK hP 0 rfl rfl 2 (by decide) (hts _ fl_Ly_19) (fun _ h9 => h9) rfl d_Ly_widen_10 ?_
    refine lv_iload_n hx hb d_Ly_widen_13 rfl (lv_at hl 1 rfl) ?_
    refine lv_dup2_11 hx hb d_Ly_widen_14 rfl rfl ?_
    obtain ⟨h_2, hw⟩ := hw
    refine va_iald hx hb hK hP 2 0 rfl rfl h_2 d_Ly_widen_15 ?_
    refine lv_iload_n hx hb d_Ly_widen_16 rfl (lv_at hl 2 rfl) ?_
    refine lv_iadd hx hb d_Ly_widen_17 ?_
    obtain ⟨h_3, hw⟩ := hw
    obtain ⟨a_4, ea_4⟩ : ∃ z, z = upd f1 k.toNatClampNeg ((f1 k.toNatClampNeg) + d) := ⟨_, rfl⟩
    replace hw := hw a_4 ea_4
    refine va_iast hx hb hK hP hD hS 2 0 rfl rfl h_3 d_Ly_widen_18 (fun H locs hP hD hS => ?_)
    rw [← ea_4] at hP hD
    have hP : va_P G.1 vwC [(h, .inr (0, [.int rm, .ref a1, .ref a2, .ref a3, .int cnt, .int us])), (a1, .inl (G.2.1 0, n, .inl f0)), (a2, .inl (G.2.1 0, n, .inl a_4)), (a3, .inl (G.2.1 2, n, .inl f2))] H := hP
    have hD : va_D A [(h, .inr (0, [.int rm, .ref a1, .ref a2, .ref a3, .int cnt, .int us])), (a1, .inl (G.2.1 0, n, .inl f0)), (a2, .inl (G.2.1 0, n, .inl a_4)), (a3, .inl (G.2.1 2, n, .inl f2))] := hD
    refine lv_iload_n hx hb d_Ly_widen_19 rfl (lv_at hl 1 rfl) ?_
    refine lv_iconst (v := 1) hx hb d_Ly_widen_20 (by decide) ?_
    refine lv_iadd hx hb d_Ly_widen_21 ?_
    refine lv_topi (fun x_5 ex_5 => ?_)
    replace hw := hw x_5 ex_5
    refine lv_istore_n (lv' := [(3, .int x_5), (0, .ref h), (1, .int k), (2, .int d)]) hx hb d_Ly_widen_22 rfl hl (by decide) rfl (fun ls hl => ?_)
    obtain ⟨n9, hw⟩ := hw
    exact l_Ly_widen_23 G h a1 a2 a3 A post n k d rm cnt us a_4 f2 hx hb hr hml hown hlocks hcx hA n9 x_5 f0 hw _ _ hP hD hS ls (lv_sub hl [1, 2, 3, 0] rfl)
  · replace hw := hw.2 c_1
    exact W.vret hx hb hr (fun t ht hW => ⟨⟨(f0, f1, us), rfl, hw, by have h9 := hP; rw [← ht] at h9; exact h9⟩, hS.F ht⟩) hS.2.2 d_Ly_widen_8
def wp_Ly_giveUp (post : ((Nat → Int32) × (Nat → Int32)) → Prop) (n : Nat) (rm : Int32) (cnt : Int32) (us : Int32) (f0 : Nat → Int32) (f1 : Nat → Int32) (f2 : Nat → Int32) (k : Int32) : Prop := ((ly_has cnt k = 0 → (post (f1, f2))) ∧ (¬ ly_has cnt k = 0 → ((vp_in k n) ∧ ∀ a_3 : Nat → Int32, a_3 = upd f1 k.toNatClampNeg 0 → ((vp_in k n) ∧ ∀ a_5 : Nat → Int32, a_5 = upd f2 k.toNatClampNeg (vp_nar .boolean 1) → (post (a_3, a_5))))))
set_option maxHeartbeats 4000000 in
set_option maxRecDepth 100000 in
theorem t_Ly_giveUp (l : Launch) (G : cxT) (h : Nat) (a1 : Nat) (a2 : Nat) (a3 : Nat) (n : Nat) (rm : Int32) (cnt : Int32) (us : Int32) (f0 : Nat → Int32) (f1 : Nat → Int32) (f2 : Nat → Int32) (k : Int32) (sz : Nat) (post : ((Nat → Int32) × (Nat → Int32)) → Prop) (hw : wp_Ly_giveUp post n rm cnt us f0 f1 f2 k) : Met l y_Ly_giveUp [.code y_Ly_giveUp b_Ly_giveUp 2 none] ({ frames := 1, cells := 0, slots := 0, locals := 40 } : Room) (cm G [.ref h, .int k] [(h, .inr (0, [.int rm, .ref a1, .ref a2, .ref a3, .int cnt, .int us])), (a1, .inl (G.2.1 0, n, .inl f0)), (a2, .inl (G.2.1 0, n, .inl f1)), (a3, .inl (G.2.1 2, n, .inl f2))] sz) (va_Qv post (fun u t => va_P G.1 vwC [(h, .inr (0, [.int rm, .ref a1, .ref a2, .ref a3, .int cnt, .int us])), (a1, .inl (G.2.1 0, n, .inl f0)), (a2, .inl (G.2.1 0, n, .inl u.1)), (a3, .inl (G.2.1 2, n, .inl u.2))] t.heap) (va_A [(h, .inr (0, [.int rm, .ref a1, .ref a2, .ref a3, .int cnt, .int us])), (a1, .inl (G.2.1 0, n, .inl f0)), (a2, .inl (G.2.1 0, n, .inl f1)), (a3, .inl (G.2.1 2, n, .inl f2))] sz)) 0 0 (va_A [(h, .inr (0, [.int rm, .ref a1, .ref a2, .ref a3, .int cnt, .int us])), (a1, .inl (G.2.1 0, n, .inl f0)), (a2, .inl (G.2.1 0, n, .inl f1)), (a3, .inl (G.2.1 2, n, .inl f2))] sz) := by
  refine Met.ofW (cc := b_Ly_giveUp) (maxL := 2) (ret := none) (by decide) rfl ?_
  intro p e s m args below meth c s₁ B hml hv
  obtain ⟨rfl, hsz, hcx, hP, hD0⟩ := hv
  have hx := B.exec
  have hb := B.bytes
  have hr := B.returns
  have hlocks := B.notSynchronized
  have hown : s.vm.findClass R_Ly = some m.cls := findClass_of_methodNamed B.named
  subst hsz
  have hD := hD0.self (sz := s.heap.size)
  generalize hAe : va_A [(h, .inr (0, [.int rm, .ref a1, .ref a2, .ref a3, .int cnt, .int us])), (a1, .inl (G.2.1 0, n, .inl f0)), (a2, .inl (G.2.1 0, n, .inl f1)), (a3, .inl (G.2.1 2, n, .inl f2))] s.heap.size = A at hD hcx ⊢
  have hA : ∀ q : Nat, s.heap.size ≤ q → A q := fun q h => by rw [← hAe]; exact Or.inr h
  have hS : va_S A s.heap s.heap [] := va_S.rf
  have hts := hcx.now.1 [.ref h, .int k].toArray
  have hK := hcx.now.2.1
  have hl := lv_entry ([.ref h, .int k]) (n := 2) (Nat.le_of_ble_eq_true rfl)
  rw [lg_entry_eq]
  generalize (lg_sl ([.ref h, .int k]) ++ List.replicate (2 - (lg_sl ([.ref h, .int k])).length) Slot.unset).toArray = ls at hl ⊢
  have hl : lv_has ls 2 [(0, .ref h), (1, .int k)] := hl
  unfold wp_Ly_giveUp at hw
  refine lv_aload_n hx hb d_Ly_giveUp_0 rfl (lv_at hl 0 rfl) ?_
  refine lv_iload_n hx hb d_Ly_giveUp_1 rfl (lv_at hl 1 rfl) ?_
  have hPc := hP.sub (ws' := [(h, .inr (0, [.int rm, .ref a1, .ref a2, .ref a3, .int cnt, .int us])), (a1, .inl (G.2.1 0, n, .inl f0)), (a2, .inl (G.2.1 0, n, .inl f1)), (a3, .inl (G.2.1 2, n, .inl f2))]) [0, 1, 2, 3] rfl
  refine pu_i (va_runV (As := [.int k]) (rest := []) ⟨hx, hb, hml, hown, hts⟩ (c_Ly_has l G h a1 a2 a3 n rm cnt us f0 f1 f2 k) (cwV 1 hts (gi_V ml_Ly_32 im_Ly_has se_Ly_has ini_Ly co_Ly_has) rfl rfl rfl (by decide +kernel) ⟨Nat.le_of_ble_eq_true rfl, Nat.le_of_ble_eq_true rfl⟩) ⟨cp_blind, va_recv hK hPc (ci := 0) (q0 := 0) rfl rfl, cp_pre hcx hS hPc⟩ rfl rfl hl.1 rfl (lv_room (Nat.le_of_ble_eq_true rfl)) d_Ly_giveUp_2 ⟨Nat.le_of_ble_eq_true rfl, Nat.le_of_ble_eq_true rfl⟩) hS hP (fun H locs hP hS => ?_)
  refine lv_if_eq (tgt := 22) hx hb d_Ly_giveUp_5 (by decide) (fun c_1 => ?_) (fun c_1 => ?_)
  · replace hw := hw.1 c_1
    exact W.vret hx hb hr (fun t ht hW => ⟨⟨(f1, f2), rfl, hw, by have h9 := hP; rw [← ht] at h9; exact h9⟩, hS.F ht⟩) hS.2.2 d_Ly_giveUp_22
  · replace hw := hw.2 c_1
    refine lv_aload_n hx hb d_Ly_giveUp_8 rfl (lv_at hl 0 rfl) ?_
    refine va_get (D := G.1) (ci := 0) (v := .ref a2) (C := R_Ly) (T := T_Ly) (N := 6) hx hb hts in_Ly hown hK hP 0 rfl rfl 2 (by decide) (hts _ fl_Ly_19) (fun _ h9 => h9) rfl d_Ly_giveUp_9 ?_
    refine lv_iload_n hx hb d_Ly_giveUp_12 rfl (lv_at hl 1 rfl) ?_
    refine lv_iconst (v := 0) hx hb d_Ly_giveUp_13 (by decide) ?_
    obtain ⟨h_2, hw⟩ := hw
    obtain ⟨a_3, ea_3⟩ : ∃ z, z = upd f1 k.toNatClampNeg 0 := ⟨_, rfl⟩
    replace hw := hw a_3 ea_3
    refine va_iast hx hb hK hP hD hS 2 0 rfl rfl h_2 d_Ly_giveUp_14 (fun H locs hP hD hS => ?_)
    rw [← ea_3] at hP hD
    have hP : va_P G.1 vwC [(h, .inr (0, [.int rm, .ref a1, .ref a2, .ref a3, .int cnt, .int us])), (a1, .inl (G.2.1 0, n, .inl f0)), (a2, .inl (G.2.1 0, n, .inl a_3)), (a3, .inl (G.2.1 2, n, .inl f2))] H := hP
    have hD : va_D A [(h, .inr (0, [.int rm, .ref a1, .ref a2, .ref a3, .int cnt, .int us])), (a1, .inl (G.2.1 0, n, .inl f0)), (a2, .inl (G.2.1 0, n, .inl a_3)), (a3, .inl (G.2.1 2, n, .inl f2))] := hD
    refine lv_aload_n hx hb d_Ly_giveUp_15 rfl (lv_at hl 0 rfl) ?_
    refine va_get (D := G.1) (ci := 0) (v := .ref a3) (C := R_Ly) (T := T_Ly) (N := 6) hx hb hts in_Ly hown hK hP 0 rfl rfl 3 (by decide) (hts _ fl_Ly_22) (fun _ h9 => h9) rfl d_Ly_giveUp_16 ?_
    refine lv_iload_n hx hb d_Ly_giveUp_19 rfl (lv_at hl 1 rfl) ?_
    refine lv_iconst (v := 1) hx hb d_Ly_giveUp_20 (by decide) ?_
    obtain ⟨h_4, hw⟩ := hw
    obtain ⟨a_5, ea_5⟩ : ∃ z, z = upd f2 k.toNatClampNeg (vp_nar .boolean 1) := ⟨_, rfl⟩
    replace hw := hw a_5 ea_5
    refine va_zast hx hb hK hP hD hS 3 2 rfl rfl h_4 d_Ly_giveUp_21 (fun H locs hP hD hS => ?_)
    rw [← ea_5] at hP hD
    have hP : va_P G.1 vwC [(h, .inr (0, [.int rm, .ref a1, .ref a2, .ref a3, .int cnt, .int us])), (a1, .inl (G.2.1 0, n, .inl f0)), (a2, .inl (G.2.1 0, n, .inl a_3)), (a3, .inl (G.2.1 2, n, .inl a_5))] H := hP
    have hD : va_D A [(h, .inr (0, [.int rm, .ref a1, .ref a2, .ref a3, .int cnt, .int us])), (a1, .inl (G.2.1 0, n, .inl f0)), (a2, .inl (G.2.1 0, n, .inl a_3)), (a3, .inl (G.2.1 2, n, .inl a_5))] := hD
    exact W.vret hx hb hr (fun t ht hW => ⟨⟨(a_3, a_5), rfl, hw, by have h9 := hP; rw [← ht] at h9; exact h9⟩, hS.F ht⟩) hS.2.2 d_Ly_giveUp_22
theorem c_Ly_giveUp (l : Launch) (G : cxT) (h : Nat) (a1 : Nat) (a2 : Nat) (a3 : Nat) (n : Nat) (rm : Int32) (cnt : Int32) (us : Int32) (f0 : Nat → Int32) (f1 : Nat → Int32) (f2 : Nat → Int32) (k : Int32) (sz : Nat) (h0 : cnt.toInt ≤ n) (h1 : ¬ ly_has cnt k = 0) : Met l y_Ly_giveUp [.code y_Ly_giveUp b_Ly_giveUp 2 none] ({ frames := 1, cells := 0, slots := 0, locals := 40 } : Room) (cm G [.ref h, .int k] [(h, .inr (0, [.int rm, .ref a1, .ref a2, .ref a3, .int cnt, .int us])), (a1, .inl (G.2.1 0, n, .inl f0)), (a2, .inl (G.2.1 0, n, .inl f1)), (a3, .inl (G.2.1 2, n, .inl f2))] sz) (va_Qv (fun u => u = ((upd f1 k.toNatClampNeg 0), (upd f2 k.toNatClampNeg 1))) (fun u t => va_P G.1 vwC [(h, .inr (0, [.int rm, .ref a1, .ref a2, .ref a3, .int cnt, .int us])), (a1, .inl (G.2.1 0, n, .inl f0)), (a2, .inl (G.2.1 0, n, .inl u.1)), (a3, .inl (G.2.1 2, n, .inl u.2))] t.heap) (va_A [(h, .inr (0, [.int rm, .ref a1, .ref a2, .ref a3, .int cnt, .int us])), (a1, .inl (G.2.1 0, n, .inl f0)), (a2, .inl (G.2.1 0, n, .inl f1)), (a3, .inl (G.2.1 2, n, .inl f2))] sz)) 0 0 (va_A [(h, .inr (0, [.int rm, .ref a1, .ref a2, .ref a3, .int cnt, .int us])), (a1, .inl (G.2.1 0, n, .inl f0)), (a2, .inl (G.2.1 0, n, .inl f1)), (a3, .inl (G.2.1 2, n, .inl f2))] sz) :=
  t_Ly_giveUp l G h a1 a2 a3 n rm cnt us f0 f1 f2 k sz (fun u => u = ((upd f1 k.toNatClampNeg 0), (upd f2 k.toNatClampNeg 1))) (by
    unfold wp_Ly_giveUp
    exact ⟨fun c => absurd c h1, fun c => ⟨ly_has_in c h0, fun a ea => ⟨ly_has_in c h0, fun b eb => by rw [ea, eb]; rfl⟩⟩⟩)
end
section
theorem ly_widen_loop {post : ((Nat → Int32) × (Nat → Int32) × Int32) → Prop} {n c k : Nat} {d us rm : Int32} {f1 f2 : Nat → Int32} (g : Nat → Int32) (hc : c ≤ n) (hn : n < 2 ^ 31) (hk : k < c)
    (H : post (ly_shift g k c d, f1, us + d)) : ∃ m, wp_Ly_widen_23 post n (nI k) d rm (nI c) us f1 f2 m (nI (k + 1)) g := by
  refine Exists.elim (pk_loop (fun m i f => wp_Ly_widen_23 post n (nI k) d rm (nI c) us f1 f2 m (nI i) f) (fun i f => k < i ∧ f = ly_shift g k i d) c (k + 1) g (by omega) ⟨by omega, ?_⟩ ?_ ?_) (fun m hm => ⟨m, hm⟩)
  · funext j
    unfold ly_shift
    rw [if_neg (by omega)]
  · intro m f hf
    unfold wp_Ly_widen_23
    refine ⟨fun _ => fun x ex => ?_, fun h => absurd (nI_le (Nat.le_refl c) (by omega)) h⟩
    rw [ex, hf.2]
    exact H
  · intro m i f hi hf ih
    unfold wp_Ly_widen_23
    refine ⟨fun h => absurd h (nI_ge hi (by omega)), fun _ => ⟨vp_in_nI (by omega) hn, vp_in_nI (by omega) hn, fun a ea x ex => ?_⟩⟩
    rw [nI_clamp (by omega)] at ea
    rw [ex, nI_1]
    refine ih _ ⟨by omega, ?_⟩
    rw [ea, hf.2]
    funext j
    unfold ly_shift upd
    by_cases hj : j = i
    · subst hj
      rw [if_pos rfl, if_neg (by omega), if_pos (by omega)]
    · rw [if_neg hj]
      dsimp only
      by_cases h1 : k < j ∧ j < i
      · rw [if_pos h1, if_pos (by omega)]
      · rw [if_neg h1, if_neg (by omega)]

theorem ly_has_nat {cnt k : Int32} (h : ¬ ly_has cnt k = 0) : ∃ j c : Nat, j < c ∧ c < 2 ^ 31 ∧ k = nI j ∧ cnt = nI c := by
  unfold ly_has at h
  by_cases h1 : k < 0
  · simp [h1] at h
  · by_cases h2 : cnt ≤ k
    · simp [h1, h2] at h
    · obtain ⟨j, hj, rfl⟩ := nI_of h1
      rw [Int32.le_iff_toInt_le, nI_toInt hj] at h2
      obtain ⟨c, hc, rfl⟩ := nI_of (x := cnt) (by rw [Int32.lt_iff_toInt_lt]; have e : (0 : Int32).toInt = 0 := rfl; omega)
      rw [nI_toInt hc] at h2
      exact ⟨j, c, by omega, hc, rfl, rfl⟩
theorem ly_shift_last (f0 : Nat → Int32) (c : Nat) (d : Int32) : ly_shift f0 (c - 1) c d = f0 := by
  funext j
  unfold ly_shift
  rw [if_neg (by omega)]
theorem ly_has_last {cnt : Int32} (h : ¬ cnt ≤ 0) : ¬ ly_has cnt (cnt - 1) = 0 := by
  rw [Int32.le_iff_toInt_le] at h
  have e : (0 : Int32).toInt = 0 := rfl
  obtain ⟨j, hj, rfl⟩ := nI_of (x := cnt) (by rw [Int32.lt_iff_toInt_lt]; omega)
  rw [nI_toInt hj] at h
  obtain ⟨i, rfl⟩ : ∃ i, j = i + 1 := ⟨j - 1, by omega⟩
  rw [nI_pred]
  unfold ly_has
  rw [if_neg (nI_pos (by omega)), if_neg (nI_ge (by omega) (by omega))]
  decide

theorem c_Ly_widen (l : Launch) (G : cxT) (h : Nat) (a1 : Nat) (a2 : Nat) (a3 : Nat) (n : Nat) (rm : Int32) (cnt : Int32) (us : Int32) (f0 : Nat → Int32) (f1 : Nat → Int32) (f2 : Nat → Int32) (k : Int32) (d : Int32) (sz : Nat) (h0 : cnt.toInt ≤ n) (h1 : ¬ ly_has cnt k = 0) (h2 : n < 2147483648) : Met l y_Ly_widen [.code y_Ly_widen b_Ly_widen 4 none] ({ frames := 1, cells := 0, slots := 0, locals := 40 } : Room) (cm G [.ref h, .int k, .int d] [(h, .inr (0, [.int rm, .ref a1, .ref a2, .ref a3, .int cnt, .int us])), (a1, .inl (G.2.1 0, n, .inl f0)), (a2, .inl (G.2.1 0, n, .inl f1)), (a3, .inl (G.2.1 2, n, .inl f2))] sz) (va_Qv (fun u => u = ((ly_shift f0 k.toNatClampNeg cnt.toNatClampNeg d), (upd f1 k.toNatClampNeg (f1 k.toNatClampNeg + d)), (us + d))) (fun u t => va_P G.1 vwC [(h, .inr (0, [.int rm, .ref a1, .ref a2, .ref a3, .int cnt, .int u.2.2])), (a1, .inl (G.2.1 0, n, .inl u.1)), (a2, .inl (G.2.1 0, n, .inl u.2.1)), (a3, .inl (G.2.1 2, n, .inl f2))] t.heap) (va_A [(h, .inr (0, [.int rm, .ref a1, .ref a2, .ref a3, .int cnt, .int us])), (a1, .inl (G.2.1 0, n, .inl f0)), (a2, .inl (G.2.1 0, n, .inl f1)), (a3, .inl (G.2.1 2, n, .inl f2))] sz)) 0 0 (va_A [(h, .inr (0, [.int rm, .ref a1, .ref a2, .ref a3, .int cnt, .int us])), (a1, .inl (G.2.1 0, n, .inl f0)), (a2, .inl (G.2.1 0, n, .inl f1)), (a3, .inl (G.2.1 2, n, .inl f2))] sz) :=
  t_Ly_widen l G h a1 a2 a3 n rm cnt us f0 f1 f2 k d sz (fun u => u = ((ly_shift f0 k.toNatClampNeg cnt.toNatClampNeg d), (upd f1 k.toNatClampNeg (f1 k.toNatClampNeg + d)), (us + d))) (by
    unfold wp_Ly_widen
    refine ⟨fun c1 => ⟨ly_has_in c1 h0, ly_has_in c1 h0, fun a ea x ex => ?_⟩, fun c1 => absurd c1 h1⟩
    obtain ⟨j, c, h3, h4, rfl, rfl⟩ := ly_has_nat h1
    rw [nI_toInt h4] at h0
    have e1 : (nI j).toNatClampNeg = j := nI_clamp (by omega)
    have e2 : (nI c).toNatClampNeg = c := nI_clamp h4
    rw [e1] at ea
    rw [ex, nI_1, ea]
    refine ly_widen_loop f0 (by omega) h2 h3 ?_
    rw [e1, e2])
def wp_Ly_take (post : Int32 → ((Nat → Int32) × (Nat → Int32) × Int32 × Int32) → Prop) (n : Nat) (rm : Int32) (cnt : Int32) (us : Int32) (f0 : Nat → Int32) (f1 : Nat → Int32) (f2 : Nat → Int32) (km : Int32) (mo : Int32) : Prop := ((¬ mo = 0 → ((cnt.toInt ≤ n) ∧ ((¬ ly_has cnt (cnt - 1) = 0) ∧ ((n < 2147483648) ∧ (∀ u_5 : Nat → Int32, u_5 = ly_shift f0 (cnt - 1).toNatClampNeg cnt.toNatClampNeg km → (∀ u_6 : Nat → Int32, u_6 = upd f1 (cnt - 1).toNatClampNeg (f1 (cnt - 1).toNatClampNeg + km) → (∀ u_7 : Int32, u_7 = us + km → (post (cnt - 1) (u_5, u_6, cnt, u_7))))))))) ∧ (mo = 0 → ((vp_in cnt n) ∧ ((ly_full cnt n = 0) ∧ (∀ u_10 : Nat → Int32, u_10 = upd f0 cnt.toNatClampNeg us → (∀ u_11 : Nat → Int32, u_11 = upd f1 cnt.toNatClampNeg km → (∀ u_12 : Int32, u_12 = cnt + 1 → (∀ u_13 : Int32, u_13 = us + km → (post cnt (u_10, u_11, u_12, u_13))))))))))
set_option maxHeartbeats 4000000 in
set_option maxRecDepth 100000 in
theorem t_Ly_take (l : Launch) (G : cxT) (h : Nat) (a1 : Nat) (a2 : Nat) (a3 : Nat) (n : Nat) (rm : Int32) (cnt : Int32) (us : Int32) (f0 : Nat → Int32) (f1 : Nat → Int32) (f2 : Nat → Int32) (km : Int32) (mo : Int32) (sz : Nat) (post : Int32 → ((Nat → Int32) × (Nat → Int32) × Int32 × Int32) → Prop) (hw : wp_Ly_take post n rm cnt us f0 f1 f2 km mo) : Met l y_Ly_take [.code y_Ly_take b_Ly_take 3 (some .int)] ({ frames := 2, cells := 0, slots := 0, locals := 80 } : Room) (cm G [.ref h, .int km, .int mo] [(h, .inr (0, [.int rm, .ref a1, .ref a2, .ref a3, .int cnt, .int us])), (a1, .inl (G.2.1 0, n, .inl f0)), (a2, .inl (G.2.1 0, n, .inl f1)), (a3, .inl (G.2.1 2, n, .inl f2))] sz) (va_Qi post (fun u t => va_P G.1 vwC [(h, .inr (0, [.int rm, .ref a1, .ref a2, .ref a3, .int u.2.2.1, .int u.2.2.2])), (a1, .inl (G.2.1 0, n, .inl u.1)), (a2, .inl (G.2.1 0, n, .inl u.2.1)), (a3, .inl (G.2.1 2, n, .inl f2))] t.heap) (va_A [(h, .inr (0, [.int rm, .ref a1, .ref a2, .ref a3, .int cnt, .int us])), (a1, .inl (G.2.1 0, n, .inl f0)), (a2, .inl (G.2.1 0, n, .inl f1)), (a3, .inl (G.2.1 2, n, .inl f2))] sz)) 0 0 (va_A [(h, .inr (0, [.int rm, .ref a1, .ref a2, .ref a3, .int cnt, .int us])), (a1, .inl (G.2.1 0, n, .inl f0)), (a2, .inl (G.2.1 0, n, .inl f1)), (a3, .inl (G.2.1 2, n, .inl f2))] sz) := by
  refine Met.ofW (cc := b_Ly_take) (maxL := 3) (ret := (some .int)) (by decide) rfl ?_
  intro p e s m args below meth c s₁ B hml hv
  obtain ⟨rfl, hsz, hcx, hP, hD0⟩ := hv
  have hx := B.exec
  have hb := B.bytes
  have hr := B.returns
  have hlocks := B.notSynchronized
  have hown : s.vm.findClass R_Ly = some m.cls := findClass_of_methodNamed B.named
  subst hsz
  have hD := hD0.self (sz := s.heap.size)
  generalize hAe : va_A [(h, .inr (0, [.int rm, .ref a1, .ref a2, .ref a3, .int cnt, .int us])), (a1, .inl (G.2.1 0, n, .inl f0)), (a2, .inl (G.2.1 0, n, .inl f1)), (a3, .inl (G.2.1 2, n, .inl f2))] s.heap.size = A at hD hcx ⊢
  have hA : ∀ q : Nat, s.heap.size ≤ q → A q := fun q h => by rw [← hAe]; exact Or.inr h
  have hS : va_S A s.heap s.heap [] := va_S.rf
  have hts := hcx.now.1 [.ref h, .int km, .int mo].toArray
  have hK := hcx.now.2.1
  have hl := lv_entry ([.ref h, .int km, .int mo]) (n := 3) (Nat.le_of_ble_eq_true rfl)
  rw [lg_entry_eq]
  generalize (lg_sl ([.ref h, .int km, .int mo]) ++ List.replicate (3 - (lg_sl ([.ref h, .int km, .int mo])).length) Slot.unset).toArray = ls at hl ⊢
  have hl : lv_has ls 3 [(0, .ref h), (1, .int km), (2, .int mo)] := hl
  unfold wp_Ly_take at hw
  refine lv_iload_n hx hb d_Ly_take_0 rfl (lv_at hl 2 rfl) ?_
  refine lv_if_ne (tgt := 10) hx hb d_Ly_take_1 (by decide) (fun c_1 => ?_) (fun c_1 => ?_)
  · replace hw := hw.1 c_1
    refine lv_aload_n hx hb d_Ly_take_10 rfl (lv_at hl 0 rfl) ?_
    refine lv_aload_n hx hb d_Ly_take_11 rfl (lv_at hl 0 rfl) ?_
    refine va_get (D := G.1) (ci := 0) (v := .int cnt) (C := R_Ly) (T := T_Ly) (N := 6) hx hb hts in_Ly hown hK hP 0 rfl rfl 4 (by decide) (hts _ fl_Ly_26) (fun _ h9 => h9) rfl d_Ly_take_12 ?_
    refine lv_iconst (v := 1) hx hb d_Ly_take_15 (by decide) ?_
    refine lv_isub hx hb d_Ly_take_16 ?_
    refine lv_iload_n hx hb d_Ly_take_17 rfl (lv_at hl 1 rfl) ?_
    obtain ⟨h_2, hw⟩ := hw
    obtain ⟨h_3, hw⟩ := hw
    obtain ⟨h_4, hw⟩ := hw
    have hPc := hP.sub (ws' := [(h, .inr (0, [.int rm, .ref a1, .ref a2, .ref a3, .int cnt, .int us])), (a1, .inl (G.2.1 0, n, .inl f0)), (a2, .inl (G.2.1 0, n, .inl f1)), (a3, .inl (G.2.1 2, n, .inl f2))]) [0, 1, 2, 3] rfl
    have hDc := hD.sub (ws' := [(h, .inr (0, [.int rm, .ref a1, .ref a2, .ref a3, .int cnt, .int us])), (a1, .inl (G.2.1 0, n, .inl f0)), (a2, .inl (G.2.1 0, n, .inl f1)), (a3, .inl (G.2.1 2, n, .inl f2))]) [0, 1, 2, 3] (by decide) rfl
    have hFc := va_free (wc := [(h, .inr (0, [.int rm, .ref a1, .ref a2, .ref a3, .int cnt, .int us])), (a1, .inl (G.2.1 0, n, .inl f0)), (a2, .inl (G.2.1 0, n, .inl f1)), (a3, .inl (G.2.1 2, n, .inl f2))]) hD hS hA [0, 1, 2, 3] rfl
    refine ip_v (va_runV (As := [.int (cnt - 1), .int km]) (rest := []) ⟨hx, hb, hml, hown, hts⟩ (c_Ly_widen l G h a1 a2 a3 n rm cnt us f0 f1 f2 (cnt - 1) km _ h_2 h_3 h_4) (cwV 2 hts (gi_V ml_Ly_48 im_Ly_widen se_Ly_widen ini_Ly co_Ly_widen) rfl rfl rfl (by decide +kernel) ⟨Nat.le_of_ble_eq_true rfl, Nat.le_of_ble_eq_true rfl⟩) ⟨cm_blind, va_recv hK hPc (ci := 0) (q0 := 0) rfl rfl, cm_pre hcx hS hPc hDc hFc⟩ rfl rfl hl.1 rfl (lv_room (Nat.le_of_ble_eq_true rfl)) d_Ly_take_18 ⟨Nat.le_of_ble_eq_true rfl, Nat.le_of_ble_eq_true rfl⟩) hS hP hD hA [0, 1, 2, 3] rfl (fun _ => rfl) (fun u9 H locs hp hP hD hS => ?_)
    replace hp := hp.symm; subst hp
    obtain ⟨u_5, eu_5⟩ : ∃ z : Nat → Int32, z = ly_shift f0 (cnt - 1).toNatClampNeg cnt.toNatClampNeg km := ⟨_, rfl⟩
    replace hw := hw u_5 eu_5
    obtain ⟨u_6, eu_6⟩ : ∃ z : Nat → Int32, z = upd f1 (cnt - 1).toNatClampNeg (f1 (cnt - 1).toNatClampNeg + km) := ⟨_, rfl⟩
    replace hw := hw u_6 eu_6
    obtain ⟨u_7, eu_7⟩ : ∃ z : Int32, z = us + km := ⟨_, rfl⟩
    replace hw := hw u_7 eu_7
    have hP : va_P G.1 vwC [(h, .inr (0, [.int rm, .ref a1, .ref a2, .ref a3, .int cnt, .int (us + km)])), (a1, .inl (G.2.1 0, n, .inl (ly_shift f0 (cnt - 1).toNatClampNeg cnt.toNatClampNeg km))), (a2, .inl (G.2.1 0, n, .inl (upd f1 (cnt - 1).toNatClampNeg (f1 (cnt - 1).toNatClampNeg + km)))), (a3, .inl (G.2.1 2, n, .inl f2))] H := hP
    have hD : va_D A [(h, .inr (0, [.int rm, .ref a1, .ref a2, .ref a3, .int cnt, .int (us + km)])), (a1, .inl (G.2.1 0, n, .inl (ly_shift f0 (cnt - 1).toNatClampNeg cnt.toNatClampNeg km))), (a2, .inl (G.2.1 0, n, .inl (upd f1 (cnt - 1).toNatClampNeg (f1 (cnt - 1).toNatClampNeg + km)))), (a3, .inl (G.2.1 2, n, .inl f2))] := hD
    have hP : va_P G.1 vwC [(h, .inr (0, [.int rm, .ref a1, .ref a2, .ref a3, .int cnt, .int u_7])), (a1, .inl (G.2.1 0, n, .inl u_5)), (a2, .inl (G.2.1 0, n, .inl u_6)), (a3, .inl (G.2.1 2, n, .inl f2))] H := by rw [eu_5]; rw [eu_6]; rw [eu_7]; exact hP
    have hD : va_D A [(h, .inr (0, [.int rm, .ref a1, .ref a2, .ref a3, .int cnt, .int u_7])), (a1, .inl (G.2.1 0, n, .inl u_5)), (a2, .inl (G.2.1 0, n, .inl u_6)), (a3, .inl (G.2.1 2, n, .inl f2))] := by rw [eu_5]; rw [eu_6]; rw [eu_7]; exact hD
    refine lv_aload_n hx hb d_Ly_take_21 rfl (lv_at hl 0 rfl) ?_
    refine va_get (D := G.1) (ci := 0) (v := .int cnt) (C := R_Ly) (T := T_Ly) (N := 6) hx hb hts in_Ly hown hK hP 0 rfl rfl 4 (by decide) (hts _ fl_Ly_26) (fun _ h9 => h9) rfl d_Ly_take_22 ?_
    refine lv_iconst (v := 1) hx hb d_Ly_take_25 (by decide) ?_
    refine lv_isub hx hb d_Ly_take_26 ?_
    exact W.iret (v := cnt - 1) hx hb hr (fun t ht hW => ⟨⟨cnt - 1, (u_5, u_6, cnt, u_7), rfl, hw, by have h9 := hP; rw [← ht] at h9; exact h9⟩, hS.F ht⟩) hS.2.2 d_Ly_take_27
  · replace hw := hw.2 c_1
    refine lv_aload_n hx hb d_Ly_take_4 rfl (lv_at hl 0 rfl) ?_
    refine lv_iload_n hx hb d_Ly_take_5 rfl (lv_at hl 1 rfl) ?_
    obtain ⟨h_8, hw⟩ := hw
    obtain ⟨h_9, hw⟩ := hw
    have hPc := hP.sub (ws' := [(h, .inr (0, [.int rm, .ref a1, .ref a2, .ref a3, .int cnt, .int us])), (a1, .inl (G.2.1 0, n, .inl f0)), (a2, .inl (G.2.1 0, n, .inl f1)), (a3, .inl (G.2.1 2, n, .inl f2))]) [0, 1, 2, 3] rfl
    have hDc := hD.sub (ws' := [(h, .inr (0, [.int rm, .ref a1, .ref a2, .ref a3, .int cnt, .int us])), (a1, .inl (G.2.1 0, n, .inl f0)), (a2, .inl (G.2.1 0, n, .inl f1)), (a3, .inl (G.2.1 2, n, .inl f2))]) [0, 1, 2, 3] (by decide) rfl
    have hFc := va_free (wc := [(h, .inr (0, [.int rm, .ref a1, .ref a2, .ref a3, .int cnt, .int us])), (a1, .inl (G.2.1 0, n, .inl f0)), (a2, .inl (G.2.1 0, n, .inl f1)), (a3, .inl (G.2.1 2, n, .inl f2))]) hD hS hA [0, 1, 2, 3] rfl
    refine ip_i (va_runV (As := [.int km]) (rest := []) ⟨hx, hb, hml, hown, hts⟩ (c_Ly_append l G h a1 a2 a3 n rm cnt us f0 f1 f2 km _ h_8 h_9) (cwV 1 hts (gi_V ml_Ly_44 im_Ly_append se_Ly_append ini_Ly co_Ly_append) rfl rfl rfl (by decide +kernel) ⟨Nat.le_of_ble_eq_true rfl, Nat.le_of_ble_eq_true rfl⟩) ⟨cm_blind, va_recv hK hPc (ci := 0) (q0 := 0) rfl rfl, cm_pre hcx hS hPc hDc hFc⟩ rfl rfl hl.1 rfl (lv_room (Nat.le_of_ble_eq_true rfl)) d_Ly_take_6 ⟨Nat.le_of_ble_eq_true rfl, Nat.le_of_ble_eq_true rfl⟩) hS hP hD hA [0, 1, 2, 3] rfl (fun _ => rfl) (fun r9 u9 H locs hp hP hD hS => ?_)
    obtain ⟨e91, e92⟩ := hp; replace e91 := e91.symm; replace e92 := e92.symm; subst e91; subst e92
    obtain ⟨u_10, eu_10⟩ : ∃ z : Nat → Int32, z = upd f0 cnt.toNatClampNeg us := ⟨_, rfl⟩
    replace hw := hw u_10 eu_10
    obtain ⟨u_11, eu_11⟩ : ∃ z : Nat → Int32, z = upd f1 cnt.toNatClampNeg km := ⟨_, rfl⟩
    replace hw := hw u_11 eu_11
    obtain ⟨u_12, eu_12⟩ : ∃ z : Int32, z = cnt + 1 := ⟨_, rfl⟩
    replace hw := hw u_12 eu_12
    obtain ⟨u_13, eu_13⟩ : ∃ z : Int32, z = us + km := ⟨_, rfl⟩
    replace hw := hw u_13 eu_13
    have hP : va_P G.1 vwC [(h, .inr (0, [.int rm, .ref a1, .ref a2, .ref a3, .int (cnt + 1), .int (us + km)])), (a1, .inl (G.2.1 0, n, .inl (upd f0 cnt.toNatClampNeg us))), (a2, .inl (G.2.1 0, n, .inl (upd f1 cnt.toNatClampNeg km))), (a3, .inl (G.2.1 2, n, .inl f2))] H := hP
    have hD : va_D A [(h, .inr (0, [.int rm, .ref a1, .ref a2, .ref a3, .int (cnt + 1), .int (us + km)])), (a1, .inl (G.2.1 0, n, .inl (upd f0 cnt.toNatClampNeg us))), (a2, .inl (G.2.1 0, n, .inl (upd f1 cnt.toNatClampNeg km))), (a3, .inl (G.2.1 2, n, .inl f2))] := hD
    have hP : va_P G.1 vwC [(h, .inr (0, [.int rm, .ref a1, .ref a2, .ref a3, .int u_12, .int u_13])), (a1, .inl (G.2.1 0, n, .inl u_10)), (a2, .inl (G.2.1 0, n, .inl u_11)), (a3, .inl (G.2.1 2, n, .inl f2))] H := by rw [eu_10]; rw [eu_11]; rw [eu_12]; rw [eu_13]; exact hP
    have hD : va_D A [(h, .inr (0, [.int rm, .ref a1, .ref a2, .ref a3, .int u_12, .int u_13])), (a1, .inl (G.2.1 0, n, .inl u_10)), (a2, .inl (G.2.1 0, n, .inl u_11)), (a3, .inl (G.2.1 2, n, .inl f2))] := by rw [eu_10]; rw [eu_11]; rw [eu_12]; rw [eu_13]; exact hD
    exact W.iret (v := cnt) hx hb hr (fun t ht hW => ⟨⟨cnt, (u_10, u_11, u_12, u_13), rfl, hw, by have h9 := hP; rw [← ht] at h9; exact h9⟩, hS.F ht⟩) hS.2.2 d_Ly_take_9
theorem c_Ly_take (l : Launch) (G : cxT) (h : Nat) (a1 : Nat) (a2 : Nat) (a3 : Nat) (n : Nat) (rm : Int32) (cnt : Int32) (us : Int32) (f0 : Nat → Int32) (f1 : Nat → Int32) (f2 : Nat → Int32) (km : Int32) (mo : Int32) (sz : Nat) (h0 : cnt.toInt ≤ n) (h1 : n < 2147483648) (h2 : mo = 0 → vp_in cnt n ∧ ly_full cnt n = 0) (h3 : ¬ mo = 0 → ¬ cnt ≤ 0) : Met l y_Ly_take [.code y_Ly_take b_Ly_take 3 (some .int)] ({ frames := 2, cells := 0, slots := 0, locals := 80 } : Room) (cm G [.ref h, .int km, .int mo] [(h, .inr (0, [.int rm, .ref a1, .ref a2, .ref a3, .int cnt, .int us])), (a1, .inl (G.2.1 0, n, .inl f0)), (a2, .inl (G.2.1 0, n, .inl f1)), (a3, .inl (G.2.1 2, n, .inl f2))] sz) (va_Qi (fun r u => r = (if mo = 0 then cnt else cnt - 1) ∧ u = ((if mo = 0 then upd f0 cnt.toNatClampNeg us else f0), (if mo = 0 then upd f1 cnt.toNatClampNeg km else upd f1 (cnt - 1).toNatClampNeg (f1 (cnt - 1).toNatClampNeg + km)), (if mo = 0 then cnt + 1 else cnt), (us + km))) (fun u t => va_P G.1 vwC [(h, .inr (0, [.int rm, .ref a1, .ref a2, .ref a3, .int u.2.2.1, .int u.2.2.2])), (a1, .inl (G.2.1 0, n, .inl u.1)), (a2, .inl (G.2.1 0, n, .inl u.2.1)), (a3, .inl (G.2.1 2, n, .inl f2))] t.heap) (va_A [(h, .inr (0, [.int rm, .ref a1, .ref a2, .ref a3, .int cnt, .int us])), (a1, .inl (G.2.1 0, n, .inl f0)), (a2, .inl (G.2.1 0, n, .inl f1)), (a3, .inl (G.2.1 2, n, .inl f2))] sz)) 0 0 (va_A [(h, .inr (0, [.int rm, .ref a1, .ref a2, .ref a3, .int cnt, .int us])), (a1, .inl (G.2.1 0, n, .inl f0)), (a2, .inl (G.2.1 0, n, .inl f1)), (a3, .inl (G.2.1 2, n, .inl f2))] sz) :=
  t_Ly_take l G h a1 a2 a3 n rm cnt us f0 f1 f2 km mo sz (fun r u => r = (if mo = 0 then cnt else cnt - 1) ∧ u = ((if mo = 0 then upd f0 cnt.toNatClampNeg us else f0), (if mo = 0 then upd f1 cnt.toNatClampNeg km else upd f1 (cnt - 1).toNatClampNeg (f1 (cnt - 1).toNatClampNeg + km)), (if mo = 0 then cnt + 1 else cnt), (us + km))) (by
    unfold wp_Ly_take
    refine ⟨fun c1 => ?_, fun c1 => ?_⟩
    · have hh := ly_has_last (h3 c1)
      obtain ⟨j, c, q3, q4, q5, q6⟩ := ly_has_nat hh
      have e1 : (cnt - 1).toNatClampNeg = cnt.toNatClampNeg - 1 := by
        subst q6
        rw [q5, nI_clamp (by omega), nI_clamp q4]
        obtain ⟨i, rfl⟩ : ∃ i, c = i + 1 := ⟨c - 1, by omega⟩
        rw [nI_pred, nI_eq (by omega) (by omega)] at q5
        omega
      refine ⟨h0, hh, h1, fun x ex y ey z ez => ?_⟩
      simp only [if_neg c1]
      refine ⟨trivial, ?_⟩
      rw [ex, ey, ez, e1, ly_shift_last]
    · refine ⟨(h2 c1).1, (h2 c1).2, fun x ex y ey z ez w ew => ?_⟩
      simp only [if_pos c1]
      exact ⟨trivial, by rw [ex, ey, ez, ew]⟩)
end
section
/-! ===== what the helpers answer ===== -/
def ar_fill (f : Nat → Int32) (lo hi : Nat) (v : Int32) : Nat → Int32 := fun j => if lo ≤ j ∧ j < hi then v else f j
def u32 (k : Int32) : Int64 := k.toInt64 &&& 4294967295
def is_ref (r : Int32) : Int32 := if r < (-1) then 0 else 1
def w_of (op fst : Int32) (n : Nat) (f : Nat → Int32) : Int32 := if op < fst then 0 else if op - fst < nI n then f (op - fst).toNatClampNeg else 0
def ext_of (op : Int32) (v : Int64) : Int64 := if op = 44 then (v.toInt32.toInt8.toInt32.toInt64 &&& 4294967295) else if op = 46 then (v.toInt32.toInt16.toInt32.toInt64 &&& 4294967295) else if op = 48 then v.toInt32.toInt8.toInt32.toInt64 else if op = 50 then v.toInt32.toInt16.toInt32.toInt64 else if op = 52 then v.toInt32.toInt64 else v
theorem w_of_in {op fst : Int32} {n : Nat} (h1 : ¬ op < fst) (h2 : op - fst < nI n) (hf : 0 ≤ fst.toInt) (hn : n < 2 ^ 31) : vp_in (op - fst) n := by
  rw [Int32.lt_iff_toInt_lt] at h1
  have e : (op - fst).toInt = op.toInt - fst.toInt := by
    rw [Int32.toInt_sub]
    have h3 := Int32.toInt_lt op
    have h4 := Int32.le_toInt fst
    have h5 := Int32.le_toInt op
    have h6 := Int32.toInt_lt fst
    exact Int.bmod_eq_of_le (by omega) (by omega)
  rw [vp_in_iff]
  rw [Int32.lt_iff_toInt_lt, nI_toInt hn] at h2
  omega

def wp_Ar_rangeCheck (post : Prop) (ln : Int32) (lo : Int32) (hi : Int32) : Prop := ((lo ≤ hi → (((0 ≤ lo → (((hi ≤ ln → (post)) ∧ (¬ hi ≤ ln → (False))))) ∧ (¬ 0 ≤ lo → (False))))) ∧ (¬ lo ≤ hi → (False)))
set_option maxHeartbeats 4000000 in
set_option maxRecDepth 100000 in
theorem t_Ar_rangeCheck (l : Launch) (G : cxT) (ln : Int32) (lo : Int32) (hi : Int32) (post : Prop) (hw : wp_Ar_rangeCheck post ln lo hi) : Met l y_Ar_rangeCheck [.code y_Ar_rangeCheck b_Ar_rangeCheck 3 none] ({ frames := 0, cells := 0, slots := 0, locals := 0 } : Room) (cp G [.int ln, .int lo, .int hi] []) (va_Qv (fun (_ : Unit) => post) (fun _ _ => True) (fun _ => False)) 0 0 (fun _ => False) := by
  refine Met.ofW (cc := b_Ar_rangeCheck) (maxL := 3) (ret := none) (by decide +kernel) rfl ?_
  intro p e s m args below meth c s₁ B hml hv
  obtain ⟨rfl, hcx, hP⟩ := hv
  have hx := B.exec
  have hb := B.bytes
  have hr := B.returns
  have hlocks := B.notSynchronized
  have hown : s.vm.findClass R_Ar = some m.cls := findClass_of_methodNamed B.named
  have hS : va_S (fun _ => False) s.heap s.heap [] := va_S.rf
  have hts := hcx.now.1 [.int ln, .int lo, .int hi].toArray
  have hK := hcx.now.2.1
  have hl := lv_entry ([.int ln, .int lo, .int hi]) (n := 3) (Nat.le_of_ble_eq_true rfl)
  rw [lg_entry_eq]
  generalize (lg_sl ([.int ln, .int lo, .int hi]) ++ List.replicate (3 - (lg_sl ([.int ln, .int lo, .int hi])).length) Slot.unset).toArray = ls at hl ⊢
  have hl : lv_has ls 3 [(0, .int ln), (1, .int lo), (2, .int hi)] := hl
  unfold wp_Ar_rangeCheck at hw
  refine lv_iload_n hx hb d_Ar_rangeCheck_0 rfl (lv_at hl 1 rfl) ?_
  refine lv_iload_n hx hb d_Ar_rangeCheck_1 rfl (lv_at hl 2 rfl) ?_
  refine lv_icmp_le (tgt := 46) hx hb d_Ar_rangeCheck_2 (by decide) (fun c_1 => ?_) (fun c_1 => ?_)
  · replace hw := hw.1 c_1
    refine lv_iload_n hx hb d_Ar_rangeCheck_46 rfl (lv_at hl 1 rfl) ?_
    refine lv_if_ge (tgt := 59) hx hb d_Ar_rangeCheck_47 (by decide) (fun c_2 => ?_) (fun c_2 => ?_)
    · replace hw := hw.1 c_2
      refine lv_iload_n hx hb d_Ar_rangeCheck_59 rfl (lv_at hl 2 rfl) ?_
      refine lv_iload_n hx hb d_Ar_rangeCheck_60 rfl (lv_at hl 0 rfl) ?_
      refine lv_icmp_le (tgt := 73) hx hb d_Ar_rangeCheck_61 (by decide) (fun c_3 => ?_) (fun c_3 => ?_)
      · replace hw := hw.1 c_3
        exact W.vret hx hb hr (fun t ht hW => ⟨⟨(), rfl, hw, trivial⟩, hS.F ht⟩) hS.2.2 d_Ar_rangeCheck_73
      · replace hw := hw.2 c_3
        exact hw.elim
    · replace hw := hw.2 c_2
      exact hw.elim
  · replace hw := hw.2 c_1
    exact hw.elim
theorem c_Ar_rangeCheck (l : Launch) (G : cxT) (ln : Int32) (lo : Int32) (hi : Int32) (h0 : lo ≤ hi) (h1 : 0 ≤ lo) (h2 : hi ≤ ln) : Met l y_Ar_rangeCheck [.code y_Ar_rangeCheck b_Ar_rangeCheck 3 none] ({ frames := 0, cells := 0, slots := 0, locals := 0 } : Room) (cp G [.int ln, .int lo, .int hi] []) (va_Qv (fun (_ : Unit) => True) (fun _ _ => True) (fun _ => False)) 0 0 (fun _ => False) :=
  t_Ar_rangeCheck l G ln lo hi True (by
    unfold wp_Ar_rangeCheck
    exact ⟨fun _ => ⟨fun _ => ⟨fun _ => trivial, fun c => c h2⟩, fun c => c h1⟩, fun c => c h0⟩)
def wp_Ar_fillB_10 (post : (Nat → Int32) → Prop) (n : Nat) (hi : Int32) (vv : Int32) : Nat → Int32 → (Nat → Int32) → Prop
  | 0 => fun _ _ => False
  | n9 + 1 => fun x4 f => ((hi ≤ x4 → (post f)) ∧ (¬ hi ≤ x4 → ((vp_in x4 n) ∧ ∀ a_103 : Nat → Int32, a_103 = upd f x4.toNatClampNeg (vp_nar .byte vv) → (∀ x_104 : Int32, x_104 = x4 + 1 → (wp_Ar_fillB_10 post n hi vv n9 x_104 a_103)))))
set_option maxHeartbeats 4000000 in
set_option maxRecDepth 100000 in
theorem l_Ar_fillB_10 {p : Program} {l : Launch} {e : Env} {s : State} {m : MethodId} {args : Array Value} {below : List Frame} {meth : Method} {c : Code} (G : cxT) (aa : Nat) (A : Nat → Prop) (post : (Nat → Int32) → Prop) (n : Nat) (hi : Int32) (vv : Int32) (hx : p.tables.exec = Jvm.exec) (hb : c.code = b_Ar_fillB) (hr : meth.sig.returnType = none) (hml : c.maxLocals = 5) (hown : s.vm.findClass R_Ar = some m.cls) (hlocks : meth.locks = false) (hcx : cx G A s) (hA : ∀ q : Nat, s.heap.size ≤ q → A q) :
    ∀ (n9 : Nat) (x4 : Int32) (f : Nat → Int32), wp_Ar_fillB_10 post n hi vv n9 x4 f → ∀ (H : Heap) (locs : List Loc), va_P G.1 vwC [(aa, .inl (G.2.1 1, n, .inl f))] H → va_D A [(aa, .inl (G.2.1 1, n, .inl f))] → va_S A s.heap H locs → ∀ (ls : Array Slot), lv_has ls 5 [(0, .ref aa), (2, .int hi), (3, .int vv), (4, .int x4)] → W p l e (headSpec [.code y_Ar_fillB b_Ar_fillB 5 none] ({ frames := 1, cells := 0, slots := 0, locals := 40 } : Room)).room s m args below meth c H locs 0 0 (MQ below (va_Qv post (fun u t => va_P G.1 vwC [(aa, .inl (G.2.1 1, n, .inl u))] t.heap) A) args s 0 0 A) (F0 m 10 ls []) := by
  have hts := hcx.now.1 args
  have hK := hcx.now.2.1
  intro n9
  induction n9 with
  | zero =>
    intro x4 f hw
    exact hw.elim
  | succ n9 ih =>
    intro x4 f hw H locs hP hD hS ls hl
    unfold wp_Ar_fillB_10 at hw
    refine lv_iload hx hb d_Ar_fillB_10 (lv_at hl 3 rfl) ?_
    refine lv_iload_n hx hb d_Ar_fillB_12 rfl (lv_at hl 1 rfl) ?_
    refine lv_icmp_ge (tgt := 27) hx hb d_Ar_fillB_13 (by decide) (fun c_101 => ?_) (fun c_101 => ?_)
    · replace hw := hw.1 c_101
      exact W.vret hx hb hr (fun t ht hW => ⟨⟨f, rfl, hw, by have h9 := hP; rw [← ht] at h9; exact h9⟩, hS.F ht⟩) hS.2.2 d_Ar_fillB_27
    · replace hw := hw.2 c_101
      refine lv_aload_n hx hb d_Ar_fillB_16 rfl (lv_at hl 0 rfl) ?_
      refine lv_iload hx hb d_Ar_fillB_17 (lv_at hl 3 rfl) ?_
      refine lv_iload_n hx hb d_Ar_fillB_19 rfl (lv_at hl 2 rfl) ?_
      obtain ⟨h_102, hw⟩ := hw
      obtain ⟨a_103, ea_103⟩ : ∃ z, z = upd f x4.toNatClampNeg (vp_nar .byte vv) := ⟨_, rfl⟩
      replace hw := hw a_103 ea_103
      refine va_bast hx hb hK hP hD hS 0 1 rfl rfl h_102 d_Ar_fillB_20 (fun H locs hP hD hS => ?_)
      rw [← ea_103] at hP hD
      have hP : va_P G.1 vwC [(aa, .inl (G.2.1 1, n, .inl a_103))] H := hP
      have hD : va_D A [(aa, .inl (G.2.1 1, n, .inl a_103))] := hD
      obtain ⟨x_104, ex_104⟩ : ∃ y : Int32, y = x4 + 1 := ⟨_, rfl⟩
      replace hw := hw x_104 ex_104
      refine lv_iinc (v := x_104) (lv' := [(4, .int x_104), (0, .ref aa), (2, .int hi), (3, .int vv)]) hx hb d_Ar_fillB_21 hl (k := 3) rfl (by rw [ex_104]; rfl) (by decide) rfl (fun ls hl => ?_)
      refine lv_goto (tgt := 10) hx hb d_Ar_fillB_24 (by decide) ?_
      exact ih x_104 a_103 hw _ _ hP hD hS ls (lv_sub hl [1, 2, 3, 0] rfl)
def wp_Ar_fillB (post : (Nat → Int32) → Prop) (n : Nat) (f : Nat → Int32) (lo : Int32) (hi : Int32) (vv : Int32) : Prop := (lo ≤ hi) ∧ ((0 ≤ lo) ∧ ((hi ≤ (nI n)) ∧ (∃ n9 : Nat, wp_Ar_fillB_10 post n hi vv n9 lo f)))
set_option maxHeartbeats 4000000 in
set_option maxRecDepth 100000 in
theorem t_Ar_fillB (l : Launch) (G : cxT) (aa : Nat) (n : Nat) (f : Nat → Int32) (lo : Int32) (hi : Int32) (vv : Int32) (sz : Nat) (post : (Nat → Int32) → Prop) (hw : wp_Ar_fillB post n f lo hi vv) : Met l y_Ar_fillB [.code y_Ar_fillB b_Ar_fillB 5 none] ({ frames := 1, cells := 0, slots := 0, locals := 40 } : Room) (cm G [.ref aa, .int lo, .int hi, .int vv] [(aa, .inl (G.2.1 1, n, .inl f))] sz) (va_Qv post (fun u t => va_P G.1 vwC [(aa, .inl (G.2.1 1, n, .inl u))] t.heap) (va_A [(aa, .inl (G.2.1 1, n, .inl f))] sz)) 0 0 (va_A [(aa, .inl (G.2.1 1, n, .inl f))] sz) := by
  refine Met.ofW (cc := b_Ar_fillB) (maxL := 5) (ret := none) (by decide +kernel) rfl ?_
  intro p e s m args below meth c s₁ B hml hv
  obtain ⟨rfl, hsz, hcx, hP, hD0⟩ := hv
  have hx := B.exec
  have hb := B.bytes
  have hr := B.returns
  have hlocks := B.notSynchronized
  have hown : s.vm.findClass R_Ar = some m.cls := findClass_of_methodNamed B.named
  subst hsz
  have hD := hD0.self (sz := s.heap.size)
  generalize hAe : va_A [(aa, .inl (G.2.1 1, n, .inl f))] s.heap.size = A at hD hcx ⊢
  have hA : ∀ q : Nat, s.heap.size ≤ q → A q := fun q h => by rw [← hAe]; exact Or.inr h
  have hS : va_S A s.heap s.heap [] := va_S.rf
  have hts := hcx.now.1 [.ref aa, .int lo, .int hi, .int vv].toArray
  have hK := hcx.now.2.1
  have hl := lv_entry ([.ref aa, .int lo, .int hi, .int vv]) (n := 5) (Nat.le_of_ble_eq_true rfl)
  rw [lg_entry_eq]
  generalize (lg_sl ([.ref aa, .int lo, .int hi, .int vv]) ++ List.replicate (5 - (lg_sl ([.ref aa, .int lo, .int hi, .int vv])).length) Slot.unset).toArray = ls at hl ⊢
  have hl : lv_has ls 5 [(0, .ref aa), (1, .int lo), (2, .int hi), (3, .int vv)] := hl
  unfold wp_Ar_fillB at hw
  refine lv_aload_n hx hb d_Ar_fillB_0 rfl (lv_at hl 0 rfl) ?_
  refine va_alen (v := nI n) hx hb hK hP 0 1 rfl rfl rfl d_Ar_fillB_1 ?_
  refine lv_iload_n hx hb d_Ar_fillB_2 rfl (lv_at hl 1 rfl) ?_
  refine lv_iload_n hx hb d_Ar_fillB_3 rfl (lv_at hl 2 rfl) ?_
  obtain ⟨h_1, hw⟩ := hw
  obtain ⟨h_2, hw⟩ := hw
  obtain ⟨h_3, hw⟩ := hw
  have hPc := hP.sub (ws' := []) [] rfl
  refine pu_v (va_runS (As := [.int (nI n), .int lo, .int hi]) (rest := []) ⟨hx, hb, hml, hown, hts⟩ (c_Ar_rangeCheck l G (nI n) lo hi h_1 h_2 h_3) (va_cwS 3 hts (gi_S ml_Ar_13 sm_Ar_rangeCheck ini_Ar co_Ar_rangeCheck) rfl rfl rfl (by decide +kernel) ⟨Nat.le_of_ble_eq_true rfl, Nat.le_of_ble_eq_true rfl⟩) ⟨cp_blind, cp_pre hcx hS hPc⟩ rfl rfl hl.1 rfl (lv_room (Nat.le_of_ble_eq_true rfl)) d_Ar_fillB_4 ⟨Nat.le_of_ble_eq_true rfl, Nat.le_of_ble_eq_true rfl⟩) hS hP (fun H locs hP hS => ?_)
  refine lv_iload_n hx hb d_Ar_fillB_7 rfl (lv_at hl 1 rfl) ?_
  refine lv_istore (lv' := [(4, .int lo), (0, .ref aa), (1, .int lo), (2, .int hi), (3, .int vv)]) hx hb d_Ar_fillB_8 hl (by decide) rfl (fun ls hl => ?_)
  obtain ⟨n9, hw⟩ := hw
  exact l_Ar_fillB_10 G aa A post n hi vv hx hb hr hml hown hlocks hcx hA n9 lo f hw _ _ hP hD hS ls (lv_sub hl [1, 3, 4, 0] rfl)
theorem ar_fillB_loop {post : (Nat → Int32) → Prop} {n a b : Nat} {v : Int32} (g : Nat → Int32) (h1 : a ≤ b) (h2 : b ≤ n) (hn : n < 2 ^ 31) (hv : vp_nar .byte v = v) (H : post (ar_fill g a b v)) : ∃ m, wp_Ar_fillB_10 post n (nI b) v m (nI a) g := by
  refine Exists.elim (pk_loop (fun m i f => wp_Ar_fillB_10 post n (nI b) v m (nI i) f) (fun i f => a ≤ i ∧ f = ar_fill g a i v) b a g h1 ⟨Nat.le_refl _, ?_⟩ ?_ ?_) (fun m hm => ⟨m, hm⟩)
  · funext j
    unfold ar_fill
    rw [if_neg (by omega)]
  · intro m f hf
    unfold wp_Ar_fillB_10
    refine ⟨fun _ => ?_, fun h => absurd (nI_le (Nat.le_refl b) (by omega)) h⟩
    rw [hf.2]
    exact H
  · intro m i f hi hf ih
    unfold wp_Ar_fillB_10
    refine ⟨fun h => absurd h (nI_ge hi (by omega)), fun _ => ⟨vp_in_nI (by omega) hn, fun x ex y ey => ?_⟩⟩
    rw [nI_clamp (by omega)] at ex
    rw [ey, nI_1]
    refine ih _ ⟨by omega, ?_⟩
    rw [ex, hf.2, hv]
    funext j
    unfold ar_fill upd
    by_cases hj : j = i
    · subst hj
      rw [if_pos rfl, if_pos (by omega)]
    · rw [if_neg hj]
      dsimp only
      by_cases q : a ≤ j ∧ j < i
      · rw [if_pos q, if_pos (by omega)]
      · rw [if_neg q, if_neg (by omega)]

theorem c_Ar_fillB (l : Launch) (G : cxT) (aa : Nat) (n : Nat) (f : Nat → Int32) (lo : Int32) (hi : Int32) (vv : Int32) (sz : Nat) (h0 : ¬ lo < 0) (h1 : lo ≤ hi) (h2 : hi ≤ nI n) (h3 : n < 2147483648) (h4 : vp_nar .byte vv = vv) : Met l y_Ar_fillB [.code y_Ar_fillB b_Ar_fillB 5 none] ({ frames := 1, cells := 0, slots := 0, locals := 40 } : Room) (cm G [.ref aa, .int lo, .int hi, .int vv] [(aa, .inl (G.2.1 1, n, .inl f))] sz) (va_Qv (fun u => u = ar_fill f lo.toNatClampNeg hi.toNatClampNeg vv) (fun u t => va_P G.1 vwC [(aa, .inl (G.2.1 1, n, .inl u))] t.heap) (va_A [(aa, .inl (G.2.1 1, n, .inl f))] sz)) 0 0 (va_A [(aa, .inl (G.2.1 1, n, .inl f))] sz) :=
  t_Ar_fillB l G aa n f lo hi vv sz (fun u => u = ar_fill f lo.toNatClampNeg hi.toNatClampNeg vv) (by
    unfold wp_Ar_fillB
    obtain ⟨a, ha, rfl⟩ := nI_of h0
    obtain ⟨b, hb, rfl⟩ := nI_of (x := hi) (by rw [Int32.lt_iff_toInt_lt]; rw [Int32.le_iff_toInt_le, nI_toInt ha] at h1; have e : (0 : Int32).toInt = 0 := rfl; omega)
    rw [nI_leI ha hb] at h1
    rw [nI_leI hb h3] at h2
    refine ⟨nI_le h1 hb, nI_pos' ha, nI_le h2 h3, ?_⟩
    rw [nI_clamp ha, nI_clamp hb]
    exact ar_fillB_loop f h1 h2 h3 h4 rfl)
def wp_Ar_fillI_10 (post : (Nat → Int32) → Prop) (n : Nat) (hi : Int32) (vv : Int32) : Nat → Int32 → (Nat → Int32) → Prop
  | 0 => fun _ _ => False
  | n9 + 1 => fun x4 f => ((hi ≤ x4 → (post f)) ∧ (¬ hi ≤ x4 → ((vp_in x4 n) ∧ ∀ a_103 : Nat → Int32, a_103 = upd f x4.toNatClampNeg vv → (∀ x_104 : Int32, x_104 = x4 + 1 → (wp_Ar_fillI_10 post n hi vv n9 x_104 a_103)))))
set_option maxHeartbeats 4000000 in
set_option maxRecDepth 100000 in
theorem l_Ar_fillI_10 {p : Program} {l : Launch} {e : Env} {s : State} {m : MethodId} {args : Array Value} {below : List Frame} {meth : Method} {c : Code} (G : cxT) (aa : Nat) (A : Nat → Prop) (post : (Nat → Int32) → Prop) (n : Nat) (hi : Int32) (vv : Int32) (hx : p.tables.exec = Jvm.exec) (hb : c.code = b_Ar_fillI) (hr : meth.sig.returnType = none) (hml : c.maxLocals = 5) (hown : s.vm.findClass R_Ar = some m.cls) (hlocks : meth.locks = false) (hcx : cx G A s) (hA : ∀ q : Nat, s.heap.size ≤ q → A q) :
    ∀ (n9 : Nat) (x4 : Int32) (f : Nat → Int32), wp_Ar_fillI_10 post n hi vv n9 x4 f → ∀ (H : Heap) (locs : List Loc), va_P G.1 vwC [(aa, .inl (G.2.1 0, n, .inl f))] H → va_D A [(aa, .inl (G.2.1 0, n, .inl f))] → va_S A s.heap H locs → ∀ (ls : Array Slot), lv_has ls 5 [(0, .ref aa), (2, .int hi), (3, .int vv), (4, .int x4)] → W p l e (headSpec [.code y_Ar_fillI b_Ar_fillI 5 none] ({ frames := 1, cells := 0, slots := 0, locals := 40 } : Room)).room s m args below meth c H locs 0 0 (MQ below (va_Qv post (fun u t => va_P G.1 vwC [(aa, .inl (G.2.1 0, n, .inl u))] t.heap) A) args s 0 0 A) (F0 m 10 ls []) := by
  have hts := hcx.now.1 args
  have hK := hcx.now.2.1
  intro n9
  induction n9 with
  | zero =>
    intro x4 f hw
    exact hw.elim
  | succ n9 ih =>
    intro x4 f hw H locs hP hD hS ls hl
    unfold wp_Ar_fillI_10 at hw
    refine lv_iload hx hb d_Ar_fillI_10 (lv_at hl 3 rfl) ?_
    refine lv_iload_n hx hb d_Ar_fillI_12 rfl (lv_at hl 1 rfl) ?_
    refine lv_icmp_ge (tgt := 27) hx hb d_Ar_fillI_13 (by decide) (fun c_101 => ?_) (fun c_101 => ?_)
    · replace hw := hw.1 c_101
      exact W.vret hx hb hr (fun t ht hW => ⟨⟨f, rfl, hw, by have h9 := hP; rw [← ht] at h9; exact h9⟩, hS.F ht⟩) hS.2.2 d_Ar_fillI_27
    · replace hw := hw.2 c_101
      refine lv_aload_n hx hb d_Ar_fillI_16 rfl (lv_at hl 0 rfl) ?_
      refine lv_iload hx hb d_Ar_fillI_17 (lv_at hl 3 rfl) ?_
      refine lv_iload_n hx hb d_Ar_fillI_19 rfl (lv_at hl 2 rfl) ?_
      obtain ⟨h_102, hw⟩ := hw
      obtain ⟨a_103, ea_103⟩ : ∃ z, z = upd f x4.toNatClampNeg vv := ⟨_, rfl⟩
      replace hw := hw a_103 ea_103
      refine va_iast hx hb hK hP hD hS 0 0 rfl rfl h_102 d_Ar_fillI_20 (fun H locs hP hD hS => ?_)
      rw [← ea_103] at hP hD
      have hP : va_P G.1 vwC [(aa, .inl (G.2.1 0, n, .inl a_103))] H := hP
      have hD : va_D A [(aa, .inl (G.2.1 0, n, .inl a_103))] := hD
      obtain ⟨x_104, ex_104⟩ : ∃ y : Int32, y = x4 + 1 := ⟨_, rfl⟩
      replace hw := hw x_104 ex_104
      refine lv_iinc (v := x_104) (lv' := [(4, .int x_104), (0, .ref aa), (2, .int hi), (3, .int vv)]) hx hb d_Ar_fillI_21 hl (k := 3) rfl (by rw [ex_104]; rfl) (by decide) rfl (fun ls hl => ?_)
      refine lv_goto (tgt := 10) hx hb d_Ar_fillI_24 (by decide) ?_
      exact ih x_104 a_103 hw _ _ hP hD hS ls (lv_sub hl [1, 2, 3, 0] rfl)
def wp_Ar_fillI (post : (Nat → Int32) → Prop) (n : Nat) (f : Nat → Int32) (lo : Int32) (hi : Int32) (vv : Int32) : Prop := (lo ≤ hi) ∧ ((0 ≤ lo) ∧ ((hi ≤ (nI n)) ∧ (∃ n9 : Nat, wp_Ar_fillI_10 post n hi vv n9 lo f)))
set_option maxHeartbeats 4000000 in
set_option maxRecDepth 100000 in
theorem t_Ar_fillI (l : Launch) (G : cxT) (aa : Nat) (n : Nat) (f : Nat → Int32) (lo : Int32) (hi : Int32) (vv : Int32) (sz : Nat) (post : (Nat → Int32) → Prop) (hw : wp_Ar_fillI post n f lo hi vv) : Met l y_Ar_fillI [.code y_Ar_fillI b_Ar_fillI 5 none] ({ frames := 1, cells := 0, slots := 0, locals := 40 } : Room) (cm G [.ref aa, .int lo, .int hi, .int vv] [(aa, .inl (G.2.1 0, n, .inl f))] sz) (va_Qv post (fun u t => va_P G.1 vwC [(aa, .inl (G.2.1 0, n, .inl u))] t.heap) (va_A [(aa, .inl (G.2.1 0, n, .inl f))] sz)) 0 0 (va_A [(aa, .inl (G.2.1 0, n, .inl f))] sz) := by
  refine Met.ofW (cc := b_Ar_fillI) (maxL := 5) (ret := none) (by decide +kernel) rfl ?_
  intro p e s m args below meth c s₁ B hml hv
  obtain ⟨rfl, hsz, hcx, hP, hD0⟩ := hv
  have hx := B.exec
  have hb := B.bytes
  have hr := B.returns
  have hlocks := B.notSynchronized
  have hown : s.vm.findClass R_Ar = some m.cls := findClass_of_methodNamed B.named
  subst hsz
  have hD := hD0.self (sz := s.heap.size)
  generalize hAe : va_A [(aa, .inl (G.2.1 0, n, .inl f))] s.heap.size = A at hD hcx ⊢
  have hA : ∀ q : Nat, s.heap.size ≤ q → A q := fun q h => by rw [← hAe]; exact Or.inr h
  have hS : va_S A s.heap s.heap [] := va_S.rf
  have hts := hcx.now.1 [.ref aa, .int lo, .int hi, .int vv].toArray
  have hK := hcx.now.2.1
  have hl := lv_entry ([.ref aa, .int lo, .int hi, .int vv]) (n := 5) (Nat.le_of_ble_eq_true rfl)
  rw [lg_entry_eq]
  generalize (lg_sl ([.ref aa, .int lo, .int hi, .int vv]) ++ List.replicate (5 - (lg_sl ([.ref aa, .int lo, .int hi, .int vv])).length) Slot.unset).toArray = ls at hl ⊢
  have hl : lv_has ls 5 [(0, .ref aa), (1, .int lo), (2, .int hi), (3, .int vv)] := hl
  unfold wp_Ar_fillI at hw
  refine lv_aload_n hx hb d_Ar_fillI_0 rfl (lv_at hl 0 rfl) ?_
  refine va_alen (v := nI n) hx hb hK hP 0 0 rfl rfl rfl d_Ar_fillI_1 ?_
  refine lv_iload_n hx hb d_Ar_fillI_2 rfl (lv_at hl 1 rfl) ?_
  refine lv_iload_n hx hb d_Ar_fillI_3 rfl (lv_at hl 2 rfl) ?_
  obtain ⟨h_1, hw⟩ := hw
  obtain ⟨h_2, hw⟩ := hw
  obtain ⟨h_3, hw⟩ := hw
  have hPc := hP.sub (ws' := []) [] rfl
  refine pu_v (va_runS (As := [.int (nI n), .int lo, .int hi]) (rest := []) ⟨hx, hb, hml, hown, hts⟩ (c_Ar_rangeCheck l G (nI n) lo hi h_1 h_2 h_3) (va_cwS 3 hts (gi_S ml_Ar_13 sm_Ar_rangeCheck ini_Ar co_Ar_rangeCheck) rfl rfl rfl (by decide +kernel) ⟨Nat.le_of_ble_eq_true rfl, Nat.le_of_ble_eq_true rfl⟩) ⟨cp_blind, cp_pre hcx hS hPc⟩ rfl rfl hl.1 rfl (lv_room (Nat.le_of_ble_eq_true rfl)) d_Ar_fillI_4 ⟨Nat.le_of_ble_eq_true rfl, Nat.le_of_ble_eq_true rfl⟩) hS hP (fun H locs hP hS => ?_)
  refine lv_iload_n hx hb d_Ar_fillI_7 rfl (lv_at hl 1 rfl) ?_
  refine lv_istore (lv' := [(4, .int lo), (0, .ref aa), (1, .int lo), (2, .int hi), (3, .int vv)]) hx hb d_Ar_fillI_8 hl (by decide) rfl (fun ls hl => ?_)
  obtain ⟨n9, hw⟩ := hw
  exact l_Ar_fillI_10 G aa A post n hi vv hx hb hr hml hown hlocks hcx hA n9 lo f hw _ _ hP hD hS ls (lv_sub hl [1, 3, 4, 0] rfl)
theorem ar_fillI_loop {post : (Nat → Int32) → Prop} {n a b : Nat} {v : Int32} (g : Nat → Int32) (h1 : a ≤ b) (h2 : b ≤ n) (hn : n < 2 ^ 31) (H : post (ar_fill g a b v)) : ∃ m, wp_Ar_fillI_10 post n (nI b) v m (nI a) g := by
  refine Exists.elim (pk_loop (fun m i f => wp_Ar_fillI_10 post n (nI b) v m (nI i) f) (fun i f => a ≤ i ∧ f = ar_fill g a i v) b a g h1 ⟨Nat.le_refl _, ?_⟩ ?_ ?_) (fun m hm => ⟨m, hm⟩)
  · funext j
    unfold ar_fill
    rw [if_neg (by omega)]
  · intro m f hf
    unfold wp_Ar_fillI_10
    refine ⟨fun _ => ?_, fun h => absurd (nI_le (Nat.le_refl b) (by omega)) h⟩
    rw [hf.2]
    exact H
  · intro m i f hi hf ih
    unfold wp_Ar_fillI_10
    refine ⟨fun h => absurd h (nI_ge hi (by omega)), fun _ => ⟨vp_in_nI (by omega) hn, fun x ex y ey => ?_⟩⟩
    rw [nI_clamp (by omega)] at ex
    rw [ey, nI_1]
    refine ih _ ⟨by omega, ?_⟩
    rw [ex, hf.2]
    funext j
    unfold ar_fill upd
    by_cases hj : j = i
    · subst hj
      rw [if_pos rfl, if_pos (by omega)]
    · rw [if_neg hj]
      dsimp only
      by_cases q : a ≤ j ∧ j < i
      · rw [if_pos q, if_pos (by omega)]
      · rw [if_neg q, if_neg (by omega)]

theorem c_Ar_fillI (l : Launch) (G : cxT) (aa : Nat) (n : Nat) (f : Nat → Int32) (lo : Int32) (hi : Int32) (vv : Int32) (sz : Nat) (h0 : ¬ lo < 0) (h1 : lo ≤ hi) (h2 : hi ≤ nI n) (h3 : n < 2147483648) : Met l y_Ar_fillI [.code y_Ar_fillI b_Ar_fillI 5 none] ({ frames := 1, cells := 0, slots := 0, locals := 40 } : Room) (cm G [.ref aa, .int lo, .int hi, .int vv] [(aa, .inl (G.2.1 0, n, .inl f))] sz) (va_Qv (fun u => u = ar_fill f lo.toNatClampNeg hi.toNatClampNeg vv) (fun u t => va_P G.1 vwC [(aa, .inl (G.2.1 0, n, .inl u))] t.heap) (va_A [(aa, .inl (G.2.1 0, n, .inl f))] sz)) 0 0 (va_A [(aa, .inl (G.2.1 0, n, .inl f))] sz) :=
  t_Ar_fillI l G aa n f lo hi vv sz (fun u => u = ar_fill f lo.toNatClampNeg hi.toNatClampNeg vv) (by
    unfold wp_Ar_fillI
    obtain ⟨a, ha, rfl⟩ := nI_of h0
    obtain ⟨b, hb, rfl⟩ := nI_of (x := hi) (by rw [Int32.lt_iff_toInt_lt]; rw [Int32.le_iff_toInt_le, nI_toInt ha] at h1; have e : (0 : Int32).toInt = 0 := rfl; omega)
    rw [nI_leI ha hb] at h1
    rw [nI_leI hb h3] at h2
    refine ⟨nI_le h1 hb, nI_pos' ha, nI_le h2 h3, ?_⟩
    rw [nI_clamp ha, nI_clamp hb]
    exact ar_fillI_loop f h1 h2 h3 rfl)
def wp_Pm_unsigned (post : Int64 → Prop) (k : Int32) : Prop := post (k.toInt64 &&& 4294967295)
set_option maxHeartbeats 4000000 in
set_option maxRecDepth 100000 in
theorem t_Pm_unsigned (l : Launch) (G : cxT) (k : Int32) (post : Int64 → Prop) (hw : wp_Pm_unsigned post k) : Met l y_Pm_unsigned [.code y_Pm_unsigned b_Pm_unsigned 1 (some .long)] ({ frames := 0, cells := 0, slots := 0, locals := 0 } : Room) (cp G [.int k] []) (va_Ql (fun r (_ : Unit) => post r) (fun _ _ => True) (fun _ => False)) 0 0 (fun _ => False) := by
  refine Met.ofW (cc := b_Pm_unsigned) (maxL := 1) (ret := (some .long)) (by decide +kernel) rfl ?_
  intro p e s m args below meth c s₁ B hml hv
  obtain ⟨rfl, hcx, hP⟩ := hv
  have hx := B.exec
  have hb := B.bytes
  have hr := B.returns
  have hlocks := B.notSynchronized
  have hown : s.vm.findClass R_Pm = some m.cls := findClass_of_methodNamed B.named
  have hS : va_S (fun _ => False) s.heap s.heap [] := va_S.rf
  have hts := hcx.now.1 [.int k].toArray
  have hK := hcx.now.2.1
  have hl := lv_entry ([.int k]) (n := 1) (Nat.le_of_ble_eq_true rfl)
  rw [lg_entry_eq]
  generalize (lg_sl ([.int k]) ++ List.replicate (1 - (lg_sl ([.int k])).length) Slot.unset).toArray = ls at hl ⊢
  have hl : lv_has ls 1 [(0, .int k)] := hl
  unfold wp_Pm_unsigned at hw
  refine lv_iload_n hx hb d_Pm_unsigned_0 rfl (lv_at hl 0 rfl) ?_
  refine lv_i2l (v := k.toInt64) hx hb d_Pm_unsigned_1 rfl ?_
  refine lv_ldc2 (v := 4294967295) hx hb hown (hts _ k_Pm_181) d_Pm_unsigned_2 ?_
  refine lv_land hx hb d_Pm_unsigned_5 ?_
  exact W.lret (v := k.toInt64 &&& 4294967295) hx hb hr (fun t ht hW => ⟨⟨k.toInt64 &&& 4294967295, (), rfl, hw, trivial⟩, hS.F ht⟩) hS.2.2 d_Pm_unsigned_6
theorem c_Pm_unsigned (l : Launch) (G : cxT) (k : Int32) : Met l y_Pm_unsigned [.code y_Pm_unsigned b_Pm_unsigned 1 (some .long)] ({ frames := 0, cells := 0, slots := 0, locals := 0 } : Room) (cp G [.int k] []) (va_Ql (fun r (_ : Unit) => (fun r => r = (u32 k)) r) (fun _ _ => True) (fun _ => False)) 0 0 (fun _ => False) :=
  t_Pm_unsigned l G k (fun r => r = (u32 k)) (by
    exact rfl)
def wp_Pm_isReference (post : Int32 → Prop) (rf : Int32) : Prop := ((rf < (-1) → (post 0)) ∧ (¬ rf < (-1) → (post 1)))
set_option maxHeartbeats 4000000 in
set_option maxRecDepth 100000 in
theorem t_Pm_isReference (l : Launch) (G : cxT) (rf : Int32) (post : Int32 → Prop) (hw : wp_Pm_isReference post rf) : Met l y_Pm_isReference [.code y_Pm_isReference b_Pm_isReference 1 (some .boolean)] ({ frames := 0, cells := 0, slots := 0, locals := 0 } : Room) (cp G [.int rf] []) (va_Qi (fun r (_ : Unit) => post r) (fun _ _ => True) (fun _ => False)) 0 0 (fun _ => False) := by
  refine Met.ofW (cc := b_Pm_isReference) (maxL := 1) (ret := (some .boolean)) (by decide +kernel) rfl ?_
  intro p e s m args below meth c s₁ B hml hv
  obtain ⟨rfl, hcx, hP⟩ := hv
  have hx := B.exec
  have hb := B.bytes
  have hr := B.returns
  have hlocks := B.notSynchronized
  have hown : s.vm.findClass R_Pm = some m.cls := findClass_of_methodNamed B.named
  have hS : va_S (fun _ => False) s.heap s.heap [] := va_S.rf
  have hts := hcx.now.1 [.int rf].toArray
  have hK := hcx.now.2.1
  have hl := lv_entry ([.int rf]) (n := 1) (Nat.le_of_ble_eq_true rfl)
  rw [lg_entry_eq]
  generalize (lg_sl ([.int rf]) ++ List.replicate (1 - (lg_sl ([.int rf])).length) Slot.unset).toArray = ls at hl ⊢
  have hl : lv_has ls 1 [(0, .int rf)] := hl
  unfold wp_Pm_isReference at hw
  refine lv_iload_n hx hb d_Pm_isReference_0 rfl (lv_at hl 0 rfl) ?_
  refine lv_iconst (v := (-1)) hx hb d_Pm_isReference_1 (by decide) ?_
  refine lv_icmp_lt (tgt := 9) hx hb d_Pm_isReference_2 (by decide) (fun c_1 => ?_) (fun c_1 => ?_)
  · replace hw := hw.1 c_1
    refine lv_iconst (v := 0) hx hb d_Pm_isReference_9 (by decide) ?_
    exact W.zret (v := 0) (ty := .boolean) hx hb hr rfl (fun t ht hW => ⟨⟨0, (), rfl, hw, trivial⟩, hS.F ht⟩) hS.2.2 d_Pm_isReference_10
  · replace hw := hw.2 c_1
    refine lv_iconst (v := 1) hx hb d_Pm_isReference_5 (by decide) ?_
    refine lv_goto (tgt := 10) hx hb d_Pm_isReference_6 (by decide) ?_
    exact W.zret (v := 1) (ty := .boolean) hx hb hr rfl (fun t ht hW => ⟨⟨1, (), rfl, hw, trivial⟩, hS.F ht⟩) hS.2.2 d_Pm_isReference_10
theorem c_Pm_isReference (l : Launch) (G : cxT) (rf : Int32) : Met l y_Pm_isReference [.code y_Pm_isReference b_Pm_isReference 1 (some .boolean)] ({ frames := 0, cells := 0, slots := 0, locals := 0 } : Room) (cp G [.int rf] []) (va_Qi (fun r (_ : Unit) => (fun r => r = (is_ref rf)) r) (fun _ _ => True) (fun _ => False)) 0 0 (fun _ => False) :=
  t_Pm_isReference l G rf (fun r => r = (is_ref rf)) (by
    unfold wp_Pm_isReference is_ref
    exact ⟨fun c1 => by simp [c1], fun c1 => by simp [c1]⟩)
def wp_Pm_widthOf_0 (post : Int32 → Prop) (op : Int32) (fst : Int32) : Prop := ((op < fst → (post 0)) ∧ (¬ op < fst → (((op - fst < nI 14 → ((vp_in (op - fst) 14) ∧ (post (wLoad (op - fst).toNatClampNeg)))) ∧ (¬ op - fst < nI 14 → (post 0))))))
set_option maxHeartbeats 4000000 in
set_option maxRecDepth 100000 in
theorem t_Pm_widthOf_0 (l : Launch) (G : cxT) (op : Int32) (fst : Int32) (post : Int32 → Prop) (hw : wp_Pm_widthOf_0 post op fst) : Met l y_Pm_widthOf [.code y_Pm_widthOf b_Pm_widthOf 3 (some .int)] ({ frames := 0, cells := 0, slots := 0, locals := 0 } : Room) (cp G [.int op, .int fst, .ref (G.2.2 0)] []) (va_Qi (fun r (_ : Unit) => post r) (fun _ _ => True) (fun _ => False)) 0 0 (fun _ => False) := by
  refine Met.ofW (cc := b_Pm_widthOf) (maxL := 3) (ret := (some .int)) (by decide +kernel) rfl ?_
  intro p e s m args below meth c s₁ B hml hv
  obtain ⟨rfl, hcx, hP⟩ := hv
  have hx := B.exec
  have hb := B.bytes
  have hr := B.returns
  have hlocks := B.notSynchronized
  have hown : s.vm.findClass R_Pm = some m.cls := findClass_of_methodNamed B.named
  have hS : va_S (fun _ => False) s.heap s.heap [] := va_S.rf
  have hts := hcx.now.1 [.int op, .int fst, .ref (G.2.2 0)].toArray
  have hK := hcx.now.2.1
  have hT := hcx.now.2.2.2.2.1.2
  have hl := lv_entry ([.int op, .int fst, .ref (G.2.2 0)]) (n := 3) (Nat.le_of_ble_eq_true rfl)
  rw [lg_entry_eq]
  generalize (lg_sl ([.int op, .int fst, .ref (G.2.2 0)]) ++ List.replicate (3 - (lg_sl ([.int op, .int fst, .ref (G.2.2 0)])).length) Slot.unset).toArray = ls at hl ⊢
  have hl : lv_has ls 3 [(0, .int op), (1, .int fst), (2, .ref (G.2.2 0))] := hl
  unfold wp_Pm_widthOf_0 at hw
  refine lv_iload_n hx hb d_Pm_widthOf_0 rfl (lv_at hl 0 rfl) ?_
  refine lv_iload_n hx hb d_Pm_widthOf_1 rfl (lv_at hl 1 rfl) ?_
  refine lv_icmp_lt (tgt := 13) hx hb d_Pm_widthOf_2 (by decide) (fun c_1 => ?_) (fun c_1 => ?_)
  · replace hw := hw.1 c_1
    refine lv_iconst (v := 0) hx hb d_Pm_widthOf_13 (by decide) ?_
    exact W.iret (v := 0) hx hb hr (fun t ht hW => ⟨⟨0, (), rfl, hw, trivial⟩, hS.F ht⟩) hS.2.2 d_Pm_widthOf_14
  · replace hw := hw.2 c_1
    refine lv_iload_n hx hb d_Pm_widthOf_5 rfl (lv_at hl 0 rfl) ?_
    refine lv_iload_n hx hb d_Pm_widthOf_6 rfl (lv_at hl 1 rfl) ?_
    refine lv_isub hx hb d_Pm_widthOf_7 ?_
    refine lv_aload_n hx hb d_Pm_widthOf_8 rfl (lv_at hl 2 rfl) ?_
    refine va_tlen (v := nI 14) hx hb hT hS rfl d_Pm_widthOf_9 ?_
    refine lv_icmp_lt (tgt := 15) hx hb d_Pm_widthOf_10 (by decide) (fun c_2 => ?_) (fun c_2 => ?_)
    · replace hw := hw.1 c_2
      refine lv_aload_n hx hb d_Pm_widthOf_15 rfl (lv_at hl 2 rfl) ?_
      refine lv_iload_n hx hb d_Pm_widthOf_16 rfl (lv_at hl 0 rfl) ?_
      refine lv_iload_n hx hb d_Pm_widthOf_17 rfl (lv_at hl 1 rfl) ?_
      refine lv_isub hx hb d_Pm_widthOf_18 ?_
      obtain ⟨h_3, hw⟩ := hw
      refine va_ti (v := .int (wLoad (op - fst).toNatClampNeg)) hx hb hT hS h_3 rfl d_Pm_widthOf_19 ?_
      exact W.iret (v := wLoad (op - fst).toNatClampNeg) hx hb hr (fun t ht hW => ⟨⟨wLoad (op - fst).toNatClampNeg, (), rfl, hw, trivial⟩, hS.F ht⟩) hS.2.2 d_Pm_widthOf_20
    · replace hw := hw.2 c_2
      refine lv_iconst (v := 0) hx hb d_Pm_widthOf_13 (by decide) ?_
      exact W.iret (v := 0) hx hb hr (fun t ht hW => ⟨⟨0, (), rfl, hw, trivial⟩, hS.F ht⟩) hS.2.2 d_Pm_widthOf_14
theorem c_Pm_widthOf_0 (l : Launch) (G : cxT) (op : Int32) (fst : Int32) (h0 : 0 ≤ fst.toInt) : Met l y_Pm_widthOf [.code y_Pm_widthOf b_Pm_widthOf 3 (some .int)] ({ frames := 0, cells := 0, slots := 0, locals := 0 } : Room) (cp G [.int op, .int fst, .ref (G.2.2 0)] []) (va_Qi (fun r (_ : Unit) => (fun r => r = (w_of op fst 14 wLoad)) r) (fun _ _ => True) (fun _ => False)) 0 0 (fun _ => False) :=
  t_Pm_widthOf_0 l G op fst (fun r => r = (w_of op fst 14 wLoad)) (by
    unfold wp_Pm_widthOf_0 w_of
    exact ⟨fun c1 => by simp [c1], fun c1 => ⟨fun c2 => ⟨w_of_in c1 c2 h0 (by decide), by simp [c1, c2]⟩, fun c2 => by simp [c1, c2]⟩⟩)
def wp_Pm_widthOf_1 (post : Int32 → Prop) (op : Int32) (fst : Int32) : Prop := ((op < fst → (post 0)) ∧ (¬ op < fst → (((op - fst < nI 9 → ((vp_in (op - fst) 9) ∧ (post (wStore (op - fst).toNatClampNeg)))) ∧ (¬ op - fst < nI 9 → (post 0))))))
set_option maxHeartbeats 4000000 in
set_option maxRecDepth 100000 in
theorem t_Pm_widthOf_1 (l : Launch) (G : cxT) (op : Int32) (fst : Int32) (post : Int32 → Prop) (hw : wp_Pm_widthOf_1 post op fst) : Met l y_Pm_widthOf [.code y_Pm_widthOf b_Pm_widthOf 3 (some .int)] ({ frames := 0, cells := 0, slots := 0, locals := 0 } : Room) (cp G [.int op, .int fst, .ref (G.2.2 1)] []) (va_Qi (fun r (_ : Unit) => post r) (fun _ _ => True) (fun _ => False)) 0 0 (fun _ => False) := by
  refine Met.ofW (cc := b_Pm_widthOf) (maxL := 3) (ret := (some .int)) (by decide +kernel) rfl ?_
  intro p e s m args below meth c s₁ B hml hv
  obtain ⟨rfl, hcx, hP⟩ := hv
  have hx := B.exec
  have hb := B.bytes
  have hr := B.returns
  have hlocks := B.notSynchronized
  have hown : s.vm.findClass R_Pm = some m.cls := findClass_of_methodNamed B.named
  have hS : va_S (fun _ => False) s.heap s.heap [] := va_S.rf
  have hts := hcx.now.1 [.int op, .int fst, .ref (G.2.2 1)].toArray
  have hK := hcx.now.2.1
  have hT := hcx.now.2.2.2.2.2.1.2
  have hl := lv_entry ([.int op, .int fst, .ref (G.2.2 1)]) (n := 3) (Nat.le_of_ble_eq_true rfl)
  rw [lg_entry_eq]
  generalize (lg_sl ([.int op, .int fst, .ref (G.2.2 1)]) ++ List.replicate (3 - (lg_sl ([.int op, .int fst, .ref (G.2.2 1)])).length) Slot.unset).toArray = ls at hl ⊢
  have hl : lv_has ls 3 [(0, .int op), (1, .int fst), (2, .ref (G.2.2 1))] := hl
  unfold wp_Pm_widthOf_1 at hw
  refine lv_iload_n hx hb d_Pm_widthOf_0 rfl (lv_at hl 0 rfl) ?_
  refine lv_iload_n hx hb d_Pm_widthOf_1 rfl (lv_at hl 1 rfl) ?_
  refine lv_icmp_lt (tgt := 13) hx hb d_Pm_widthOf_2 (by decide) (fun c_1 => ?_) (fun c_1 => ?_)
  · replace hw := hw.1 c_1
    refine lv_iconst (v := 0) hx hb d_Pm_widthOf_13 (by decide) ?_
    exact W.iret (v := 0) hx hb hr (fun t ht hW => ⟨⟨0, (), rfl, hw, trivial⟩, hS.F ht⟩) hS.2.2 d_Pm_widthOf_14
  · replace hw := hw.2 c_1
    refine lv_iload_n hx hb d_Pm_widthOf_5 rfl (lv_at hl 0 rfl) ?_
    refine lv_iload_n hx hb d_Pm_widthOf_6 rfl (lv_at hl 1 rfl) ?_
    refine lv_isub hx hb d_Pm_widthOf_7 ?_
    refine lv_aload_n hx hb d_Pm_widthOf_8 rfl (lv_at hl 2 rfl) ?_
    refine va_tlen (v := nI 9) hx hb hT hS rfl d_Pm_widthOf_9 ?_
    refine lv_icmp_lt (tgt := 15) hx hb d_Pm_widthOf_10 (by decide) (fun c_2 => ?_) (fun c_2 => ?_)
    · replace hw := hw.1 c_2
      refine lv_aload_n hx hb d_Pm_widthOf_15 rfl (lv_at hl 2 rfl) ?_
      refine lv_iload_n hx hb d_Pm_widthOf_16 rfl (lv_at hl 0 rfl) ?_
      refine lv_iload_n hx hb d_Pm_widthOf_17 rfl (lv_at hl 1 rfl) ?_
      refine lv_isub hx hb d_Pm_widthOf_18 ?_
      obtain ⟨h_3, hw⟩ := hw
      refine va_ti (v := .int (wStore (op - fst).toNatClampNeg)) hx hb hT hS h_3 rfl d_Pm_widthOf_19 ?_
      exact W.iret (v := wStore (op - fst).toNatClampNeg) hx hb hr (fun t ht hW => ⟨⟨wStore (op - fst).toNatClampNeg, (), rfl, hw, trivial⟩, hS.F ht⟩) hS.2.2 d_Pm_widthOf_20
    · replace hw := hw.2 c_2
      refine lv_iconst (v := 0) hx hb d_Pm_widthOf_13 (by decide) ?_
      exact W.iret (v := 0) hx hb hr (fun t ht hW => ⟨⟨0, (), rfl, hw, trivial⟩, hS.F ht⟩) hS.2.2 d_Pm_widthOf_14
theorem c_Pm_widthOf_1 (l : Launch) (G : cxT) (op : Int32) (fst : Int32) (h0 : 0 ≤ fst.toInt) : Met l y_Pm_widthOf [.code y_Pm_widthOf b_Pm_widthOf 3 (some .int)] ({ frames := 0, cells := 0, slots := 0, locals := 0 } : Room) (cp G [.int op, .int fst, .ref (G.2.2 1)] []) (va_Qi (fun r (_ : Unit) => (fun r => r = (w_of op fst 9 wStore)) r) (fun _ _ => True) (fun _ => False)) 0 0 (fun _ => False) :=
  t_Pm_widthOf_1 l G op fst (fun r => r = (w_of op fst 9 wStore)) (by
    unfold wp_Pm_widthOf_1 w_of
    exact ⟨fun c1 => by simp [c1], fun c1 => ⟨fun c2 => ⟨w_of_in c1 c2 h0 (by decide), by simp [c1, c2]⟩, fun c2 => by simp [c1, c2]⟩⟩)
def wp_Pm_extended (post : Int64 → Prop) (op : Int32) (vv : Int64) : Prop := ((op = 44 → (post (vv.toInt32.toInt8.toInt32.toInt64 &&& 4294967295))) ∧ (¬ op = 44 → (((op = 45 → (post vv)) ∧ (¬ op = 45 → (((op = 46 → (post (vv.toInt32.toInt16.toInt32.toInt64 &&& 4294967295))) ∧ (¬ op = 46 → (((op = 47 → (post vv)) ∧ (¬ op = 47 → (((op = 48 → (post vv.toInt32.toInt8.toInt32.toInt64)) ∧ (¬ op = 48 → (((op = 49 → (post vv)) ∧ (¬ op = 49 → (((op = 50 → (post vv.toInt32.toInt16.toInt32.toInt64)) ∧ (¬ op = 50 → (((op = 51 → (post vv)) ∧ (¬ op = 51 → (((op = 52 → (post vv.toInt32.toInt64)) ∧ (¬ op = 52 → (post vv)))))))))))))))))))))))))))
set_option maxHeartbeats 4000000 in
set_option maxRecDepth 100000 in
theorem t_Pm_extended (l : Launch) (G : cxT) (op : Int32) (vv : Int64) (post : Int64 → Prop) (hw : wp_Pm_extended post op vv) : Met l y_Pm_extended [.code y_Pm_extended b_Pm_extended 3 (some .long)] ({ frames := 0, cells := 0, slots := 0, locals := 0 } : Room) (cp G [.int op, .long vv] []) (va_Ql (fun r (_ : Unit) => post r) (fun _ _ => True) (fun _ => False)) 0 0 (fun _ => False) := by
  refine Met.ofW (cc := b_Pm_extended) (maxL := 3) (ret := (some .long)) (by decide +kernel) rfl ?_
  intro p e s m args below meth c s₁ B hml hv
  obtain ⟨rfl, hcx, hP⟩ := hv
  have hx := B.exec
  have hb := B.bytes
  have hr := B.returns
  have hlocks := B.notSynchronized
  have hown : s.vm.findClass R_Pm = some m.cls := findClass_of_methodNamed B.named
  have hS : va_S (fun _ => False) s.heap s.heap [] := va_S.rf
  have hts := hcx.now.1 [.int op, .long vv].toArray
  have hK := hcx.now.2.1
  have hl := lv_entry ([.int op, .long vv]) (n := 3) (Nat.le_of_ble_eq_true rfl)
  rw [lg_entry_eq]
  generalize (lg_sl ([.int op, .long vv]) ++ List.replicate (3 - (lg_sl ([.int op, .long vv])).length) Slot.unset).toArray = ls at hl ⊢
  have hl : lv_has ls 3 [(0, .int op), (1, .long vv)] := hl
  unfold wp_Pm_extended at hw
  refine lv_iload_n hx hb d_Pm_extended_0 rfl (lv_at hl 0 rfl) ?_
  by_cases c_1 : op = 44
  · replace hw := hw.1 c_1
    refine lv_tableIn (tgt := 52) hx hb d_Pm_extended_1 (by rw [c_1]; decide) (by rw [c_1]; decide) (by rw [c_1]; rfl) (by decide) ?_
    refine lv_lload_n hx hb d_Pm_extended_52 rfl (lv_at hl 1 rfl) ?_
    refine lv_l2i (v := vv.toInt32) hx hb d_Pm_extended_53 rfl ?_
    refine lv_i2b (v := vv.toInt32.toInt8.toInt32) hx hb d_Pm_extended_54 rfl ?_
    refine lv_i2l (v := vv.toInt32.toInt8.toInt32.toInt64) hx hb d_Pm_extended_55 rfl ?_
    refine lv_ldc2 (v := 4294967295) hx hb hown (hts _ k_Pm_181) d_Pm_extended_56 ?_
    refine lv_land hx hb d_Pm_extended_59 ?_
    exact W.lret (v := vv.toInt32.toInt8.toInt32.toInt64 &&& 4294967295) hx hb hr (fun t ht hW => ⟨⟨vv.toInt32.toInt8.toInt32.toInt64 &&& 4294967295, (), rfl, hw, trivial⟩, hS.F ht⟩) hS.2.2 d_Pm_extended_60
  · replace hw := hw.2 c_1
    by_cases c_2 : op = 45
    · replace hw := hw.1 c_2
      refine lv_tableIn (tgt := 84) hx hb d_Pm_extended_1 (by rw [c_2]; decide) (by rw [c_2]; decide) (by rw [c_2]; rfl) (by decide) ?_
      refine lv_lload_n hx hb d_Pm_extended_84 rfl (lv_at hl 1 rfl) ?_
      exact W.lret (v := vv) hx hb hr (fun t ht hW => ⟨⟨vv, (), rfl, hw, trivial⟩, hS.F ht⟩) hS.2.2 d_Pm_extended_85
    · replace hw := hw.2 c_2
      by_cases c_3 : op = 46
      · replace hw := hw.1 c_3
        refine lv_tableIn (tgt := 61) hx hb d_Pm_extended_1 (by rw [c_3]; decide) (by rw [c_3]; decide) (by rw [c_3]; rfl) (by decide) ?_
        refine lv_lload_n hx hb d_Pm_extended_61 rfl (lv_at hl 1 rfl) ?_
        refine lv_l2i (v := vv.toInt32) hx hb d_Pm_extended_62 rfl ?_
        refine lv_i2s (v := vv.toInt32.toInt16.toInt32) hx hb d_Pm_extended_63 rfl ?_
        refine lv_i2l (v := vv.toInt32.toInt16.toInt32.toInt64) hx hb d_Pm_extended_64 rfl ?_
        refine lv_ldc2 (v := 4294967295) hx hb hown (hts _ k_Pm_181) d_Pm_extended_65 ?_
        refine lv_land hx hb d_Pm_extended_68 ?_
        exact W.lret (v := vv.toInt32.toInt16.toInt32.toInt64 &&& 4294967295) hx hb hr (fun t ht hW => ⟨⟨vv.toInt32.toInt16.toInt32.toInt64 &&& 4294967295, (), rfl, hw, trivial⟩, hS.F ht⟩) hS.2.2 d_Pm_extended_69
      · replace hw := hw.2 c_3
        by_cases c_4 : op = 47
        · replace hw := hw.1 c_4
          refine lv_tableIn (tgt := 84) hx hb d_Pm_extended_1 (by rw [c_4]; decide) (by rw [c_4]; decide) (by rw [c_4]; rfl) (by decide) ?_
          refine lv_lload_n hx hb d_Pm_extended_84 rfl (lv_at hl 1 rfl) ?_
          exact W.lret (v := vv) hx hb hr (fun t ht hW => ⟨⟨vv, (), rfl, hw, trivial⟩, hS.F ht⟩) hS.2.2 d_Pm_extended_85
        · replace hw := hw.2 c_4
          by_cases c_5 : op = 48
          · replace hw := hw.1 c_5
            refine lv_tableIn (tgt := 70) hx hb d_Pm_extended_1 (by rw [c_5]; decide) (by rw [c_5]; decide) (by rw [c_5]; rfl) (by decide) ?_
            refine lv_lload_n hx hb d_Pm_extended_70 rfl (lv_at hl 1 rfl) ?_
            refine lv_l2i (v := vv.toInt32) hx hb d_Pm_extended_71 rfl ?_
            refine lv_i2b (v := vv.toInt32.toInt8.toInt32) hx hb d_Pm_extended_72 rfl ?_
            refine lv_i2l (v := vv.toInt32.toInt8.toInt32.toInt64) hx hb d_Pm_extended_73 rfl ?_
            exact W.lret (v := vv.toInt32.toInt8.toInt32.toInt64) hx hb hr (fun t ht hW => ⟨⟨vv.toInt32.toInt8.toInt32.toInt64, (), rfl, hw, trivial⟩, hS.F ht⟩) hS.2.2 d_Pm_extended_74
          · replace hw := hw.2 c_5
            by_cases c_6 : op = 49
            · replace hw := hw.1 c_6
              refine lv_tableIn (tgt := 84) hx hb d_Pm_extended_1 (by rw [c_6]; decide) (by rw [c_6]; decide) (by rw [c_6]; rfl) (by decide) ?_
              refine lv_lload_n hx hb d_Pm_extended_84 rfl (lv_at hl 1 rfl) ?_
              exact W.lret (v := vv) hx hb hr (fun t ht hW => ⟨⟨vv, (), rfl, hw, trivial⟩, hS.F ht⟩) hS.2.2 d_Pm_extended_85
            · replace hw := hw.2 c_6
              by_cases c_7 : op = 50
              · replace hw := hw.1 c_7
                refine lv_tableIn (tgt := 75) hx hb d_Pm_extended_1 (by rw [c_7]; decide) (by rw [c_7]; decide) (by rw [c_7]; rfl) (by decide) ?_
                refine lv_lload_n hx hb d_Pm_extended_75 rfl (lv_at hl 1 rfl) ?_
                refine lv_l2i (v := vv.toInt32) hx hb d_Pm_extended_76 rfl ?_
                refine lv_i2s (v := vv.toInt32.toInt16.toInt32) hx hb d_Pm_extended_77 rfl ?_
                refine lv_i2l (v := vv.toInt32.toInt16.toInt32.toInt64) hx hb d_Pm_extended_78 rfl ?_
                exact W.lret (v := vv.toInt32.toInt16.toInt32.toInt64) hx hb hr (fun t ht hW => ⟨⟨vv.toInt32.toInt16.toInt32.toInt64, (), rfl, hw, trivial⟩, hS.F ht⟩) hS.2.2 d_Pm_extended_79
              · replace hw := hw.2 c_7
                by_cases c_8 : op = 51
                · replace hw := hw.1 c_8
                  refine lv_tableIn (tgt := 84) hx hb d_Pm_extended_1 (by rw [c_8]; decide) (by rw [c_8]; decide) (by rw [c_8]; rfl) (by decide) ?_
                  refine lv_lload_n hx hb d_Pm_extended_84 rfl (lv_at hl 1 rfl) ?_
                  exact W.lret (v := vv) hx hb hr (fun t ht hW => ⟨⟨vv, (), rfl, hw, trivial⟩, hS.F ht⟩) hS.2.2 d_Pm_extended_85
                · replace hw := hw.2 c_8
                  by_cases c_9 : op = 52
                  · replace hw := hw.1 c_9
                    refine lv_tableIn (tgt := 80) hx hb d_Pm_extended_1 (by rw [c_9]; decide) (by rw [c_9]; decide) (by rw [c_9]; rfl) (by decide) ?_
                    refine lv_lload_n hx hb d_Pm_extended_80 rfl (lv_at hl 1 rfl) ?_
                    refine lv_l2i (v := vv.toInt32) hx hb d_Pm_extended_81 rfl ?_
                    refine lv_i2l (v := vv.toInt32.toInt64) hx hb d_Pm_extended_82 rfl ?_
                    exact W.lret (v := vv.toInt32.toInt64) hx hb hr (fun t ht hW => ⟨⟨vv.toInt32.toInt64, (), rfl, hw, trivial⟩, hS.F ht⟩) hS.2.2 d_Pm_extended_83
                  · replace hw := hw.2 c_9
                    have nc_1 := lv_neT (a := 44) c_1 (by decide)
                    have nc_2 := lv_neT (a := 45) c_2 (by decide)
                    have nc_3 := lv_neT (a := 46) c_3 (by decide)
                    have nc_4 := lv_neT (a := 47) c_4 (by decide)
                    have nc_5 := lv_neT (a := 48) c_5 (by decide)
                    have nc_6 := lv_neT (a := 49) c_6 (by decide)
                    have nc_7 := lv_neT (a := 50) c_7 (by decide)
                    have nc_8 := lv_neT (a := 51) c_8 (by decide)
                    have nc_9 := lv_neT (a := 52) c_9 (by decide)
                    refine lv_tableOut (tgt := 84) hx hb d_Pm_extended_1 (by omega) (by decide) ?_
                    refine lv_lload_n hx hb d_Pm_extended_84 rfl (lv_at hl 1 rfl) ?_
                    exact W.lret (v := vv) hx hb hr (fun t ht hW => ⟨⟨vv, (), rfl, hw, trivial⟩, hS.F ht⟩) hS.2.2 d_Pm_extended_85
theorem c_Pm_extended (l : Launch) (G : cxT) (op : Int32) (vv : Int64) : Met l y_Pm_extended [.code y_Pm_extended b_Pm_extended 3 (some .long)] ({ frames := 0, cells := 0, slots := 0, locals := 0 } : Room) (cp G [.int op, .long vv] []) (va_Ql (fun r (_ : Unit) => (fun r => r = (ext_of op vv)) r) (fun _ _ => True) (fun _ => False)) 0 0 (fun _ => False) :=
  t_Pm_extended l G op vv (fun r => r = (ext_of op vv)) (by
    unfold wp_Pm_extended ext_of
    refine ⟨fun h => ?_, fun h => ⟨fun h1 => ?_, fun h1 => ⟨fun h2 => ?_, fun h2 => ⟨fun h3 => ?_, fun h3 => ⟨fun h4 => ?_, fun h4 => ⟨fun h5 => ?_, fun h5 => ⟨fun h6 => ?_, fun h6 => ⟨fun h7 => ?_, fun h7 => ⟨fun h8 => ?_, fun h8 => ?_⟩⟩⟩⟩⟩⟩⟩⟩⟩ <;> simp [*])
end
section
/-! ===== the words of a throw ===== -/
abbrev EXN : List String := ["java/lang/RuntimeException", "java/lang/Exception"]
theorem ow_ill : ∀ w ∈ Cond.classLink R_Pm 106 E_ill :: Cond.initialized E_ill :: Bundle.ownAtoms R_Pm 110 E_ill EXN, (w ∈ lw_tbl ∧ goodWord w = true) ∨ w ∈ hw4 := by decide +kernel
theorem ow_uns : ∀ w ∈ Cond.classLink R_Pm 173 E_uns :: Cond.initialized E_uns :: Bundle.ownAtoms R_Pm 177 E_uns EXN, (w ∈ lw_tbl ∧ goodWord w = true) ∨ w ∈ hw4 := by decide +kernel

theorem tw_ill_108 {G : cxT} {A : Nat → Prop} (V : State) (h : cxP G A V) : (∀ (a : Array Value) (w : Cond), w ∈ Cond.classLink R_Pm 106 E_ill :: Cond.initialized E_ill :: Bundle.ownAtoms R_Pm 110 E_ill EXN → w.before a V = true) ∧ ∃ sa, vk_R R_Pm 108 "no such memory or load operator" sa V :=
  ⟨fun a w hw => (ow_ill w hw).elim (fun q => h.1 a w (List.mem_filter.mpr q)) (fun q => h.2.2.1 a w q), h.2.2.2.1 (108, "no such memory or load operator") (by decide)⟩
theorem tw_uns_175 {G : cxT} {A : Nat → Prop} (V : State) (h : cxP G A V) : (∀ (a : Array Value) (w : Cond), w ∈ Cond.classLink R_Pm 173 E_uns :: Cond.initialized E_uns :: Bundle.ownAtoms R_Pm 177 E_uns EXN → w.before a V = true) ∧ ∃ sa, vk_R R_Pm 175 "beyond an end" sa V :=
  ⟨fun a w hw => (ow_uns w hw).elim (fun q => h.1 a w (List.mem_filter.mpr q)) (fun q => h.2.2.1 a w q), h.2.2.2.1 (175, "beyond an end") (by decide)⟩
theorem tw_ill_126 {G : cxT} {A : Nat → Prop} (V : State) (h : cxP G A V) : (∀ (a : Array Value) (w : Cond), w ∈ Cond.classLink R_Pm 106 E_ill :: Cond.initialized E_ill :: Bundle.ownAtoms R_Pm 110 E_ill EXN → w.before a V = true) ∧ ∃ sa, vk_R R_Pm 126 "no such memory or store operator" sa V :=
  ⟨fun a w hw => (ow_ill w hw).elim (fun q => h.1 a w (List.mem_filter.mpr q)) (fun q => h.2.2.1 a w q), h.2.2.2.1 (126, "no such memory or store operator") (by decide)⟩
theorem tw_ill_132 {G : cxT} {A : Nat → Prop} (V : State) (h : cxP G A V) : (∀ (a : Array Value) (w : Cond), w ∈ Cond.classLink R_Pm 106 E_ill :: Cond.initialized E_ill :: Bundle.ownAtoms R_Pm 110 E_ill EXN → w.before a V = true) ∧ ∃ sa, vk_R R_Pm 132 "no such memory" sa V :=
  ⟨fun a w hw => (ow_ill w hw).elim (fun q => h.1 a w (List.mem_filter.mpr q)) (fun q => h.2.2.1 a w q), h.2.2.2.1 (132, "no such memory") (by decide)⟩
theorem tw_ill_134 {G : cxT} {A : Nat → Prop} (V : State) (h : cxP G A V) : (∀ (a : Array Value) (w : Cond), w ∈ Cond.classLink R_Pm 106 E_ill :: Cond.initialized E_ill :: Bundle.ownAtoms R_Pm 110 E_ill EXN → w.before a V = true) ∧ ∃ sa, vk_R R_Pm 134 "no such memory or segment" sa V :=
  ⟨fun a w hw => (ow_ill w hw).elim (fun q => h.1 a w (List.mem_filter.mpr q)) (fun q => h.2.2.1 a w q), h.2.2.2.1 (134, "no such memory or segment") (by decide)⟩
theorem tw_ill_144 {G : cxT} {A : Nat → Prop} (V : State) (h : cxP G A V) : (∀ (a : Array Value) (w : Cond), w ∈ Cond.classLink R_Pm 106 E_ill :: Cond.initialized E_ill :: Bundle.ownAtoms R_Pm 110 E_ill EXN → w.before a V = true) ∧ ∃ sa, vk_R R_Pm 144 "no such segment" sa V :=
  ⟨fun a w hw => (ow_ill w hw).elim (fun q => h.1 a w (List.mem_filter.mpr q)) (fun q => h.2.2.1 a w q), h.2.2.2.1 (144, "no such segment") (by decide)⟩
theorem tw_ill_156 {G : cxT} {A : Nat → Prop} (V : State) (h : cxP G A V) : (∀ (a : Array Value) (w : Cond), w ∈ Cond.classLink R_Pm 106 E_ill :: Cond.initialized E_ill :: Bundle.ownAtoms R_Pm 110 E_ill EXN → w.before a V = true) ∧ ∃ sa, vk_R R_Pm 156 "no such table" sa V :=
  ⟨fun a w hw => (ow_ill w hw).elim (fun q => h.1 a w (List.mem_filter.mpr q)) (fun q => h.2.2.1 a w q), h.2.2.2.1 (156, "no such table") (by decide)⟩
theorem tw_ill_161 {G : cxT} {A : Nat → Prop} (V : State) (h : cxP G A V) : (∀ (a : Array Value) (w : Cond), w ∈ Cond.classLink R_Pm 106 E_ill :: Cond.initialized E_ill :: Bundle.ownAtoms R_Pm 110 E_ill EXN → w.before a V = true) ∧ ∃ sa, vk_R R_Pm 161 "no such table or reference" sa V :=
  ⟨fun a w hw => (ow_ill w hw).elim (fun q => h.1 a w (List.mem_filter.mpr q)) (fun q => h.2.2.1 a w q), h.2.2.2.1 (161, "no such table or reference") (by decide)⟩
theorem tw_ill_166 {G : cxT} {A : Nat → Prop} (V : State) (h : cxP G A V) : (∀ (a : Array Value) (w : Cond), w ∈ Cond.classLink R_Pm 106 E_ill :: Cond.initialized E_ill :: Bundle.ownAtoms R_Pm 110 E_ill EXN → w.before a V = true) ∧ ∃ sa, vk_R R_Pm 166 "no such table or another type" sa V :=
  ⟨fun a w hw => (ow_ill w hw).elim (fun q => h.1 a w (List.mem_filter.mpr q)) (fun q => h.2.2.1 a w q), h.2.2.2.1 (166, "no such table or another type") (by decide)⟩
theorem tw_ill_168 {G : cxT} {A : Nat → Prop} (V : State) (h : cxP G A V) : (∀ (a : Array Value) (w : Cond), w ∈ Cond.classLink R_Pm 106 E_ill :: Cond.initialized E_ill :: Bundle.ownAtoms R_Pm 110 E_ill EXN → w.before a V = true) ∧ ∃ sa, vk_R R_Pm 168 "no such table or segment" sa V :=
  ⟨fun a w hw => (ow_ill w hw).elim (fun q => h.1 a w (List.mem_filter.mpr q)) (fun q => h.2.2.1 a w q), h.2.2.2.1 (168, "no such table or segment") (by decide)⟩
def wp_Pm_putLowestBytes_3 (post : (Nat → Int32) → Prop) (n : Nat) (nb : Int64) (nn : Int32) (pl : Int32) : Nat → Int32 → (Nat → Int32) → Prop
  | 0 => fun _ _ => False
  | n9 + 1 => fun x5 f => ((nn ≤ x5 → (post f)) ∧ (¬ nn ≤ x5 → ((vp_in (pl + x5) n) ∧ ∀ a_103 : Nat → Int32, a_103 = upd f (pl + x5).toNatClampNeg (vp_nar .byte ((((nb.toUInt64 >>> ((8 * x5).toInt64.toUInt64 &&& Int64.toUInt64 63)).toInt64).toInt32).toInt8.toInt32)) → (∀ x_104 : Int32, x_104 = x5 + 1 → (wp_Pm_putLowestBytes_3 post n nb nn pl n9 x_104 a_103)))))
set_option maxHeartbeats 4000000 in
set_option maxRecDepth 100000 in
theorem l_Pm_putLowestBytes_3 {p : Program} {l : Launch} {e : Env} {s : State} {m : MethodId} {args : Array Value} {below : List Frame} {meth : Method} {c : Code} (G : cxT) (aa : Nat) (A : Nat → Prop) (post : (Nat → Int32) → Prop) (n : Nat) (nb : Int64) (nn : Int32) (pl : Int32) (hx : p.tables.exec = Jvm.exec) (hb : c.code = b_Pm_putLowestBytes) (hr : meth.sig.returnType = none) (hml : c.maxLocals = 6) (hown : s.vm.findClass R_Pm = some m.cls) (hlocks : meth.locks = false) (hcx : cx G A s) (hA : ∀ q : Nat, s.heap.size ≤ q → A q) :
    ∀ (n9 : Nat) (x5 : Int32) (f : Nat → Int32), wp_Pm_putLowestBytes_3 post n nb nn pl n9 x5 f → ∀ (H : Heap) (locs : List Loc), va_P G.1 vwC [(aa, .inl (G.2.1 1, n, .inl f))] H → va_D A [(aa, .inl (G.2.1 1, n, .inl f))] → va_S A s.heap H locs → ∀ (ls : Array Slot), lv_has ls 6 [(0, .long nb), (2, .int nn), (3, .ref aa), (4, .int pl), (5, .int x5)] → W p l e (headSpec [.code y_Pm_putLowestBytes b_Pm_putLowestBytes 6 none] ({ frames := 0, cells := 0, slots := 0, locals := 0 } : Room)).room s m args below meth c H locs 0 0 (MQ below (va_Qv post (fun u t => va_P G.1 vwC [(aa, .inl (G.2.1 1, n, .inl u))] t.heap) A) args s 0 0 A) (F0 m 3 ls []) := by
  have hts := hcx.now.1 args
  have hK := hcx.now.2.1
  intro n9
  induction n9 with
  | zero =>
    intro x5 f hw
    exact hw.elim
  | succ n9 ih =>
    intro x5 f hw H locs hP hD hS ls hl
    unfold wp_Pm_putLowestBytes_3 at hw
    refine lv_iload hx hb d_Pm_putLowestBytes_3 (lv_at hl 4 rfl) ?_
    refine lv_iload_n hx hb d_Pm_putLowestBytes_5 rfl (lv_at hl 1 rfl) ?_
    refine lv_icmp_ge (tgt := 31) hx hb d_Pm_putLowestBytes_6 (by decide) (fun c_101 => ?_) (fun c_101 => ?_)
    · replace hw := hw.1 c_101
      exact W.vret hx hb hr (fun t ht hW => ⟨⟨f, rfl, hw, by have h9 := hP; rw [← ht] at h9; exact h9⟩, hS.F ht⟩) hS.2.2 d_Pm_putLowestBytes_31
    · replace hw := hw.2 c_101
      refine lv_aload_n hx hb d_Pm_putLowestBytes_9 rfl (lv_at hl 2 rfl) ?_
      refine lv_iload hx hb d_Pm_putLowestBytes_10 (lv_at hl 3 rfl) ?_
      refine lv_iload hx hb d_Pm_putLowestBytes_12 (lv_at hl 4 rfl) ?_
      refine lv_iadd hx hb d_Pm_putLowestBytes_14 ?_
      refine lv_lload_n hx hb d_Pm_putLowestBytes_15 rfl (lv_at hl 0 rfl) ?_
      refine lv_bipush (v := 8) hx hb d_Pm_putLowestBytes_16 (by decide) ?_
      refine lv_iload hx hb d_Pm_putLowestBytes_18 (lv_at hl 4 rfl) ?_
      refine lv_imul hx hb d_Pm_putLowestBytes_20 ?_
      refine lv_lushr (v := (nb.toUInt64 >>> ((8 * x5).toInt64.toUInt64 &&& Int64.toUInt64 63)).toInt64) hx hb d_Pm_putLowestBytes_21 rfl ?_
      refine lv_l2i (v := ((nb.toUInt64 >>> ((8 * x5).toInt64.toUInt64 &&& Int64.toUInt64 63)).toInt64).toInt32) hx hb d_Pm_putLowestBytes_22 rfl ?_
      refine lv_i2b (v := (((nb.toUInt64 >>> ((8 * x5).toInt64.toUInt64 &&& Int64.toUInt64 63)).toInt64).toInt32).toInt8.toInt32) hx hb d_Pm_putLowestBytes_23 rfl ?_
      obtain ⟨h_102, hw⟩ := hw
      obtain ⟨a_103, ea_103⟩ : ∃ z, z = upd f (pl + x5).toNatClampNeg (vp_nar .byte ((((nb.toUInt64 >>> ((8 * x5).toInt64.toUInt64 &&& Int64.toUInt64 63)).toInt64).toInt32).toInt8.toInt32)) := ⟨_, rfl⟩
      replace hw := hw a_103 ea_103
      refine va_bast hx hb hK hP hD hS 0 1 rfl rfl h_102 d_Pm_putLowestBytes_24 (fun H locs hP hD hS => ?_)
      rw [← ea_103] at hP hD
      have hP : va_P G.1 vwC [(aa, .inl (G.2.1 1, n, .inl a_103))] H := hP
      have hD : va_D A [(aa, .inl (G.2.1 1, n, .inl a_103))] := hD
      obtain ⟨x_104, ex_104⟩ : ∃ y : Int32, y = x5 + 1 := ⟨_, rfl⟩
      replace hw := hw x_104 ex_104
      refine lv_iinc (v := x_104) (lv' := [(5, .int x_104), (0, .long nb), (2, .int nn), (3, .ref aa), (4, .int pl)]) hx hb d_Pm_putLowestBytes_25 hl (k := 4) rfl (by rw [ex_104]; rfl) (by decide) rfl (fun ls hl => ?_)
      refine lv_goto (tgt := 3) hx hb d_Pm_putLowestBytes_28 (by decide) ?_
      exact ih x_104 a_103 hw _ _ hP hD hS ls (lv_sub hl [1, 2, 3, 4, 0] rfl)
def wp_Pm_putLowestBytes (post : (Nat → Int32) → Prop) (n : Nat) (f : Nat → Int32) (nb : Int64) (nn : Int32) (pl : Int32) : Prop := ∃ n9 : Nat, wp_Pm_putLowestBytes_3 post n nb nn pl n9 0 f
set_option maxHeartbeats 4000000 in
set_option maxRecDepth 100000 in
theorem t_Pm_putLowestBytes (l : Launch) (G : cxT) (aa : Nat) (n : Nat) (f : Nat → Int32) (nb : Int64) (nn : Int32) (pl : Int32) (sz : Nat) (post : (Nat → Int32) → Prop) (hw : wp_Pm_putLowestBytes post n f nb nn pl) : Met l y_Pm_putLowestBytes [.code y_Pm_putLowestBytes b_Pm_putLowestBytes 6 none] ({ frames := 0, cells := 0, slots := 0, locals := 0 } : Room) (cm G [.long nb, .int nn, .ref aa, .int pl] [(aa, .inl (G.2.1 1, n, .inl f))] sz) (va_Qv post (fun u t => va_P G.1 vwC [(aa, .inl (G.2.1 1, n, .inl u))] t.heap) (va_A [(aa, .inl (G.2.1 1, n, .inl f))] sz)) 0 0 (va_A [(aa, .inl (G.2.1 1, n, .inl f))] sz) := by
  refine Met.ofW (cc := b_Pm_putLowestBytes) (maxL := 6) (ret := none) (by decide +kernel) rfl ?_
  intro p e s m args below meth c s₁ B hml hv
  obtain ⟨rfl, hsz, hcx, hP, hD0⟩ := hv
  have hx := B.exec
  have hb := B.bytes
  have hr := B.returns
  have hlocks := B.notSynchronized
  have hown : s.vm.findClass R_Pm = some m.cls := findClass_of_methodNamed B.named
  subst hsz
  have hD := hD0.self (sz := s.heap.size)
  generalize hAe : va_A [(aa, .inl (G.2.1 1, n, .inl f))] s.heap.size = A at hD hcx ⊢
  have hA : ∀ q : Nat, s.heap.size ≤ q → A q := fun q h => by rw [← hAe]; exact Or.inr h
  have hS : va_S A s.heap s.heap [] := va_S.rf
  have hts := hcx.now.1 [.long nb, .int nn, .ref aa, .int pl].toArray
  have hK := hcx.now.2.1
  have hl := lv_entry ([.long nb, .int nn, .ref aa, .int pl]) (n := 6) (Nat.le_of_ble_eq_true rfl)
  rw [lg_entry_eq]
  generalize (lg_sl ([.long nb, .int nn, .ref aa, .int pl]) ++ List.replicate (6 - (lg_sl ([.long nb, .int nn, .ref aa, .int pl])).length) Slot.unset).toArray = ls at hl ⊢
  have hl : lv_has ls 6 [(0, .long nb), (2, .int nn), (3, .ref aa), (4, .int pl)] := hl
  unfold wp_Pm_putLowestBytes at hw
  refine lv_iconst (v := 0) hx hb d_Pm_putLowestBytes_0 (by decide) ?_
  refine lv_istore (lv' := [(5, .int 0), (0, .long nb), (2, .int nn), (3, .ref aa), (4, .int pl)]) hx hb d_Pm_putLowestBytes_1 hl (by decide) rfl (fun ls hl => ?_)
  obtain ⟨n9, hw⟩ := hw
  exact l_Pm_putLowestBytes_3 G aa A post n nb nn pl hx hb hr hml hown hlocks hcx hA n9 0 f hw _ _ hP hD hS ls (lv_sub hl [1, 2, 3, 4, 0] rfl)
def byt (v : Int64) (i : Nat) : Int32 := ((v.toUInt64 >>> ((8 * nI i).toInt64.toUInt64 &&& Int64.toUInt64 63)).toInt64).toInt32.toInt8.toInt32
def put_b (f : Nat → Int32) (a n : Nat) (v : Int64) : Nat → Int32 := fun j => if a ≤ j ∧ j < a + n then byt v (j - a) else f j
theorem pm_put_loop {post : (Nat → Int32) → Prop} {n a b : Nat} {v : Int64} (g : Nat → Int32) (h2 : a + b ≤ n) (hn : n < 2 ^ 31) (H : post (put_b g a b v)) : ∃ m, wp_Pm_putLowestBytes_3 post n v (nI b) (nI a) m (nI 0) g := by
  refine Exists.elim (pk_loop (fun m i f => wp_Pm_putLowestBytes_3 post n v (nI b) (nI a) m (nI i) f) (fun i f => f = put_b g a i v) b 0 g (Nat.zero_le _) ?_ ?_ ?_) (fun m hm => ⟨m, hm⟩)
  · funext j
    unfold put_b
    rw [if_neg (by omega)]
  · intro m f hf
    unfold wp_Pm_putLowestBytes_3
    refine ⟨fun _ => ?_, fun h => absurd (nI_le (Nat.le_refl b) (by omega)) h⟩
    rw [hf]
    exact H
  · intro m i f hi hf ih
    unfold wp_Pm_putLowestBytes_3
    refine ⟨fun h => absurd h (nI_ge hi (by omega)), fun _ => ?_⟩
    rw [nI_add]
    refine ⟨vp_in_nI (by omega) hn, fun x ex y ey => ?_⟩
    rw [nI_clamp (by omega), pk_vb] at ex
    rw [ey, nI_1]
    refine ih _ ?_
    rw [ex, hf]
    funext j
    unfold put_b upd
    by_cases hj : j = a + i
    · subst hj
      rw [if_pos rfl, if_pos (by omega), show a + i - a = i by omega]
      rfl
    · rw [if_neg hj]
      dsimp only
      by_cases q : a ≤ j ∧ j < a + i
      · rw [if_pos q, if_pos (by omega)]
      · rw [if_neg q, if_neg (by omega)]

theorem c_Pm_putLowestBytes (l : Launch) (G : cxT) (aa : Nat) (n : Nat) (f : Nat → Int32) (nb : Int64) (nn : Int32) (pl : Int32) (sz : Nat) (h0 : ¬ pl < 0) (h1 : ¬ nn < 0) (h2 : pl.toNatClampNeg + nn.toNatClampNeg ≤ n) (h3 : n < 2147483648) : Met l y_Pm_putLowestBytes [.code y_Pm_putLowestBytes b_Pm_putLowestBytes 6 none] ({ frames := 0, cells := 0, slots := 0, locals := 0 } : Room) (cm G [.long nb, .int nn, .ref aa, .int pl] [(aa, .inl (G.2.1 1, n, .inl f))] sz) (va_Qv (fun u => u = put_b f pl.toNatClampNeg nn.toNatClampNeg nb) (fun u t => va_P G.1 vwC [(aa, .inl (G.2.1 1, n, .inl u))] t.heap) (va_A [(aa, .inl (G.2.1 1, n, .inl f))] sz)) 0 0 (va_A [(aa, .inl (G.2.1 1, n, .inl f))] sz) :=
  t_Pm_putLowestBytes l G aa n f nb nn pl sz (fun u => u = put_b f pl.toNatClampNeg nn.toNatClampNeg nb) (by
    unfold wp_Pm_putLowestBytes
    obtain ⟨a, ha, rfl⟩ := nI_of h0
    obtain ⟨b, hb, rfl⟩ := nI_of h1
    rw [nI_clamp ha, nI_clamp hb] at h2 ⊢
    rw [← nI_0]
    exact pm_put_loop f h2 h3 rfl)
def wp_Pm_pagesOf (post : Int32 → Prop) (trp : Int32) (mC : Int32) (mU : Int32) (mS : Nat → Int32) (mL : Nat → Int32) (mD : Nat → Int32) (k : Int32) : Prop := (mC.toInt ≤ 6) ∧ (post ((ly_ln mC k mL) / 256))
set_option maxHeartbeats 4000000 in
set_option maxRecDepth 100000 in
theorem t_Pm_pagesOf (l : Launch) (G : cxT) (h : Nat) (m0 : Nat) (aml : Nat) (amb : Nat) (t0 : Nat) (atl : Nat) (att : Nat) (ate : Nat) (b0 : Nat) (asb : Nat) (r0 : Nat) (asr : Nat) (m1 : Nat) (m2 : Nat) (m3 : Nat) (trp : Int32) (mC : Int32) (mU : Int32) (mS : Nat → Int32) (mL : Nat → Int32) (mD : Nat → Int32) (k : Int32) (post : Int32 → Prop) (hw : wp_Pm_pagesOf post trp mC mU mS mL mD k) : Met l y_Pm_pagesOf [.code y_Pm_pagesOf b_Pm_pagesOf 2 (some .int)] ({ frames := 2, cells := 0, slots := 0, locals := 80 } : Room) (cp G [.ref h, .int k] [(h, .inr (1, [.ref m0, .ref aml, .ref amb, .ref t0, .ref atl, .ref att, .ref ate, .ref b0, .ref asb, .ref r0, .ref asr, .int trp])), (m0, .inr (0, [.int 12288, .ref m1, .ref m2, .ref m3, .int mC, .int mU])), (m1, .inl (G.2.1 0, 6, .inl mS)), (m2, .inl (G.2.1 0, 6, .inl mL)), (m3, .inl (G.2.1 2, 6, .inl mD))]) (va_Qi (fun r (_ : Unit) => post r) (fun _ _ => True) (fun _ => False)) 0 0 (fun _ => False) := by
  refine Met.ofW (cc := b_Pm_pagesOf) (maxL := 2) (ret := (some .int)) (by decide +kernel) rfl ?_
  intro p e s m args below meth c s₁ B hml hv
  obtain ⟨rfl, hcx, hP⟩ := hv
  have hx := B.exec
  have hb := B.bytes
  have hr := B.returns
  have hlocks := B.notSynchronized
  have hown : s.vm.findClass R_Pm = some m.cls := findClass_of_methodNamed B.named
  have hS : va_S (fun _ => False) s.heap s.heap [] := va_S.rf
  have hts := hcx.now.1 [.ref h, .int k].toArray
  have hK := hcx.now.2.1
  have hl := lv_entry ([.ref h, .int k]) (n := 2) (Nat.le_of_ble_eq_true rfl)
  rw [lg_entry_eq]
  generalize (lg_sl ([.ref h, .int k]) ++ List.replicate (2 - (lg_sl ([.ref h, .int k])).length) Slot.unset).toArray = ls at hl ⊢
  have hl : lv_has ls 2 [(0, .ref h), (1, .int k)] := hl
  unfold wp_Pm_pagesOf at hw
  refine lv_aload_n hx hb d_Pm_pagesOf_0 rfl (lv_at hl 0 rfl) ?_
  refine va_get (D := G.1) (ci := 1) (v := .ref m0) (C := R_Pm) (T := T_Pm) (N := 12) hx hb hts in_Pm hown hK hP 0 rfl rfl 0 (by decide) (hts _ fl_Pm_14) (fun _ h9 => h9) rfl d_Pm_pagesOf_1 ?_
  refine lv_iload_n hx hb d_Pm_pagesOf_4 rfl (lv_at hl 1 rfl) ?_
  obtain ⟨h_1, hw⟩ := hw
  have hPc := hP.sub (ws' := [(m0, .inr (0, [.int 12288, .ref m1, .ref m2, .ref m3, .int mC, .int mU])), (m1, .inl (G.2.1 0, 6, .inl mS)), (m2, .inl (G.2.1 0, 6, .inl mL)), (m3, .inl (G.2.1 2, 6, .inl mD))]) [1, 2, 3, 4] rfl
  refine pu_i (va_runV (As := [.int k]) (rest := []) ⟨hx, hb, hml, hown, hts⟩ (c_Ly_lengthOf l G m0 m1 m2 m3 6 12288 mC mU mS mL mD k h_1) (cwV 1 hts (gi_V ml_Pm_163 im_Ly_lengthOf se_Ly_lengthOf ini_Ly co_Ly_lengthOf) rfl rfl rfl (by decide +kernel) ⟨Nat.le_of_ble_eq_true rfl, Nat.le_of_ble_eq_true rfl⟩) ⟨cp_blind, va_recv hK hPc (ci := 0) (q0 := 0) rfl rfl, cp_pre hcx hS hPc⟩ rfl rfl hl.1 rfl (lv_room (Nat.le_of_ble_eq_true rfl)) d_Pm_pagesOf_5 ⟨Nat.le_of_ble_eq_true rfl, Nat.le_of_ble_eq_true rfl⟩) hS hP (fun H locs hP hS => ?_)
  refine lv_sipush (v := 256) hx hb d_Pm_pagesOf_8 (by decide) ?_
  refine lv_idiv hx hb d_Pm_pagesOf_11 (by decide) ?_
  exact W.iret (v := (ly_ln mC k mL) / 256) hx hb hr (fun t ht hW => ⟨⟨(ly_ln mC k mL) / 256, (), rfl, hw, trivial⟩, hS.F ht⟩) hS.2.2 d_Pm_pagesOf_12
theorem c_Pm_pagesOf (l : Launch) (G : cxT) (h : Nat) (m0 : Nat) (aml : Nat) (amb : Nat) (t0 : Nat) (atl : Nat) (att : Nat) (ate : Nat) (b0 : Nat) (asb : Nat) (r0 : Nat) (asr : Nat) (m1 : Nat) (m2 : Nat) (m3 : Nat) (trp : Int32) (mC : Int32) (mU : Int32) (mS : Nat → Int32) (mL : Nat → Int32) (mD : Nat → Int32) (k : Int32) (h0 : mC.toInt ≤ 6) : Met l y_Pm_pagesOf [.code y_Pm_pagesOf b_Pm_pagesOf 2 (some .int)] ({ frames := 2, cells := 0, slots := 0, locals := 80 } : Room) (cp G [.ref h, .int k] [(h, .inr (1, [.ref m0, .ref aml, .ref amb, .ref t0, .ref atl, .ref att, .ref ate, .ref b0, .ref asb, .ref r0, .ref asr, .int trp])), (m0, .inr (0, [.int 12288, .ref m1, .ref m2, .ref m3, .int mC, .int mU])), (m1, .inl (G.2.1 0, 6, .inl mS)), (m2, .inl (G.2.1 0, 6, .inl mL)), (m3, .inl (G.2.1 2, 6, .inl mD))]) (va_Qi (fun r (_ : Unit) => (fun r => r = (ly_ln mC k mL / 256)) r) (fun _ _ => True) (fun _ => False)) 0 0 (fun _ => False) :=
  t_Pm_pagesOf l G h m0 aml amb t0 atl att ate b0 asb r0 asr m1 m2 m3 trp mC mU mS mL mD k (fun r => r = (ly_ln mC k mL / 256)) (by
    exact ⟨h0, rfl⟩)
def wp_Pm_pagesLeft (post : Int32 → Prop) (trp : Int32) (mC : Int32) (mU : Int32) (mS : Nat → Int32) (mL : Nat → Int32) (mD : Nat → Int32) : Prop := post ((12288 - mU) / 256)
set_option maxHeartbeats 4000000 in
set_option maxRecDepth 100000 in
theorem t_Pm_pagesLeft (l : Launch) (G : cxT) (h : Nat) (m0 : Nat) (aml : Nat) (amb : Nat) (t0 : Nat) (atl : Nat) (att : Nat) (ate : Nat) (b0 : Nat) (asb : Nat) (r0 : Nat) (asr : Nat) (m1 : Nat) (m2 : Nat) (m3 : Nat) (trp : Int32) (mC : Int32) (mU : Int32) (mS : Nat → Int32) (mL : Nat → Int32) (mD : Nat → Int32) (post : Int32 → Prop) (hw : wp_Pm_pagesLeft post trp mC mU mS mL mD) : Met l y_Pm_pagesLeft [.code y_Pm_pagesLeft b_Pm_pagesLeft 1 (some .int)] ({ frames := 2, cells := 0, slots := 0, locals := 80 } : Room) (cp G [.ref h] [(h, .inr (1, [.ref m0, .ref aml, .ref amb, .ref t0, .ref atl, .ref att, .ref ate, .ref b0, .ref asb, .ref r0, .ref asr, .int trp])), (m0, .inr (0, [.int 12288, .ref m1, .ref m2, .ref m3, .int mC, .int mU])), (m1, .inl (G.2.1 0, 6, .inl mS)), (m2, .inl (G.2.1 0, 6, .inl mL)), (m3, .inl (G.2.1 2, 6, .inl mD))]) (va_Qi (fun r (_ : Unit) => post r) (fun _ _ => True) (fun _ => False)) 0 0 (fun _ => False) := by
  refine Met.ofW (cc := b_Pm_pagesLeft) (maxL := 1) (ret := (some .int)) (by decide +kernel) rfl ?_
  intro p e s m args below meth c s₁ B hml hv
  obtain ⟨rfl, hcx, hP⟩ := hv
  have hx := B.exec
  have hb := B.bytes
  have hr := B.returns
  have hlocks := B.notSynchronized
  have hown : s.vm.findClass R_Pm = some m.cls := findClass_of_methodNamed B.named
  have hS : va_S (fun _ => False) s.heap s.heap [] := va_S.rf
  have hts := hcx.now.1 [.ref h].toArray
  have hK := hcx.now.2.1
  have hl := lv_entry ([.ref h]) (n := 1) (Nat.le_of_ble_eq_true rfl)
  rw [lg_entry_eq]
  generalize (lg_sl ([.ref h]) ++ List.replicate (1 - (lg_sl ([.ref h])).length) Slot.unset).toArray = ls at hl ⊢
  have hl : lv_has ls 1 [(0, .ref h)] := hl
  unfold wp_Pm_pagesLeft at hw
  refine lv_aload_n hx hb d_Pm_pagesLeft_0 rfl (lv_at hl 0 rfl) ?_
  refine va_get (D := G.1) (ci := 1) (v := .ref m0) (C := R_Pm) (T := T_Pm) (N := 12) hx hb hts in_Pm hown hK hP 0 rfl rfl 0 (by decide) (hts _ fl_Pm_14) (fun _ h9 => h9) rfl d_Pm_pagesLeft_1 ?_
  have hPc := hP.sub (ws' := [(m0, .inr (0, [.int 12288, .ref m1, .ref m2, .ref m3, .int mC, .int mU])), (m1, .inl (G.2.1 0, 6, .inl mS)), (m2, .inl (G.2.1 0, 6, .inl mL)), (m3, .inl (G.2.1 2, 6, .inl mD))]) [1, 2, 3, 4] rfl
  refine pu_i (va_runV (As := []) (rest := []) ⟨hx, hb, hml, hown, hts⟩ (c_Ly_left l G m0 m1 m2 m3 6 12288 mC mU mS mL mD) (cwV 0 hts (gi_V ml_Pm_150 im_Ly_left se_Ly_left ini_Ly co_Ly_left) rfl rfl rfl (by decide +kernel) ⟨Nat.le_of_ble_eq_true rfl, Nat.le_of_ble_eq_true rfl⟩) ⟨cp_blind, va_recv hK hPc (ci := 0) (q0 := 0) rfl rfl, cp_pre hcx hS hPc⟩ rfl rfl hl.1 rfl (lv_room (Nat.le_of_ble_eq_true rfl)) d_Pm_pagesLeft_4 ⟨Nat.le_of_ble_eq_true rfl, Nat.le_of_ble_eq_true rfl⟩) hS hP (fun H locs hP hS => ?_)
  refine lv_sipush (v := 256) hx hb d_Pm_pagesLeft_7 (by decide) ?_
  refine lv_idiv hx hb d_Pm_pagesLeft_10 (by decide) ?_
  exact W.iret (v := (12288 - mU) / 256) hx hb hr (fun t ht hW => ⟨⟨(12288 - mU) / 256, (), rfl, hw, trivial⟩, hS.F ht⟩) hS.2.2 d_Pm_pagesLeft_11
theorem c_Pm_pagesLeft (l : Launch) (G : cxT) (h : Nat) (m0 : Nat) (aml : Nat) (amb : Nat) (t0 : Nat) (atl : Nat) (att : Nat) (ate : Nat) (b0 : Nat) (asb : Nat) (r0 : Nat) (asr : Nat) (m1 : Nat) (m2 : Nat) (m3 : Nat) (trp : Int32) (mC : Int32) (mU : Int32) (mS : Nat → Int32) (mL : Nat → Int32) (mD : Nat → Int32) : Met l y_Pm_pagesLeft [.code y_Pm_pagesLeft b_Pm_pagesLeft 1 (some .int)] ({ frames := 2, cells := 0, slots := 0, locals := 80 } : Room) (cp G [.ref h] [(h, .inr (1, [.ref m0, .ref aml, .ref amb, .ref t0, .ref atl, .ref att, .ref ate, .ref b0, .ref asb, .ref r0, .ref asr, .int trp])), (m0, .inr (0, [.int 12288, .ref m1, .ref m2, .ref m3, .int mC, .int mU])), (m1, .inl (G.2.1 0, 6, .inl mS)), (m2, .inl (G.2.1 0, 6, .inl mL)), (m3, .inl (G.2.1 2, 6, .inl mD))]) (va_Qi (fun r (_ : Unit) => (fun r => r = ((12288 - mU) / 256)) r) (fun _ _ => True) (fun _ => False)) 0 0 (fun _ => False) :=
  t_Pm_pagesLeft l G h m0 aml amb t0 atl att ate b0 asb r0 asr m1 m2 m3 trp mC mU mS mL mD (fun r => r = ((12288 - mU) / 256)) (by
    exact rfl)
def wp_Pm_placeOf (post : Int32 → Int32 → Prop) (postx : String → Int32 → Prop) (n : Nat) (trp : Int32) (yR : Int32) (yC : Int32) (yU : Int32) (yS : Nat → Int32) (yL : Nat → Int32) (yD : Nat → Int32) (k : Int32) (fr : Int64) (cn : Int64) (tn : Int32) : Prop := (yC.toInt ≤ n) ∧ (((lg_cmp (fr + cn) ((ly_ln yC k yL).toInt64) ≤ 0 → ((yC.toInt ≤ n) ∧ (post ((ly_st yC k yS) + fr.toInt32) trp))) ∧ (¬ lg_cmp (fr + cn) ((ly_ln yC k yL).toInt64) ≤ 0 → (postx E_uns tn))))
set_option maxHeartbeats 4000000 in
set_option maxRecDepth 100000 in
theorem t_Pm_placeOf (l : Launch) (hst : l.stackTraces = false) (G : cxT) (h : Nat) (m0 : Nat) (aml : Nat) (amb : Nat) (t0 : Nat) (atl : Nat) (att : Nat) (ate : Nat) (b0 : Nat) (asb : Nat) (r0 : Nat) (asr : Nat) (y0 : Nat) (y1 : Nat) (y2 : Nat) (y3 : Nat) (n : Nat) (trp : Int32) (yR : Int32) (yC : Int32) (yU : Int32) (yS : Nat → Int32) (yL : Nat → Int32) (yD : Nat → Int32) (k : Int32) (fr : Int64) (cn : Int64) (tn : Int32) (sz : Nat) (post : Int32 → Int32 → Prop) (postx : String → Int32 → Prop) (hw : wp_Pm_placeOf post postx n trp yR yC yU yS yL yD k fr cn tn) : tr_Met l y_Pm_placeOf [.code y_Pm_placeOf b_Pm_placeOf 8 (some .int)] ({ frames := 6, cells := 1, slots := 6, locals := 90 } : Room) (cm G [.ref h, .ref y0, .int k, .long fr, .long cn, .int tn] [(h, .inr (1, [.ref m0, .ref aml, .ref amb, .ref t0, .ref atl, .ref att, .ref ate, .ref b0, .ref asb, .ref r0, .ref asr, .int trp])), (y0, .inr (0, [.int yR, .ref y1, .ref y2, .ref y3, .int yC, .int yU])), (y1, .inl (G.2.1 0, n, .inl yS)), (y2, .inl (G.2.1 0, n, .inl yL)), (y3, .inl (G.2.1 2, n, .inl yD))] sz) (va_Qi post (fun u t => va_P G.1 vwC [(h, .inr (1, [.ref m0, .ref aml, .ref amb, .ref t0, .ref atl, .ref att, .ref ate, .ref b0, .ref asb, .ref r0, .ref asr, .int u])), (y0, .inr (0, [.int yR, .ref y1, .ref y2, .ref y3, .int yC, .int yU])), (y1, .inl (G.2.1 0, n, .inl yS)), (y2, .inl (G.2.1 0, n, .inl yL)), (y3, .inl (G.2.1 2, n, .inl yD))] t.heap) (va_A [(h, .inr (1, [.ref m0, .ref aml, .ref amb, .ref t0, .ref atl, .ref att, .ref ate, .ref b0, .ref asb, .ref r0, .ref asr, .int trp])), (y0, .inr (0, [.int yR, .ref y1, .ref y2, .ref y3, .int yC, .int yU])), (y1, .inl (G.2.1 0, n, .inl yS)), (y2, .inl (G.2.1 0, n, .inl yL)), (y3, .inl (G.2.1 2, n, .inl yD))] sz)) (fun E t => ∃ u : Int32, postx E u ∧ va_P G.1 vwC [(h, .inr (1, [.ref m0, .ref aml, .ref amb, .ref t0, .ref atl, .ref att, .ref ate, .ref b0, .ref asb, .ref r0, .ref asr, .int u])), (y0, .inr (0, [.int yR, .ref y1, .ref y2, .ref y3, .int yC, .int yU])), (y1, .inl (G.2.1 0, n, .inl yS)), (y2, .inl (G.2.1 0, n, .inl yL)), (y3, .inl (G.2.1 2, n, .inl yD))] t.heap) (va_A [(h, .inr (1, [.ref m0, .ref aml, .ref amb, .ref t0, .ref atl, .ref att, .ref ate, .ref b0, .ref asb, .ref r0, .ref asr, .int trp])), (y0, .inr (0, [.int yR, .ref y1, .ref y2, .ref y3, .int yC, .int yU])), (y1, .inl (G.2.1 0, n, .inl yS)), (y2, .inl (G.2.1 0, n, .inl yL)), (y3, .inl (G.2.1 2, n, .inl yD))] sz) 1 6 := by
  refine tr_ofW (cc := b_Pm_placeOf) (maxL := 8) (ret := (some .int)) (by decide +kernel) rfl ?_
  intro p e s m args below meth c s₁ B hml hv
  obtain ⟨rfl, hsz, hcx, hP, hD0⟩ := hv
  have hx := B.exec
  have hb := B.bytes
  have hr := B.returns
  have hlocks := B.notSynchronized
  have hown : s.vm.findClass R_Pm = some m.cls := findClass_of_methodNamed B.named
  have hnt := tr_nt (ws := [.code y_Pm_placeOf b_Pm_placeOf 8 (some .int)]) (rm := ({ frames := 6, cells := 1, slots := 6, locals := 90 } : Room)) B rfl
  subst hsz
  have hD := hD0.self (sz := s.heap.size)
  generalize hAe : va_A [(h, .inr (1, [.ref m0, .ref aml, .ref amb, .ref t0, .ref atl, .ref att, .ref ate, .ref b0, .ref asb, .ref r0, .ref asr, .int trp])), (y0, .inr (0, [.int yR, .ref y1, .ref y2, .ref y3, .int yC, .int yU])), (y1, .inl (G.2.1 0, n, .inl yS)), (y2, .inl (G.2.1 0, n, .inl yL)), (y3, .inl (G.2.1 2, n, .inl yD))] s.heap.size = A at hD hcx ⊢
  have hA : ∀ q : Nat, s.heap.size ≤ q → A q := fun q h => by rw [← hAe]; exact Or.inr h
  have hS : va_S A s.heap s.heap [] := va_S.rf
  have hts := hcx.now.1 [.ref h, .ref y0, .int k, .long fr, .long cn, .int tn].toArray
  have hK := hcx.now.2.1
  have hl := lv_entry ([.ref h, .ref y0, .int k, .long fr, .long cn, .int tn]) (n := 8) (Nat.le_of_ble_eq_true rfl)
  rw [lg_entry_eq]
  generalize (lg_sl ([.ref h, .ref y0, .int k, .long fr, .long cn, .int tn]) ++ List.replicate (8 - (lg_sl ([.ref h, .ref y0, .int k, .long fr, .long cn, .int tn])).length) Slot.unset).toArray = ls at hl ⊢
  have hl : lv_has ls 8 [(0, .ref h), (1, .ref y0), (2, .int k), (3, .long fr), (5, .long cn), (7, .int tn)] := hl
  unfold wp_Pm_placeOf at hw
  refine lv_lload_n hx hb d_Pm_placeOf_0 rfl (lv_at hl 3 rfl) ?_
  refine lv_lload hx hb d_Pm_placeOf_1 (lv_at hl 4 rfl) ?_
  refine lv_ladd hx hb d_Pm_placeOf_3 ?_
  refine lv_aload_n hx hb d_Pm_placeOf_4 rfl (lv_at hl 1 rfl) ?_
  refine lv_iload_n hx hb d_Pm_placeOf_5 rfl (lv_at hl 2 rfl) ?_
  obtain ⟨h_1, hw⟩ := hw
  have hPc := hP.sub (ws' := [(y0, .inr (0, [.int yR, .ref y1, .ref y2, .ref y3, .int yC, .int yU])), (y1, .inl (G.2.1 0, n, .inl yS)), (y2, .inl (G.2.1 0, n, .inl yL)), (y3, .inl (G.2.1 2, n, .inl yD))]) [1, 2, 3, 4] rfl
  refine pu_i (va_runV (As := [.int k]) (rest := [.long (fr + cn)]) ⟨hx, hb, hml, hown, hts⟩ (c_Ly_lengthOf l G y0 y1 y2 y3 n yR yC yU yS yL yD k h_1) (cwV 1 hts (gi_V ml_Pm_163 im_Ly_lengthOf se_Ly_lengthOf ini_Ly co_Ly_lengthOf) rfl rfl rfl (by decide +kernel) ⟨Nat.le_of_ble_eq_true rfl, Nat.le_of_ble_eq_true rfl⟩) ⟨cp_blind, va_recv hK hPc (ci := 0) (q0 := 0) rfl rfl, cp_pre hcx hS hPc⟩ rfl rfl hl.1 rfl (lv_room (Nat.le_of_ble_eq_true rfl)) d_Pm_placeOf_6 ⟨Nat.le_of_ble_eq_true rfl, Nat.le_of_ble_eq_true rfl⟩) hS hP (fun H locs hP hS => ?_)
  refine lv_i2l (v := (ly_ln yC k yL).toInt64) hx hb d_Pm_placeOf_9 rfl ?_
  refine W.lcmp hx hb d_Pm_placeOf_10 ?_
  refine lv_if_le (tgt := 30) hx hb d_Pm_placeOf_11 (by decide) (fun c_2 => ?_) (fun c_2 => ?_)
  · replace hw := hw.1 c_2
    refine lv_aload_n hx hb d_Pm_placeOf_30 rfl (lv_at hl 1 rfl) ?_
    refine lv_iload_n hx hb d_Pm_placeOf_31 rfl (lv_at hl 2 rfl) ?_
    obtain ⟨h_3, hw⟩ := hw
    have hPc := hP.sub (ws' := [(y0, .inr (0, [.int yR, .ref y1, .ref y2, .ref y3, .int yC, .int yU])), (y1, .inl (G.2.1 0, n, .inl yS)), (y2, .inl (G.2.1 0, n, .inl yL)), (y3, .inl (G.2.1 2, n, .inl yD))]) [1, 2, 3, 4] rfl
    refine pu_i (va_runV (As := [.int k]) (rest := []) ⟨hx, hb, hml, hown, hts⟩ (c_Ly_startOf l G y0 y1 y2 y3 n yR yC yU yS yL yD k h_3) (cwV 1 hts (gi_V ml_Pm_178 im_Ly_startOf se_Ly_startOf ini_Ly co_Ly_startOf) rfl rfl rfl (by decide +kernel) ⟨Nat.le_of_ble_eq_true rfl, Nat.le_of_ble_eq_true rfl⟩) ⟨cp_blind, va_recv hK hPc (ci := 0) (q0 := 0) rfl rfl, cp_pre hcx hS hPc⟩ rfl rfl hl.1 rfl (lv_room (Nat.le_of_ble_eq_true rfl)) d_Pm_placeOf_32 ⟨Nat.le_of_ble_eq_true rfl, Nat.le_of_ble_eq_true rfl⟩) hS hP (fun H locs hP hS => ?_)
    refine lv_lload_n hx hb d_Pm_placeOf_35 rfl (lv_at hl 3 rfl) ?_
    refine lv_l2i (v := fr.toInt32) hx hb d_Pm_placeOf_36 rfl ?_
    refine lv_iadd hx hb d_Pm_placeOf_37 ?_
    refine W.widen (k := 1) (n := 6) (Nat.le_of_ble_eq_true rfl) (Nat.le_of_ble_eq_true rfl) ?_
    exact tr_ret (W.iret (v := (ly_st yC k yS) + fr.toInt32) hx hb hr (fun t ht hW => ⟨⟨(ly_st yC k yS) + fr.toInt32, trp, rfl, hw, by have h9 := hP; rw [← ht] at h9; exact h9⟩, hS.F ht⟩) hS.2.2 d_Pm_placeOf_38)
  · replace hw := hw.2 c_2
    refine lv_aload_n hx hb d_Pm_placeOf_14 rfl (lv_at hl 0 rfl) ?_
    refine lv_iload hx hb d_Pm_placeOf_15 (lv_at hl 5 rfl) ?_
    refine va_put (D := G.1) (ci := 1) (v := .int tn) (ty := (.int)) (C := R_Pm) (T := T_Pm) (N := 12) hx hb hts in_Pm ty_Pm tk_Pm nm_Pm hown hK hP hD hS 0 rfl rfl 11 (by decide) (hts _ fl_Pm_50) (fun _ h9 => h9) rfl (by decide +kernel) rfl rfl (Nat.le_of_ble_eq_true rfl) d_Pm_placeOf_17 (fun H locs hP hD hS => ?_)
    have hP : va_P G.1 vwC [(h, .inr (1, [.ref m0, .ref aml, .ref amb, .ref t0, .ref atl, .ref att, .ref ate, .ref b0, .ref asb, .ref r0, .ref asr, .int tn])), (y0, .inr (0, [.int yR, .ref y1, .ref y2, .ref y3, .int yC, .int yU])), (y1, .inl (G.2.1 0, n, .inl yS)), (y2, .inl (G.2.1 0, n, .inl yL)), (y3, .inl (G.2.1 2, n, .inl yD))] H := hP
    have hD : va_D A [(h, .inr (1, [.ref m0, .ref aml, .ref amb, .ref t0, .ref atl, .ref att, .ref ate, .ref b0, .ref asb, .ref r0, .ref asr, .int tn])), (y0, .inr (0, [.int yR, .ref y1, .ref y2, .ref y3, .int yC, .int yU])), (y1, .inl (G.2.1 0, n, .inl yS)), (y2, .inl (G.2.1 0, n, .inl yL)), (y3, .inl (G.2.1 2, n, .inl yD))] := hD
    exact tr_throw hx hb hst hown (by decide +kernel) (by decide +kernel) (hcx.imp (fun V h => tw_uns_175 V h)) hS (hl.1.trans hml.symm) d_Pm_placeOf_20 d_Pm_placeOf_23 d_Pm_placeOf_24 d_Pm_placeOf_26 d_Pm_placeOf_29 (hnt _) (Nat.le_of_ble_eq_true rfl) (Nat.le_of_ble_eq_true rfl) (Nat.le_of_ble_eq_true rfl) (Nat.le_of_ble_eq_true rfl) hlocks (fun t h1 h2 => ⟨tn, hw, hP.kept fun k q hq => h2 q.1 (hP k q hq).lt⟩) hA (Nat.le_of_ble_eq_true rfl) (Nat.le_of_ble_eq_true rfl)
theorem c_Pm_placeOf (l : Launch) (hst : l.stackTraces = false) (G : cxT) (h : Nat) (m0 : Nat) (aml : Nat) (amb : Nat) (t0 : Nat) (atl : Nat) (att : Nat) (ate : Nat) (b0 : Nat) (asb : Nat) (r0 : Nat) (asr : Nat) (y0 : Nat) (y1 : Nat) (y2 : Nat) (y3 : Nat) (n : Nat) (trp : Int32) (yR : Int32) (yC : Int32) (yU : Int32) (yS : Nat → Int32) (yL : Nat → Int32) (yD : Nat → Int32) (k : Int32) (fr : Int64) (cn : Int64) (tn : Int32) (sz : Nat) (h0 : yC.toInt ≤ n) : tr_Met l y_Pm_placeOf [.code y_Pm_placeOf b_Pm_placeOf 8 (some .int)] ({ frames := 6, cells := 1, slots := 6, locals := 90 } : Room) (cm G [.ref h, .ref y0, .int k, .long fr, .long cn, .int tn] [(h, .inr (1, [.ref m0, .ref aml, .ref amb, .ref t0, .ref atl, .ref att, .ref ate, .ref b0, .ref asb, .ref r0, .ref asr, .int trp])), (y0, .inr (0, [.int yR, .ref y1, .ref y2, .ref y3, .int yC, .int yU])), (y1, .inl (G.2.1 0, n, .inl yS)), (y2, .inl (G.2.1 0, n, .inl yL)), (y3, .inl (G.2.1 2, n, .inl yD))] sz) (va_Qi (fun r u => (lg_cmp (fr + cn) (ly_ln yC k yL).toInt64 ≤ 0) ∧ r = (ly_st yC k yS + fr.toInt32) ∧ u = trp) (fun u t => va_P G.1 vwC [(h, .inr (1, [.ref m0, .ref aml, .ref amb, .ref t0, .ref atl, .ref att, .ref ate, .ref b0, .ref asb, .ref r0, .ref asr, .int u])), (y0, .inr (0, [.int yR, .ref y1, .ref y2, .ref y3, .int yC, .int yU])), (y1, .inl (G.2.1 0, n, .inl yS)), (y2, .inl (G.2.1 0, n, .inl yL)), (y3, .inl (G.2.1 2, n, .inl yD))] t.heap) (va_A [(h, .inr (1, [.ref m0, .ref aml, .ref amb, .ref t0, .ref atl, .ref att, .ref ate, .ref b0, .ref asb, .ref r0, .ref asr, .int trp])), (y0, .inr (0, [.int yR, .ref y1, .ref y2, .ref y3, .int yC, .int yU])), (y1, .inl (G.2.1 0, n, .inl yS)), (y2, .inl (G.2.1 0, n, .inl yL)), (y3, .inl (G.2.1 2, n, .inl yD))] sz)) (fun E t => ∃ u : Int32, (fun E u => ((¬ lg_cmp (fr + cn) (ly_ln yC k yL).toInt64 ≤ 0) ∧ E = E_uns ∧ u = tn)) E u ∧ va_P G.1 vwC [(h, .inr (1, [.ref m0, .ref aml, .ref amb, .ref t0, .ref atl, .ref att, .ref ate, .ref b0, .ref asb, .ref r0, .ref asr, .int u])), (y0, .inr (0, [.int yR, .ref y1, .ref y2, .ref y3, .int yC, .int yU])), (y1, .inl (G.2.1 0, n, .inl yS)), (y2, .inl (G.2.1 0, n, .inl yL)), (y3, .inl (G.2.1 2, n, .inl yD))] t.heap) (va_A [(h, .inr (1, [.ref m0, .ref aml, .ref amb, .ref t0, .ref atl, .ref att, .ref ate, .ref b0, .ref asb, .ref r0, .ref asr, .int trp])), (y0, .inr (0, [.int yR, .ref y1, .ref y2, .ref y3, .int yC, .int yU])), (y1, .inl (G.2.1 0, n, .inl yS)), (y2, .inl (G.2.1 0, n, .inl yL)), (y3, .inl (G.2.1 2, n, .inl yD))] sz) 1 6 :=
  t_Pm_placeOf l hst G h m0 aml amb t0 atl att ate b0 asb r0 asr y0 y1 y2 y3 n trp yR yC yU yS yL yD k fr cn tn sz (fun r u => (lg_cmp (fr + cn) (ly_ln yC k yL).toInt64 ≤ 0) ∧ r = (ly_st yC k yS + fr.toInt32) ∧ u = trp) (fun E u => ((¬ lg_cmp (fr + cn) (ly_ln yC k yL).toInt64 ≤ 0) ∧ E = E_uns ∧ u = tn)) (by
    unfold wp_Pm_placeOf
    exact ⟨h0, fun c => ⟨h0, c, rfl, rfl⟩, fun c => ⟨c, rfl, rfl⟩⟩)
end
section
def wp_Pm_memory (post : Int32 → ((Nat → Int32) × (Nat → Int32) × Int32 × Int32 × (Nat → Int32)) → Prop) (trp : Int32) (mC : Int32) (mU : Int32) (mS : Nat → Int32) (mL : Nat → Int32) (mD : Nat → Int32) (fml : Nat → Int32) (pg : Int32) (lim : Int32) : Prop := ((¬ ly_full mC 6 = 0 → (post (-1) (mS, mL, mC, mU, fml))) ∧ (ly_full mC 6 = 0 → (((pg < 0 → (post (-1) (mS, mL, mC, mU, fml))) ∧ (¬ pg < 0 → (((lim < pg → (post (-1) (mS, mL, mC, mU, fml))) ∧ (¬ lim < pg → (((65536 < lim → (post (-1) (mS, mL, mC, mU, fml))) ∧ (¬ 65536 < lim → (((pg ≤ (12288 - mU) / 256 → ((vp_in mC 6) ∧ ((ly_full mC 6 = 0) ∧ (∀ u_8 : Nat → Int32, u_8 = upd mS mC.toNatClampNeg mU → (∀ u_9 : Nat → Int32, u_9 = upd mL mC.toNatClampNeg (pg * 256) → (∀ u_10 : Int32, u_10 = mC + 1 → (∀ u_11 : Int32, u_11 = mU + (pg * 256) → ((vp_in mC 6) ∧ ∀ a_13 : Nat → Int32, a_13 = upd fml mC.toNatClampNeg lim → (post mC (u_8, u_9, u_10, u_11, a_13)))))))))) ∧ (¬ pg ≤ (12288 - mU) / 256 → (post (-1) (mS, mL, mC, mU, fml))))))))))))))))
set_option maxHeartbeats 4000000 in
set_option maxRecDepth 100000 in
theorem t_Pm_memory (l : Launch) (G : cxT) (h : Nat) (m0 : Nat) (aml : Nat) (amb : Nat) (t0 : Nat) (atl : Nat) (att : Nat) (ate : Nat) (b0 : Nat) (asb : Nat) (r0 : Nat) (asr : Nat) (m1 : Nat) (m2 : Nat) (m3 : Nat) (trp : Int32) (mC : Int32) (mU : Int32) (mS : Nat → Int32) (mL : Nat → Int32) (mD : Nat → Int32) (fml : Nat → Int32) (pg : Int32) (lim : Int32) (sz : Nat) (post : Int32 → ((Nat → Int32) × (Nat → Int32) × Int32 × Int32 × (Nat → Int32)) → Prop) (hw : wp_Pm_memory post trp mC mU mS mL mD fml pg lim) : Met l y_Pm_memory [.code y_Pm_memory b_Pm_memory 4 (some .int)] ({ frames := 4, cells := 0, slots := 0, locals := 140 } : Room) (cm G [.ref h, .int pg, .int lim] [(h, .inr (1, [.ref m0, .ref aml, .ref amb, .ref t0, .ref atl, .ref att, .ref ate, .ref b0, .ref asb, .ref r0, .ref asr, .int trp])), (m0, .inr (0, [.int 12288, .ref m1, .ref m2, .ref m3, .int mC, .int mU])), (m1, .inl (G.2.1 0, 6, .inl mS)), (m2, .inl (G.2.1 0, 6, .inl mL)), (m3, .inl (G.2.1 2, 6, .inl mD)), (aml, .inl (G.2.1 0, 6, .inl fml))] sz) (va_Qi post (fun u t => va_P G.1 vwC [(h, .inr (1, [.ref m0, .ref aml, .ref amb, .ref t0, .ref atl, .ref att, .ref ate, .ref b0, .ref asb, .ref r0, .ref asr, .int trp])), (m0, .inr (0, [.int 12288, .ref m1, .ref m2, .ref m3, .int u.2.2.1, .int u.2.2.2.1])), (m1, .inl (G.2.1 0, 6, .inl u.1)), (m2, .inl (G.2.1 0, 6, .inl u.2.1)), (m3, .inl (G.2.1 2, 6, .inl mD)), (aml, .inl (G.2.1 0, 6, .inl u.2.2.2.2))] t.heap) (va_A [(h, .inr (1, [.ref m0, .ref aml, .ref amb, .ref t0, .ref atl, .ref att, .ref ate, .ref b0, .ref asb, .ref r0, .ref asr, .int trp])), (m0, .inr (0, [.int 12288, .ref m1, .ref m2, .ref m3, .int mC, .int mU])), (m1, .inl (G.2.1 0, 6, .inl mS)), (m2, .inl (G.2.1 0, 6, .inl mL)), (m3, .inl (G.2.1 2, 6, .inl mD)), (aml, .inl (G.2.1 0, 6, .inl fml))] sz)) 0 0 (va_A [(h, .inr (1, [.ref m0, .ref aml, .ref amb, .ref t0, .ref atl, .ref att, .ref ate, .ref b0, .ref asb, .ref r0, .ref asr, .int trp])), (m0, .inr (0, [.int 12288, .ref m1, .ref m2, .ref m3, .int mC, .int mU])), (m1, .inl (G.2.1 0, 6, .inl mS)), (m2, .inl (G.2.1 0, 6, .inl mL)), (m3, .inl (G.2.1 2, 6, .inl mD)), (aml, .inl (G.2.1 0, 6, .inl fml))] sz) := by
  refine Met.ofW (cc := b_Pm_memory) (maxL := 4) (ret := (some .int)) (by decide +kernel) rfl ?_
  intro p e s m args below meth c s₁ B hml hv
  obtain ⟨rfl, hsz, hcx, hP, hD0⟩ := hv
  have hx := B.exec
  have hb := B.bytes
  have hr := B.returns
  have hlocks := B.notSynchronized
  have hown : s.vm.findClass R_Pm = some m.cls := findClass_of_methodNamed B.named
  subst hsz
  have hD := hD0.self (sz := s.heap.size)
  generalize hAe : va_A [(h, .inr (1, [.ref m0, .ref aml, .ref amb, .ref t0, .ref atl, .ref att, .ref ate, .ref b0, .ref asb, .ref r0, .ref asr, .int trp])), (m0, .inr (0, [.int 12288, .ref m1, .ref m2, .ref m3, .int mC, .int mU])), (m1, .inl (G.2.1 0, 6, .inl mS)), (m2, .inl (G.2.1 0, 6, .inl mL)), (m3, .inl (G.2.1 2, 6, .inl mD)), (aml, .inl (G.2.1 0, 6, .inl fml))] s.heap.size = A at hD hcx ⊢
  have hA : ∀ q : Nat, s.heap.size ≤ q → A q := fun q h => by rw [← hAe]; exact Or.inr h
  have hS : va_S A s.heap s.heap [] := va_S.rf
  have hts := hcx.now.1 [.ref h, .int pg, .int lim].toArray
  have hK := hcx.now.2.1
  have hl := lv_entry ([.ref h, .int pg, .int lim]) (n := 4) (Nat.le_of_ble_eq_true rfl)
  rw [lg_entry_eq]
  generalize (lg_sl ([.ref h, .int pg, .int lim]) ++ List.replicate (4 - (lg_sl ([.ref h, .int pg, .int lim])).length) Slot.unset).toArray = ls at hl ⊢
  have hl : lv_has ls 4 [(0, .ref h), (1, .int pg), (2, .int lim)] := hl
  unfold wp_Pm_memory at hw
  refine lv_aload_n hx hb d_Pm_memory_0 rfl (lv_at hl 0 rfl) ?_
  refine va_get (D := G.1) (ci := 1) (v := .ref m0) (C := R_Pm) (T := T_Pm) (N := 12) hx hb hts in_Pm hown hK hP 0 rfl rfl 0 (by decide) (hts _ fl_Pm_14) (fun _ h9 => h9) rfl d_Pm_memory_1 ?_
  have hPc := hP.sub (ws' := [(m0, .inr (0, [.int 12288, .ref m1, .ref m2, .ref m3, .int mC, .int mU])), (m1, .inl (G.2.1 0, 6, .inl mS)), (m2, .inl (G.2.1 0, 6, .inl mL)), (m3, .inl (G.2.1 2, 6, .inl mD))]) [1, 2, 3, 4] rfl
  refine pu_i (va_runV (As := []) (rest := []) ⟨hx, hb, hml, hown, hts⟩ (c_Ly_isFull l G m0 m1 m2 m3 6 12288 mC mU mS mL mD) (cwV 0 hts (gi_V ml_Pm_54 im_Ly_isFull se_Ly_isFull ini_Ly co_Ly_isFull) rfl rfl rfl (by decide +kernel) ⟨Nat.le_of_ble_eq_true rfl, Nat.le_of_ble_eq_true rfl⟩) ⟨cp_blind, va_recv hK hPc (ci := 0) (q0 := 0) rfl rfl, cp_pre hcx hS hPc⟩ rfl rfl hl.1 rfl (lv_room (Nat.le_of_ble_eq_true rfl)) d_Pm_memory_4 ⟨Nat.le_of_ble_eq_true rfl, Nat.le_of_ble_eq_true rfl⟩) hS hP (fun H locs hP hS => ?_)
  refine lv_if_ne (tgt := 33) hx hb d_Pm_memory_7 (by decide) (fun c_1 => ?_) (fun c_1 => ?_)
  · replace hw := hw.1 c_1
    refine lv_iconst (v := (-1)) hx hb d_Pm_memory_33 (by decide) ?_
    exact W.iret (v := (-1)) hx hb hr (fun t ht hW => ⟨⟨(-1), (mS, mL, mC, mU, fml), rfl, hw, by have h9 := hP; rw [← ht] at h9; exact h9⟩, hS.F ht⟩) hS.2.2 d_Pm_memory_34
  · replace hw := hw.2 c_1
    refine lv_iload_n hx hb d_Pm_memory_10 rfl (lv_at hl 1 rfl) ?_
    refine lv_if_lt (tgt := 33) hx hb d_Pm_memory_11 (by decide) (fun c_2 => ?_) (fun c_2 => ?_)
    · replace hw := hw.1 c_2
      refine lv_iconst (v := (-1)) hx hb d_Pm_memory_33 (by decide) ?_
      exact W.iret (v := (-1)) hx hb hr (fun t ht hW => ⟨⟨(-1), (mS, mL, mC, mU, fml), rfl, hw, by have h9 := hP; rw [← ht] at h9; exact h9⟩, hS.F ht⟩) hS.2.2 d_Pm_memory_34
    · replace hw := hw.2 c_2
      refine lv_iload_n hx hb d_Pm_memory_14 rfl (lv_at hl 1 rfl) ?_
      refine lv_iload_n hx hb d_Pm_memory_15 rfl (lv_at hl 2 rfl) ?_
      refine lv_icmp_gt (tgt := 33) hx hb d_Pm_memory_16 (by decide) (fun c_3 => ?_) (fun c_3 => ?_)
      · replace hw := hw.1 c_3
        refine lv_iconst (v := (-1)) hx hb d_Pm_memory_33 (by decide) ?_
        exact W.iret (v := (-1)) hx hb hr (fun t ht hW => ⟨⟨(-1), (mS, mL, mC, mU, fml), rfl, hw, by have h9 := hP; rw [← ht] at h9; exact h9⟩, hS.F ht⟩) hS.2.2 d_Pm_memory_34
      · replace hw := hw.2 c_3
        refine lv_iload_n hx hb d_Pm_memory_19 rfl (lv_at hl 2 rfl) ?_
        refine lv_ldc (v := 65536) hx hb hown (hts _ k_Pm_58) d_Pm_memory_20 ?_
        refine lv_icmp_gt (tgt := 33) hx hb d_Pm_memory_22 (by decide) (fun c_4 => ?_) (fun c_4 => ?_)
        · replace hw := hw.1 c_4
          refine lv_iconst (v := (-1)) hx hb d_Pm_memory_33 (by decide) ?_
          exact W.iret (v := (-1)) hx hb hr (fun t ht hW => ⟨⟨(-1), (mS, mL, mC, mU, fml), rfl, hw, by have h9 := hP; rw [← ht] at h9; exact h9⟩, hS.F ht⟩) hS.2.2 d_Pm_memory_34
        · replace hw := hw.2 c_4
          refine lv_iload_n hx hb d_Pm_memory_25 rfl (lv_at hl 1 rfl) ?_
          refine lv_aload_n hx hb d_Pm_memory_26 rfl (lv_at hl 0 rfl) ?_
          have hPc := hP.sub (ws' := [(h, .inr (1, [.ref m0, .ref aml, .ref amb, .ref t0, .ref atl, .ref att, .ref ate, .ref b0, .ref asb, .ref r0, .ref asr, .int trp])), (m0, .inr (0, [.int 12288, .ref m1, .ref m2, .ref m3, .int mC, .int mU])), (m1, .inl (G.2.1 0, 6, .inl mS)), (m2, .inl (G.2.1 0, 6, .inl mL)), (m3, .inl (G.2.1 2, 6, .inl mD))]) [0, 1, 2, 3, 4] rfl
          refine pu_i (va_runV (As := []) (rest := [.int pg]) ⟨hx, hb, hml, hown, hts⟩ (c_Pm_pagesLeft l G h m0 aml amb t0 atl att ate b0 asb r0 asr m1 m2 m3 trp mC mU mS mL mD) (cwV 0 hts (gi_V ml_Pm_59 im_Pm_pagesLeft se_Pm_pagesLeft ini_Pm co_Pm_pagesLeft) rfl rfl rfl (by decide +kernel) ⟨Nat.le_of_ble_eq_true rfl, Nat.le_of_ble_eq_true rfl⟩) ⟨cp_blind, va_recv hK hPc (ci := 1) (q0 := 0) rfl rfl, cp_pre hcx hS hPc⟩ rfl rfl hl.1 rfl (lv_room (Nat.le_of_ble_eq_true rfl)) d_Pm_memory_27 ⟨Nat.le_of_ble_eq_true rfl, Nat.le_of_ble_eq_true rfl⟩) hS hP (fun H locs hP hS => ?_)
          refine lv_icmp_le (tgt := 35) hx hb d_Pm_memory_30 (by decide) (fun c_5 => ?_) (fun c_5 => ?_)
          · replace hw := hw.1 c_5
            refine lv_aload_n hx hb d_Pm_memory_35 rfl (lv_at hl 0 rfl) ?_
            refine va_get (D := G.1) (ci := 1) (v := .ref m0) (C := R_Pm) (T := T_Pm) (N := 12) hx hb hts in_Pm hown hK hP 0 rfl rfl 0 (by decide) (hts _ fl_Pm_14) (fun _ h9 => h9) rfl d_Pm_memory_36 ?_
            refine lv_iload_n hx hb d_Pm_memory_39 rfl (lv_at hl 1 rfl) ?_
            refine lv_sipush (v := 256) hx hb d_Pm_memory_40 (by decide) ?_
            refine lv_imul hx hb d_Pm_memory_43 ?_
            obtain ⟨h_6, hw⟩ := hw
            obtain ⟨h_7, hw⟩ := hw
            have hPc := hP.sub (ws' := [(m0, .inr (0, [.int 12288, .ref m1, .ref m2, .ref m3, .int mC, .int mU])), (m1, .inl (G.2.1 0, 6, .inl mS)), (m2, .inl (G.2.1 0, 6, .inl mL)), (m3, .inl (G.2.1 2, 6, .inl mD))]) [1, 2, 3, 4] rfl
            have hDc := hD.sub (ws' := [(m0, .inr (0, [.int 12288, .ref m1, .ref m2, .ref m3, .int mC, .int mU])), (m1, .inl (G.2.1 0, 6, .inl mS)), (m2, .inl (G.2.1 0, 6, .inl mL)), (m3, .inl (G.2.1 2, 6, .inl mD))]) [1, 2, 3, 4] (by decide) rfl
            have hFc := va_free (wc := [(m0, .inr (0, [.int 12288, .ref m1, .ref m2, .ref m3, .int mC, .int mU])), (m1, .inl (G.2.1 0, 6, .inl mS)), (m2, .inl (G.2.1 0, 6, .inl mL)), (m3, .inl (G.2.1 2, 6, .inl mD))]) hD hS hA [1, 2, 3, 4] rfl
            refine ip_i (va_runV (As := [.int (pg * 256)]) (rest := []) ⟨hx, hb, hml, hown, hts⟩ (c_Ly_append l G m0 m1 m2 m3 6 12288 mC mU mS mL mD (pg * 256) _ h_6 h_7) (cwV 1 hts (gi_V ml_Pm_63 im_Ly_append se_Ly_append ini_Ly co_Ly_append) rfl rfl rfl (by decide +kernel) ⟨Nat.le_of_ble_eq_true rfl, Nat.le_of_ble_eq_true rfl⟩) ⟨cm_blind, va_recv hK hPc (ci := 0) (q0 := 0) rfl rfl, cm_pre hcx hS hPc hDc hFc⟩ rfl rfl hl.1 rfl (lv_room (Nat.le_of_ble_eq_true rfl)) d_Pm_memory_44 ⟨Nat.le_of_ble_eq_true rfl, Nat.le_of_ble_eq_true rfl⟩) hS hP hD hA [1, 2, 3, 4] rfl (fun _ => rfl) (fun r9 u9 H locs hp hP hD hS => ?_)
            obtain ⟨e91, e92⟩ := hp; replace e91 := e91.symm; replace e92 := e92.symm; subst e91; subst e92
            obtain ⟨u_8, eu_8⟩ : ∃ z : Nat → Int32, z = upd mS mC.toNatClampNeg mU := ⟨_, rfl⟩
            replace hw := hw u_8 eu_8
            obtain ⟨u_9, eu_9⟩ : ∃ z : Nat → Int32, z = upd mL mC.toNatClampNeg (pg * 256) := ⟨_, rfl⟩
            replace hw := hw u_9 eu_9
            obtain ⟨u_10, eu_10⟩ : ∃ z : Int32, z = mC + 1 := ⟨_, rfl⟩
            replace hw := hw u_10 eu_10
            obtain ⟨u_11, eu_11⟩ : ∃ z : Int32, z = mU + (pg * 256) := ⟨_, rfl⟩
            replace hw := hw u_11 eu_11
            have hP : va_P G.1 vwC [(h, .inr (1, [.ref m0, .ref aml, .ref amb, .ref t0, .ref atl, .ref att, .ref ate, .ref b0, .ref asb, .ref r0, .ref asr, .int trp])), (m0, .inr (0, [.int 12288, .ref m1, .ref m2, .ref m3, .int (mC + 1), .int (mU + (pg * 256))])), (m1, .inl (G.2.1 0, 6, .inl (upd mS mC.toNatClampNeg mU))), (m2, .inl (G.2.1 0, 6, .inl (upd mL mC.toNatClampNeg (pg * 256)))), (m3, .inl (G.2.1 2, 6, .inl mD)), (aml, .inl (G.2.1 0, 6, .inl fml))] H := hP
            have hD : va_D A [(h, .inr (1, [.ref m0, .ref aml, .ref amb, .ref t0, .ref atl, .ref att, .ref ate, .ref b0, .ref asb, .ref r0, .ref asr, .int trp])), (m0, .inr (0, [.int 12288, .ref m1, .ref m2, .ref m3, .int (mC + 1), .int (mU + (pg * 256))])), (m1, .inl (G.2.1 0, 6, .inl (upd mS mC.toNatClampNeg mU))), (m2, .inl (G.2.1 0, 6, .inl (upd mL mC.toNatClampNeg (pg * 256)))), (m3, .inl (G.2.1 2, 6, .inl mD)), (aml, .inl (G.2.1 0, 6, .inl fml))] := hD
            have hP : va_P G.1 vwC [(h, .inr (1, [.ref m0, .ref aml, .ref amb, .ref t0, .ref atl, .ref att, .ref ate, .ref b0, .ref asb, .ref r0, .ref asr, .int trp])), (m0, .inr (0, [.int 12288, .ref m1, .ref m2, .ref m3, .int u_10, .int u_11])), (m1, .inl (G.2.1 0, 6, .inl u_8)), (m2, .inl (G.2.1 0, 6, .inl u_9)), (m3, .inl (G.2.1 2, 6, .inl mD)), (aml, .inl (G.2.1 0, 6, .inl fml))] H := by rw [eu_8]; rw [eu_9]; rw [eu_10]; rw [eu_11]; exact hP
            have hD : va_D A [(h, .inr (1, [.ref m0, .ref aml, .ref amb, .ref t0, .ref atl, .ref att, .ref ate, .ref b0, .ref asb, .ref r0, .ref asr, .int trp])), (m0, .inr (0, [.int 12288, .ref m1, .ref m2, .ref m3, .int u_10, .int u_11])), (m1, .inl (G.2.1 0, 6, .inl u_8)), (m2, .inl (G.2.1 0, 6, .inl u_9)), (m3, .inl (G.2.1 2, 6, .inl mD)), (aml, .inl (G.2.1 0, 6, .inl fml))] := by rw [eu_8]; rw [eu_9]; rw [eu_10]; rw [eu_11]; exact hD
            refine lv_istore_n (lv' := [(3, .int mC), (0, .ref h), (1, .int pg), (2, .int lim)]) hx hb d_Pm_memory_47 rfl hl (by decide) rfl (fun ls hl => ?_)
            refine lv_aload_n hx hb d_Pm_memory_48 rfl (lv_at hl 1 rfl) ?_
            refine va_get (D := G.1) (ci := 1) (v := .ref aml) (C := R_Pm) (T := T_Pm) (N := 12) hx hb hts in_Pm hown hK hP 0 rfl rfl 1 (by decide) (hts _ fl_Pm_18) (fun _ h9 => h9) rfl d_Pm_memory_49 ?_
            refine lv_iload_n hx hb d_Pm_memory_52 rfl (lv_at hl 0 rfl) ?_
            refine lv_iload_n hx hb d_Pm_memory_53 rfl (lv_at hl 3 rfl) ?_
            obtain ⟨h_12, hw⟩ := hw
            obtain ⟨a_13, ea_13⟩ : ∃ z, z = upd fml mC.toNatClampNeg lim := ⟨_, rfl⟩
            replace hw := hw a_13 ea_13
            refine va_iast hx hb hK hP hD hS 5 0 rfl rfl h_12 d_Pm_memory_54 (fun H locs hP hD hS => ?_)
            rw [← ea_13] at hP hD
            have hP : va_P G.1 vwC [(h, .inr (1, [.ref m0, .ref aml, .ref amb, .ref t0, .ref atl, .ref att, .ref ate, .ref b0, .ref asb, .ref r0, .ref asr, .int trp])), (m0, .inr (0, [.int 12288, .ref m1, .ref m2, .ref m3, .int u_10, .int u_11])), (m1, .inl (G.2.1 0, 6, .inl u_8)), (m2, .inl (G.2.1 0, 6, .inl u_9)), (m3, .inl (G.2.1 2, 6, .inl mD)), (aml, .inl (G.2.1 0, 6, .inl a_13))] H := hP
            have hD : va_D A [(h, .inr (1, [.ref m0, .ref aml, .ref amb, .ref t0, .ref atl, .ref att, .ref ate, .ref b0, .ref asb, .ref r0, .ref asr, .int trp])), (m0, .inr (0, [.int 12288, .ref m1, .ref m2, .ref m3, .int u_10, .int u_11])), (m1, .inl (G.2.1 0, 6, .inl u_8)), (m2, .inl (G.2.1 0, 6, .inl u_9)), (m3, .inl (G.2.1 2, 6, .inl mD)), (aml, .inl (G.2.1 0, 6, .inl a_13))] := hD
            refine lv_iload_n hx hb d_Pm_memory_55 rfl (lv_at hl 0 rfl) ?_
            exact W.iret (v := mC) hx hb hr (fun t ht hW => ⟨⟨mC, (u_8, u_9, u_10, u_11, a_13), rfl, hw, by have h9 := hP; rw [← ht] at h9; exact h9⟩, hS.F ht⟩) hS.2.2 d_Pm_memory_56
          · replace hw := hw.2 c_5
            refine lv_iconst (v := (-1)) hx hb d_Pm_memory_33 (by decide) ?_
            exact W.iret (v := (-1)) hx hb hr (fun t ht hW => ⟨⟨(-1), (mS, mL, mC, mU, fml), rfl, hw, by have h9 := hP; rw [← ht] at h9; exact h9⟩, hS.F ht⟩) hS.2.2 d_Pm_memory_34
def wp_Pm_grow (post : Int32 → ((Nat → Int32) × (Nat → Int32) × Int32 × (Nat → Int32)) → Prop) (trp : Int32) (mC : Int32) (mU : Int32) (mS : Nat → Int32) (mL : Nat → Int32) (mD : Nat → Int32) (fml : Nat → Int32) (fmb : Nat → Int32) (k : Int32) (ng : Int32) : Prop := ((¬ ly_has mC k = 0 → ((mC.toInt ≤ 6) ∧ (∀ x_3 : Int32, x_3 = ly_ln mC k mL / 256 → (∀ x_4 : Int64, x_4 = u32 ng → ((vp_in k 6) ∧ (((0 < lg_cmp (x_3.toInt64 + x_4) ((fml k.toNatClampNeg).toInt64) → (post (-1) (mS, mL, mU, fmb))) ∧ (¬ 0 < lg_cmp (x_3.toInt64 + x_4) ((fml k.toNatClampNeg).toInt64) → (((lg_cmp x_4 (((12288 - mU) / 256).toInt64) ≤ 0 → (∀ x_8 : Int32, x_8 = x_4.toInt32 * 256 → ((mC.toInt ≤ 6) ∧ (∀ x_10 : Int32, x_10 = ly_en mC mU k mS mL → ((¬ x_10 < 0) ∧ (¬ x_10 + x_8 < 0) ∧ (¬ mU - x_10 < 0) ∧ (x_10.toNatClampNeg + (mU - x_10).toNatClampNeg ≤ 12288) ∧ ((x_10 + x_8).toNatClampNeg + (mU - x_10).toNatClampNeg ≤ 12288) ∧ (∀ i, i < (mU - x_10).toNatClampNeg → fits .byte (.int (fmb (x_10.toNatClampNeg + i))) = true) ∧ ∀ a_17 : Nat → Int32, a_17 = va_cpy fmb fmb x_10.toNatClampNeg ((x_10 + x_8).toNatClampNeg) ((mU - x_10).toNatClampNeg) → ((¬ x_10 < 0) ∧ ((x_10 ≤ (x_10 + x_8)) ∧ (((x_10 + x_8) ≤ nI 12288) ∧ ((12288 < 2147483648) ∧ ((vp_nar .byte 0 = 0) ∧ (∀ u_23 : Nat → Int32, u_23 = ar_fill a_17 x_10.toNatClampNeg (x_10 + x_8).toNatClampNeg 0 → ((mC.toInt ≤ 6) ∧ ((¬ ly_has mC k = 0) ∧ ((6 < 2147483648) ∧ (∀ u_27 : Nat → Int32, u_27 = ly_shift mS k.toNatClampNeg mC.toNatClampNeg x_8 → (∀ u_28 : Nat → Int32, u_28 = upd mL k.toNatClampNeg (mL k.toNatClampNeg + x_8) → (∀ u_29 : Int32, u_29 = mU + x_8 → (post x_3 (u_27, u_28, u_29, u_23))))))))))))))))))) ∧ (¬ lg_cmp x_4 (((12288 - mU) / 256).toInt64) ≤ 0 → (post (-1) (mS, mL, mU, fmb))))))))))))) ∧ (ly_has mC k = 0 → (post (-1) (mS, mL, mU, fmb))))
set_option maxHeartbeats 4000000 in
set_option maxRecDepth 100000 in
theorem t_Pm_grow (l : Launch) (G : cxT) (h : Nat) (m0 : Nat) (aml : Nat) (amb : Nat) (t0 : Nat) (atl : Nat) (att : Nat) (ate : Nat) (b0 : Nat) (asb : Nat) (r0 : Nat) (asr : Nat) (m1 : Nat) (m2 : Nat) (m3 : Nat) (trp : Int32) (mC : Int32) (mU : Int32) (mS : Nat → Int32) (mL : Nat → Int32) (mD : Nat → Int32) (fml : Nat → Int32) (fmb : Nat → Int32) (k : Int32) (ng : Int32) (sz : Nat) (post : Int32 → ((Nat → Int32) × (Nat → Int32) × Int32 × (Nat → Int32)) → Prop) (hw : wp_Pm_grow post trp mC mU mS mL mD fml fmb k ng) : Met l y_Pm_grow [.code y_Pm_grow b_Pm_grow 8 (some .int)] ({ frames := 4, cells := 0, slots := 0, locals := 140 } : Room) (cm G [.ref h, .int k, .int ng] [(h, .inr (1, [.ref m0, .ref aml, .ref amb, .ref t0, .ref atl, .ref att, .ref ate, .ref b0, .ref asb, .ref r0, .ref asr, .int trp])), (m0, .inr (0, [.int 12288, .ref m1, .ref m2, .ref m3, .int mC, .int mU])), (m1, .inl (G.2.1 0, 6, .inl mS)), (m2, .inl (G.2.1 0, 6, .inl mL)), (m3, .inl (G.2.1 2, 6, .inl mD)), (aml, .inl (G.2.1 0, 6, .inl fml)), (amb, .inl (G.2.1 1, 12288, .inl fmb))] sz) (va_Qi post (fun u t => va_P G.1 vwC [(h, .inr (1, [.ref m0, .ref aml, .ref amb, .ref t0, .ref atl, .ref att, .ref ate, .ref b0, .ref asb, .ref r0, .ref asr, .int trp])), (m0, .inr (0, [.int 12288, .ref m1, .ref m2, .ref m3, .int mC, .int u.2.2.1])), (m1, .inl (G.2.1 0, 6, .inl u.1)), (m2, .inl (G.2.1 0, 6, .inl u.2.1)), (m3, .inl (G.2.1 2, 6, .inl mD)), (aml, .inl (G.2.1 0, 6, .inl fml)), (amb, .inl (G.2.1 1, 12288, .inl u.2.2.2))] t.heap) (va_A [(h, .inr (1, [.ref m0, .ref aml, .ref amb, .ref t0, .ref atl, .ref att, .ref ate, .ref b0, .ref asb, .ref r0, .ref asr, .int trp])), (m0, .inr (0, [.int 12288, .ref m1, .ref m2, .ref m3, .int mC, .int mU])), (m1, .inl (G.2.1 0, 6, .inl mS)), (m2, .inl (G.2.1 0, 6, .inl mL)), (m3, .inl (G.2.1 2, 6, .inl mD)), (aml, .inl (G.2.1 0, 6, .inl fml)), (amb, .inl (G.2.1 1, 12288, .inl fmb))] sz)) 0 0 (va_A [(h, .inr (1, [.ref m0, .ref aml, .ref amb, .ref t0, .ref atl, .ref att, .ref ate, .ref b0, .ref asb, .ref r0, .ref asr, .int trp])), (m0, .inr (0, [.int 12288, .ref m1, .ref m2, .ref m3, .int mC, .int mU])), (m1, .inl (G.2.1 0, 6, .inl mS)), (m2, .inl (G.2.1 0, 6, .inl mL)), (m3, .inl (G.2.1 2, 6, .inl mD)), (aml, .inl (G.2.1 0, 6, .inl fml)), (amb, .inl (G.2.1 1, 12288, .inl fmb))] sz) := by
  refine Met.ofW (cc := b_Pm_grow) (maxL := 8) (ret := (some .int)) (by decide +kernel) rfl ?_
  intro p e s m args below meth c s₁ B hml hv
  obtain ⟨rfl, hsz, hcx, hP, hD0⟩ := hv
  have hx := B.exec
  have hb := B.bytes
  have hr := B.returns
  have hlocks := B.notSynchronized
  have hown : s.vm.findClass R_Pm = some m.cls := findClass_of_methodNamed B.named
  subst hsz
  have hD := hD0.self (sz := s.heap.size)
  generalize hAe : va_A [(h, .inr (1, [.ref m0, .ref aml, .ref amb, .ref t0, .ref atl, .ref att, .ref ate, .ref b0, .ref asb, .ref r0, .ref asr, .int trp])), (m0, .inr (0, [.int 12288, .ref m1, .ref m2, .ref m3, .int mC, .int mU])), (m1, .inl (G.2.1 0, 6, .inl mS)), (m2, .inl (G.2.1 0, 6, .inl mL)), (m3, .inl (G.2.1 2, 6, .inl mD)), (aml, .inl (G.2.1 0, 6, .inl fml)), (amb, .inl (G.2.1 1, 12288, .inl fmb))] s.heap.size = A at hD hcx ⊢
  have hA : ∀ q : Nat, s.heap.size ≤ q → A q := fun q h => by rw [← hAe]; exact Or.inr h
  have hS : va_S A s.heap s.heap [] := va_S.rf
  have hts := hcx.now.1 [.ref h, .int k, .int ng].toArray
  have hK := hcx.now.2.1
  have hl := lv_entry ([.ref h, .int k, .int ng]) (n := 8) (Nat.le_of_ble_eq_true rfl)
  rw [lg_entry_eq]
  generalize (lg_sl ([.ref h, .int k, .int ng]) ++ List.replicate (8 - (lg_sl ([.ref h, .int k, .int ng])).length) Slot.unset).toArray = ls at hl ⊢
  have hl : lv_has ls 8 [(0, .ref h), (1, .int k), (2, .int ng)] := hl
  unfold wp_Pm_grow at hw
  refine lv_aload_n hx hb d_Pm_grow_0 rfl (lv_at hl 0 rfl) ?_
  refine va_get (D := G.1) (ci := 1) (v := .ref m0) (C := R_Pm) (T := T_Pm) (N := 12) hx hb hts in_Pm hown hK hP 0 rfl rfl 0 (by decide) (hts _ fl_Pm_14) (fun _ h9 => h9) rfl d_Pm_grow_1 ?_
  refine lv_iload_n hx hb d_Pm_grow_4 rfl (lv_at hl 1 rfl) ?_
  have hPc := hP.sub (ws' := [(m0, .inr (0, [.int 12288, .ref m1, .ref m2, .ref m3, .int mC, .int mU])), (m1, .inl (G.2.1 0, 6, .inl mS)), (m2, .inl (G.2.1 0, 6, .inl mL)), (m3, .inl (G.2.1 2, 6, .inl mD))]) [1, 2, 3, 4] rfl
  refine pu_i (va_runV (As := [.int k]) (rest := []) ⟨hx, hb, hml, hown, hts⟩ (c_Ly_has l G m0 m1 m2 m3 6 12288 mC mU mS mL mD k) (cwV 1 hts (gi_V ml_Pm_67 im_Ly_has se_Ly_has ini_Ly co_Ly_has) rfl rfl rfl (by decide +kernel) ⟨Nat.le_of_ble_eq_true rfl, Nat.le_of_ble_eq_true rfl⟩) ⟨cp_blind, va_recv hK hPc (ci := 0) (q0 := 0) rfl rfl, cp_pre hcx hS hPc⟩ rfl rfl hl.1 rfl (lv_room (Nat.le_of_ble_eq_true rfl)) d_Pm_grow_5 ⟨Nat.le_of_ble_eq_true rfl, Nat.le_of_ble_eq_true rfl⟩) hS hP (fun H locs hP hS => ?_)
  refine lv_if_ne (tgt := 13) hx hb d_Pm_grow_8 (by decide) (fun c_1 => ?_) (fun c_1 => ?_)
  · replace hw := hw.1 c_1
    refine lv_aload_n hx hb d_Pm_grow_13 rfl (lv_at hl 0 rfl) ?_
    refine lv_iload_n hx hb d_Pm_grow_14 rfl (lv_at hl 1 rfl) ?_
    obtain ⟨h_2, hw⟩ := hw
    have hPc := hP.sub (ws' := [(h, .inr (1, [.ref m0, .ref aml, .ref amb, .ref t0, .ref atl, .ref att, .ref ate, .ref b0, .ref asb, .ref r0, .ref asr, .int trp])), (m0, .inr (0, [.int 12288, .ref m1, .ref m2, .ref m3, .int mC, .int mU])), (m1, .inl (G.2.1 0, 6, .inl mS)), (m2, .inl (G.2.1 0, 6, .inl mL)), (m3, .inl (G.2.1 2, 6, .inl mD))]) [0, 1, 2, 3, 4] rfl
    refine pu_i (va_runV (As := [.int k]) (rest := []) ⟨hx, hb, hml, hown, hts⟩ (c_Pm_pagesOf l G h m0 aml amb t0 atl att ate b0 asb r0 asr m1 m2 m3 trp mC mU mS mL mD k h_2) (cwV 1 hts (gi_V ml_Pm_71 im_Pm_pagesOf se_Pm_pagesOf ini_Pm co_Pm_pagesOf) rfl rfl rfl (by decide +kernel) ⟨Nat.le_of_ble_eq_true rfl, Nat.le_of_ble_eq_true rfl⟩) ⟨cp_blind, va_recv hK hPc (ci := 1) (q0 := 0) rfl rfl, cp_pre hcx hS hPc⟩ rfl rfl hl.1 rfl (lv_room (Nat.le_of_ble_eq_true rfl)) d_Pm_grow_15 ⟨Nat.le_of_ble_eq_true rfl, Nat.le_of_ble_eq_true rfl⟩) hS hP (fun H locs hP hS => ?_)
    refine lv_topi (fun x_3 ex_3 => ?_)
    replace hw := hw x_3 ex_3
    refine lv_istore_n (lv' := [(3, .int x_3), (0, .ref h), (1, .int k), (2, .int ng)]) hx hb d_Pm_grow_18 rfl hl (by decide) rfl (fun ls hl => ?_)
    refine lv_iload_n hx hb d_Pm_grow_19 rfl (lv_at hl 3 rfl) ?_
    have hPc := hP.sub (ws' := []) [] rfl
    refine pu_l (va_runS (As := [.int ng]) (rest := []) ⟨hx, hb, hml, hown, hts⟩ (c_Pm_unsigned l G ng) (va_cwS 1 hts (gi_S ml_Pm_74 sm_Pm_unsigned ini_Pm co_Pm_unsigned) rfl rfl rfl (by decide +kernel) ⟨Nat.le_of_ble_eq_true rfl, Nat.le_of_ble_eq_true rfl⟩) ⟨cp_blind, cp_pre hcx hS hPc⟩ rfl rfl hl.1 rfl (lv_room (Nat.le_of_ble_eq_true rfl)) d_Pm_grow_20 ⟨Nat.le_of_ble_eq_true rfl, Nat.le_of_ble_eq_true rfl⟩) hS hP (fun H locs hP hS => ?_)
    refine lv_topl (fun x_4 ex_4 => ?_)
    replace hw := hw x_4 ex_4
    refine lv_lstore (lv' := [(4, .long x_4), (3, .int x_3), (0, .ref h), (1, .int k), (2, .int ng)]) hx hb d_Pm_grow_23 hl (by decide) rfl (fun ls hl => ?_)
    refine lv_iload_n hx hb d_Pm_grow_25 rfl (lv_at hl 1 rfl) ?_
    refine lv_i2l (v := x_3.toInt64) hx hb d_Pm_grow_26 rfl ?_
    refine lv_lload hx hb d_Pm_grow_27 (lv_at hl 0 rfl) ?_
    refine lv_ladd hx hb d_Pm_grow_29 ?_
    refine lv_aload_n hx hb d_Pm_grow_30 rfl (lv_at hl 2 rfl) ?_
    refine va_get (D := G.1) (ci := 1) (v := .ref aml) (C := R_Pm) (T := T_Pm) (N := 12) hx hb hts in_Pm hown hK hP 0 rfl rfl 1 (by decide) (hts _ fl_Pm_18) (fun _ h9 => h9) rfl d_Pm_grow_31 ?_
    refine lv_iload_n hx hb d_Pm_grow_34 rfl (lv_at hl 3 rfl) ?_
    obtain ⟨h_5, hw⟩ := hw
    refine va_iald hx hb hK hP 5 0 rfl rfl h_5 d_Pm_grow_35 ?_
    refine lv_i2l (v := (fml k.toNatClampNeg).toInt64) hx hb d_Pm_grow_36 rfl ?_
    refine W.lcmp hx hb d_Pm_grow_37 ?_
    refine lv_if_gt (tgt := 52) hx hb d_Pm_grow_38 (by decide) (fun c_6 => ?_) (fun c_6 => ?_)
    · replace hw := hw.1 c_6
      refine lv_iconst (v := (-1)) hx hb d_Pm_grow_52 (by decide) ?_
      exact W.iret (v := (-1)) hx hb hr (fun t ht hW => ⟨⟨(-1), (mS, mL, mU, fmb), rfl, hw, by have h9 := hP; rw [← ht] at h9; exact h9⟩, hS.F ht⟩) hS.2.2 d_Pm_grow_53
    · replace hw := hw.2 c_6
      refine lv_lload hx hb d_Pm_grow_41 (lv_at hl 0 rfl) ?_
      refine lv_aload_n hx hb d_Pm_grow_43 rfl (lv_at hl 2 rfl) ?_
      have hPc := hP.sub (ws' := [(h, .inr (1, [.ref m0, .ref aml, .ref amb, .ref t0, .ref atl, .ref att, .ref ate, .ref b0, .ref asb, .ref r0, .ref asr, .int trp])), (m0, .inr (0, [.int 12288, .ref m1, .ref m2, .ref m3, .int mC, .int mU])), (m1, .inl (G.2.1 0, 6, .inl mS)), (m2, .inl (G.2.1 0, 6, .inl mL)), (m3, .inl (G.2.1 2, 6, .inl mD))]) [0, 1, 2, 3, 4] rfl
      refine pu_i (va_runV (As := []) (rest := [.long x_4]) ⟨hx, hb, hml, hown, hts⟩ (c_Pm_pagesLeft l G h m0 aml amb t0 atl att ate b0 asb r0 asr m1 m2 m3 trp mC mU mS mL mD) (cwV 0 hts (gi_V ml_Pm_59 im_Pm_pagesLeft se_Pm_pagesLeft ini_Pm co_Pm_pagesLeft) rfl rfl rfl (by decide +kernel) ⟨Nat.le_of_ble_eq_true rfl, Nat.le_of_ble_eq_true rfl⟩) ⟨cp_blind, va_recv hK hPc (ci := 1) (q0 := 0) rfl rfl, cp_pre hcx hS hPc⟩ rfl rfl hl.1 rfl (lv_room (Nat.le_of_ble_eq_true rfl)) d_Pm_grow_44 ⟨Nat.le_of_ble_eq_true rfl, Nat.le_of_ble_eq_true rfl⟩) hS hP (fun H locs hP hS => ?_)
      refine lv_i2l (v := ((12288 - mU) / 256).toInt64) hx hb d_Pm_grow_47 rfl ?_
      refine W.lcmp hx hb d_Pm_grow_48 ?_
      refine lv_if_le (tgt := 54) hx hb d_Pm_grow_49 (by decide) (fun c_7 => ?_) (fun c_7 => ?_)
      · replace hw := hw.1 c_7
        refine lv_lload hx hb d_Pm_grow_54 (lv_at hl 0 rfl) ?_
        refine lv_l2i (v := x_4.toInt32) hx hb d_Pm_grow_56 rfl ?_
        refine lv_sipush (v := 256) hx hb d_Pm_grow_57 (by decide) ?_
        refine lv_imul hx hb d_Pm_grow_60 ?_
        refine lv_topi (fun x_8 ex_8 => ?_)
        replace hw := hw x_8 ex_8
        refine lv_istore (lv' := [(6, .int x_8), (4, .long x_4), (3, .int x_3), (0, .ref h), (1, .int k), (2, .int ng)]) hx hb d_Pm_grow_61 hl (by decide) rfl (fun ls hl => ?_)
        refine lv_aload_n hx hb d_Pm_grow_63 rfl (lv_at hl 3 rfl) ?_
        refine va_get (D := G.1) (ci := 1) (v := .ref m0) (C := R_Pm) (T := T_Pm) (N := 12) hx hb hts in_Pm hown hK hP 0 rfl rfl 0 (by decide) (hts _ fl_Pm_14) (fun _ h9 => h9) rfl d_Pm_grow_64 ?_
        refine lv_iload_n hx hb d_Pm_grow_67 rfl (lv_at hl 4 rfl) ?_
        obtain ⟨h_9, hw⟩ := hw
        have hPc := hP.sub (ws' := [(m0, .inr (0, [.int 12288, .ref m1, .ref m2, .ref m3, .int mC, .int mU])), (m1, .inl (G.2.1 0, 6, .inl mS)), (m2, .inl (G.2.1 0, 6, .inl mL)), (m3, .inl (G.2.1 2, 6, .inl mD))]) [1, 2, 3, 4] rfl
        refine pu_i (va_runV (As := [.int k]) (rest := []) ⟨hx, hb, hml, hown, hts⟩ (c_Ly_endOf l G m0 m1 m2 m3 6 12288 mC mU mS mL mD k h_9) (cwV 1 hts (gi_V ml_Pm_78 im_Ly_endOf se_Ly_endOf ini_Ly co_Ly_endOf) rfl rfl rfl (by decide +kernel) ⟨Nat.le_of_ble_eq_true rfl, Nat.le_of_ble_eq_true rfl⟩) ⟨cp_blind, va_recv hK hPc (ci := 0) (q0 := 0) rfl rfl, cp_pre hcx hS hPc⟩ rfl rfl hl.1 rfl (lv_room (Nat.le_of_ble_eq_true rfl)) d_Pm_grow_68 ⟨Nat.le_of_ble_eq_true rfl, Nat.le_of_ble_eq_true rfl⟩) hS hP (fun H locs hP hS => ?_)
        refine lv_topi (fun x_10 ex_10 => ?_)
        replace hw := hw x_10 ex_10
        refine lv_istore (lv' := [(7, .int x_10), (6, .int x_8), (4, .long x_4), (3, .int x_3), (0, .ref h), (1, .int k), (2, .int ng)]) hx hb d_Pm_grow_71 hl (by decide) rfl (fun ls hl => ?_)
        refine lv_aload_n hx hb d_Pm_grow_73 rfl (lv_at hl 4 rfl) ?_
        refine va_get (D := G.1) (ci := 1) (v := .ref amb) (C := R_Pm) (T := T_Pm) (N := 12) hx hb hts in_Pm hown hK hP 0 rfl rfl 2 (by decide) (hts _ fl_Pm_22) (fun _ h9 => h9) rfl d_Pm_grow_74 ?_
        refine lv_iload hx hb d_Pm_grow_77 (lv_at hl 0 rfl) ?_
        refine lv_aload_n hx hb d_Pm_grow_79 rfl (lv_at hl 4 rfl) ?_
        refine va_get (D := G.1) (ci := 1) (v := .ref amb) (C := R_Pm) (T := T_Pm) (N := 12) hx hb hts in_Pm hown hK hP 0 rfl rfl 2 (by decide) (hts _ fl_Pm_22) (fun _ h9 => h9) rfl d_Pm_grow_80 ?_
        refine lv_iload hx hb d_Pm_grow_83 (lv_at hl 0 rfl) ?_
        refine lv_iload hx hb d_Pm_grow_85 (lv_at hl 1 rfl) ?_
        refine lv_iadd hx hb d_Pm_grow_87 ?_
        refine lv_aload_n hx hb d_Pm_grow_88 rfl (lv_at hl 4 rfl) ?_
        refine va_get (D := G.1) (ci := 1) (v := .ref m0) (C := R_Pm) (T := T_Pm) (N := 12) hx hb hts in_Pm hown hK hP 0 rfl rfl 0 (by decide) (hts _ fl_Pm_14) (fun _ h9 => h9) rfl d_Pm_grow_89 ?_
        have hPc := hP.sub (ws' := [(m0, .inr (0, [.int 12288, .ref m1, .ref m2, .ref m3, .int mC, .int mU])), (m1, .inl (G.2.1 0, 6, .inl mS)), (m2, .inl (G.2.1 0, 6, .inl mL)), (m3, .inl (G.2.1 2, 6, .inl mD))]) [1, 2, 3, 4] rfl
        refine pu_i (va_runV (As := []) (rest := [.int (x_10 + x_8), .ref amb, .int x_10, .ref amb]) ⟨hx, hb, hml, hown, hts⟩ (c_Ly_used l G m0 m1 m2 m3 6 12288 mC mU mS mL mD) (cwV 0 hts (gi_V ml_Pm_81 im_Ly_used se_Ly_used ini_Ly co_Ly_used) rfl rfl rfl (by decide +kernel) ⟨Nat.le_of_ble_eq_true rfl, Nat.le_of_ble_eq_true rfl⟩) ⟨cp_blind, va_recv hK hPc (ci := 0) (q0 := 0) rfl rfl, cp_pre hcx hS hPc⟩ rfl rfl hl.1 rfl (lv_room (Nat.le_of_ble_eq_true rfl)) d_Pm_grow_92 ⟨Nat.le_of_ble_eq_true rfl, Nat.le_of_ble_eq_true rfl⟩) hS hP (fun H locs hP hS => ?_)
        refine lv_iload hx hb d_Pm_grow_95 (lv_at hl 0 rfl) ?_
        refine lv_isub hx hb d_Pm_grow_97 ?_
        obtain ⟨h_11, h_12, h_13, h_14, h_15, h_16, hw⟩ := hw
        obtain ⟨a_17, ea_17⟩ : ∃ z, z = va_cpy fmb fmb x_10.toNatClampNeg ((x_10 + x_8).toNatClampNeg) ((mU - x_10).toNatClampNeg) := ⟨_, rfl⟩
        replace hw := hw a_17 ea_17
        refine va_copyi (ty := .byte) hx hb (hml.trans hl.1.symm) hown (hts _ ml_Pm_84) (hts _ nt_arraycopy) (hts _ sm_arraycopy) (hts _ ini_System) hK hP hD hS 6 6 1 1 rfl rfl rfl rfl rfl h_11 h_12 h_13 h_14 h_15 h_16 (Nat.le_of_ble_eq_true rfl) (Nat.le_of_ble_eq_true rfl) d_Pm_grow_98 (fun H locs hP hD hS => ?_)
        rw [← ea_17] at hP hD
        have hP : va_P G.1 vwC [(h, .inr (1, [.ref m0, .ref aml, .ref amb, .ref t0, .ref atl, .ref att, .ref ate, .ref b0, .ref asb, .ref r0, .ref asr, .int trp])), (m0, .inr (0, [.int 12288, .ref m1, .ref m2, .ref m3, .int mC, .int mU])), (m1, .inl (G.2.1 0, 6, .inl mS)), (m2, .inl (G.2.1 0, 6, .inl mL)), (m3, .inl (G.2.1 2, 6, .inl mD)), (aml, .inl (G.2.1 0, 6, .inl fml)), (amb, .inl (G.2.1 1, 12288, .inl a_17))] H := hP
        have hD : va_D A [(h, .inr (1, [.ref m0, .ref aml, .ref amb, .ref t0, .ref atl, .ref att, .ref ate, .ref b0, .ref asb, .ref r0, .ref asr, .int trp])), (m0, .inr (0, [.int 12288, .ref m1, .ref m2, .ref m3, .int mC, .int mU])), (m1, .inl (G.2.1 0, 6, .inl mS)), (m2, .inl (G.2.1 0, 6, .inl mL)), (m3, .inl (G.2.1 2, 6, .inl mD)), (aml, .inl (G.2.1 0, 6, .inl fml)), (amb, .inl (G.2.1 1, 12288, .inl a_17))] := hD
        refine lv_aload_n hx hb d_Pm_grow_101 rfl (lv_at hl 4 rfl) ?_
        refine va_get (D := G.1) (ci := 1) (v := .ref amb) (C := R_Pm) (T := T_Pm) (N := 12) hx hb hts in_Pm hown hK hP 0 rfl rfl 2 (by decide) (hts _ fl_Pm_22) (fun _ h9 => h9) rfl d_Pm_grow_102 ?_
        refine lv_iload hx hb d_Pm_grow_105 (lv_at hl 0 rfl) ?_
        refine lv_iload hx hb d_Pm_grow_107 (lv_at hl 0 rfl) ?_
        refine lv_iload hx hb d_Pm_grow_109 (lv_at hl 1 rfl) ?_
        refine lv_iadd hx hb d_Pm_grow_111 ?_
        refine lv_iconst (v := 0) hx hb d_Pm_grow_112 (by decide) ?_
        obtain ⟨h_18, hw⟩ := hw
        obtain ⟨h_19, hw⟩ := hw
        obtain ⟨h_20, hw⟩ := hw
        obtain ⟨h_21, hw⟩ := hw
        obtain ⟨h_22, hw⟩ := hw
        have hPc := hP.sub (ws' := [(amb, .inl (G.2.1 1, 12288, .inl a_17))]) [6] rfl
        have hDc := hD.sub (ws' := [(amb, .inl (G.2.1 1, 12288, .inl a_17))]) [6] (by decide) rfl
        have hFc := va_free (wc := [(amb, .inl (G.2.1 1, 12288, .inl a_17))]) hD hS hA [6] rfl
        refine ip_v (va_runS (As := [.ref amb, .int x_10, .int (x_10 + x_8), .int 0]) (rest := []) ⟨hx, hb, hml, hown, hts⟩ (c_Ar_fillB l G amb 12288 a_17 x_10 (x_10 + x_8) 0 _ h_18 h_19 h_20 h_21 h_22) (va_cwS 4 hts (gi_S ml_Pm_90 sm_Ar_fillB ini_Ar co_Ar_fillB) rfl rfl rfl (by decide +kernel) ⟨Nat.le_of_ble_eq_true rfl, Nat.le_of_ble_eq_true rfl⟩) ⟨cm_blind, cm_pre hcx hS hPc hDc hFc⟩ rfl rfl hl.1 rfl (lv_room (Nat.le_of_ble_eq_true rfl)) d_Pm_grow_113 ⟨Nat.le_of_ble_eq_true rfl, Nat.le_of_ble_eq_true rfl⟩) hS hP hD hA [6] rfl (fun _ => rfl) (fun u9 H locs hp hP hD hS => ?_)
        replace hp := hp.symm; subst hp
        obtain ⟨u_23, eu_23⟩ : ∃ z : Nat → Int32, z = ar_fill a_17 x_10.toNatClampNeg (x_10 + x_8).toNatClampNeg 0 := ⟨_, rfl⟩
        replace hw := hw u_23 eu_23
        have hP : va_P G.1 vwC [(h, .inr (1, [.ref m0, .ref aml, .ref amb, .ref t0, .ref atl, .ref att, .ref ate, .ref b0, .ref asb, .ref r0, .ref asr, .int trp])), (m0, .inr (0, [.int 12288, .ref m1, .ref m2, .ref m3, .int mC, .int mU])), (m1, .inl (G.2.1 0, 6, .inl mS)), (m2, .inl (G.2.1 0, 6, .inl mL)), (m3, .inl (G.2.1 2, 6, .inl mD)), (aml, .inl (G.2.1 0, 6, .inl fml)), (amb, .inl (G.2.1 1, 12288, .inl (ar_fill a_17 x_10.toNatClampNeg (x_10 + x_8).toNatClampNeg 0)))] H := hP
        have hD : va_D A [(h, .inr (1, [.ref m0, .ref aml, .ref amb, .ref t0, .ref atl, .ref att, .ref ate, .ref b0, .ref asb, .ref r0, .ref asr, .int trp])), (m0, .inr (0, [.int 12288, .ref m1, .ref m2, .ref m3, .int mC, .int mU])), (m1, .inl (G.2.1 0, 6, .inl mS)), (m2, .inl (G.2.1 0, 6, .inl mL)), (m3, .inl (G.2.1 2, 6, .inl mD)), (aml, .inl (G.2.1 0, 6, .inl fml)), (amb, .inl (G.2.1 1, 12288, .inl (ar_fill a_17 x_10.toNatClampNeg (x_10 + x_8).toNatClampNeg 0)))] := hD
        have hP : va_P G.1 vwC [(h, .inr (1, [.ref m0, .ref aml, .ref amb, .ref t0, .ref atl, .ref att, .ref ate, .ref b0, .ref asb, .ref r0, .ref asr, .int trp])), (m0, .inr (0, [.int 12288, .ref m1, .ref m2, .ref m3, .int mC, .int mU])), (m1, .inl (G.2.1 0, 6, .inl mS)), (m2, .inl (G.2.1 0, 6, .inl mL)), (m3, .inl (G.2.1 2, 6, .inl mD)), (aml, .inl (G.2.1 0, 6, .inl fml)), (amb, .inl (G.2.1 1, 12288, .inl u_23))] H := by rw [eu_23]; exact hP
        have hD : va_D A [(h, .inr (1, [.ref m0, .ref aml, .ref amb, .ref t0, .ref atl, .ref att, .ref ate, .ref b0, .ref asb, .ref r0, .ref asr, .int trp])), (m0, .inr (0, [.int 12288, .ref m1, .ref m2, .ref m3, .int mC, .int mU])), (m1, .inl (G.2.1 0, 6, .inl mS)), (m2, .inl (G.2.1 0, 6, .inl mL)), (m3, .inl (G.2.1 2, 6, .inl mD)), (aml, .inl (G.2.1 0, 6, .inl fml)), (amb, .inl (G.2.1 1, 12288, .inl u_23))] := by rw [eu_23]; exact hD
        refine lv_aload_n hx hb d_Pm_grow_116 rfl (lv_at hl 4 rfl) ?_
        refine va_get (D := G.1) (ci := 1) (v := .ref m0) (C := R_Pm) (T := T_Pm) (N := 12) hx hb hts in_Pm hown hK hP 0 rfl rfl 0 (by decide) (hts _ fl_Pm_14) (fun _ h9 => h9) rfl d_Pm_grow_117 ?_
        refine lv_iload_n hx hb d_Pm_grow_120 rfl (lv_at hl 5 rfl) ?_
        refine lv_iload hx hb d_Pm_grow_121 (lv_at hl 1 rfl) ?_
        obtain ⟨h_24, hw⟩ := hw
        obtain ⟨h_25, hw⟩ := hw
        obtain ⟨h_26, hw⟩ := hw
        have hPc := hP.sub (ws' := [(m0, .inr (0, [.int 12288, .ref m1, .ref m2, .ref m3, .int mC, .int mU])), (m1, .inl (G.2.1 0, 6, .inl mS)), (m2, .inl (G.2.1 0, 6, .inl mL)), (m3, .inl (G.2.1 2, 6, .inl mD))]) [1, 2, 3, 4] rfl
        have hDc := hD.sub (ws' := [(m0, .inr (0, [.int 12288, .ref m1, .ref m2, .ref m3, .int mC, .int mU])), (m1, .inl (G.2.1 0, 6, .inl mS)), (m2, .inl (G.2.1 0, 6, .inl mL)), (m3, .inl (G.2.1 2, 6, .inl mD))]) [1, 2, 3, 4] (by decide) rfl
        have hFc := va_free (wc := [(m0, .inr (0, [.int 12288, .ref m1, .ref m2, .ref m3, .int mC, .int mU])), (m1, .inl (G.2.1 0, 6, .inl mS)), (m2, .inl (G.2.1 0, 6, .inl mL)), (m3, .inl (G.2.1 2, 6, .inl mD))]) hD hS hA [1, 2, 3, 4] rfl
        refine ip_v (va_runV (As := [.int k, .int x_8]) (rest := []) ⟨hx, hb, hml, hown, hts⟩ (c_Ly_widen l G m0 m1 m2 m3 6 12288 mC mU mS mL mD k x_8 _ h_24 h_25 h_26) (cwV 2 hts (gi_V ml_Pm_96 im_Ly_widen se_Ly_widen ini_Ly co_Ly_widen) rfl rfl rfl (by decide +kernel) ⟨Nat.le_of_ble_eq_true rfl, Nat.le_of_ble_eq_true rfl⟩) ⟨cm_blind, va_recv hK hPc (ci := 0) (q0 := 0) rfl rfl, cm_pre hcx hS hPc hDc hFc⟩ rfl rfl hl.1 rfl (lv_room (Nat.le_of_ble_eq_true rfl)) d_Pm_grow_123 ⟨Nat.le_of_ble_eq_true rfl, Nat.le_of_ble_eq_true rfl⟩) hS hP hD hA [1, 2, 3, 4] rfl (fun _ => rfl) (fun u9 H locs hp hP hD hS => ?_)
        replace hp := hp.symm; subst hp
        obtain ⟨u_27, eu_27⟩ : ∃ z : Nat → Int32, z = ly_shift mS k.toNatClampNeg mC.toNatClampNeg x_8 := ⟨_, rfl⟩
        replace hw := hw u_27 eu_27
        obtain ⟨u_28, eu_28⟩ : ∃ z : Nat → Int32, z = upd mL k.toNatClampNeg (mL k.toNatClampNeg + x_8) := ⟨_, rfl⟩
        replace hw := hw u_28 eu_28
        obtain ⟨u_29, eu_29⟩ : ∃ z : Int32, z = mU + x_8 := ⟨_, rfl⟩
        replace hw := hw u_29 eu_29
        have hP : va_P G.1 vwC [(h, .inr (1, [.ref m0, .ref aml, .ref amb, .ref t0, .ref atl, .ref att, .ref ate, .ref b0, .ref asb, .ref r0, .ref asr, .int trp])), (m0, .inr (0, [.int 12288, .ref m1, .ref m2, .ref m3, .int mC, .int (mU + x_8)])), (m1, .inl (G.2.1 0, 6, .inl (ly_shift mS k.toNatClampNeg mC.toNatClampNeg x_8))), (m2, .inl (G.2.1 0, 6, .inl (upd mL k.toNatClampNeg (mL k.toNatClampNeg + x_8)))), (m3, .inl (G.2.1 2, 6, .inl mD)), (aml, .inl (G.2.1 0, 6, .inl fml)), (amb, .inl (G.2.1 1, 12288, .inl u_23))] H := hP
        have hD : va_D A [(h, .inr (1, [.ref m0, .ref aml, .ref amb, .ref t0, .ref atl, .ref att, .ref ate, .ref b0, .ref asb, .ref r0, .ref asr, .int trp])), (m0, .inr (0, [.int 12288, .ref m1, .ref m2, .ref m3, .int mC, .int (mU + x_8)])), (m1, .inl (G.2.1 0, 6, .inl (ly_shift mS k.toNatClampNeg mC.toNatClampNeg x_8))), (m2, .inl (G.2.1 0, 6, .inl (upd mL k.toNatClampNeg (mL k.toNatClampNeg + x_8)))), (m3, .inl (G.2.1 2, 6, .inl mD)), (aml, .inl (G.2.1 0, 6, .inl fml)), (amb, .inl (G.2.1 1, 12288, .inl u_23))] := hD
        have hP : va_P G.1 vwC [(h, .inr (1, [.ref m0, .ref aml, .ref amb, .ref t0, .ref atl, .ref att, .ref ate, .ref b0, .ref asb, .ref r0, .ref asr, .int trp])), (m0, .inr (0, [.int 12288, .ref m1, .ref m2, .ref m3, .int mC, .int u_29])), (m1, .inl (G.2.1 0, 6, .inl u_27)), (m2, .inl (G.2.1 0, 6, .inl u_28)), (m3, .inl (G.2.1 2, 6, .inl mD)), (aml, .inl (G.2.1 0, 6, .inl fml)), (amb, .inl (G.2.1 1, 12288, .inl u_23))] H := by rw [eu_27]; rw [eu_28]; rw [eu_29]; exact hP
        have hD : va_D A [(h, .inr (1, [.ref m0, .ref aml, .ref amb, .ref t0, .ref atl, .ref att, .ref ate, .ref b0, .ref asb, .ref r0, .ref asr, .int trp])), (m0, .inr (0, [.int 12288, .ref m1, .ref m2, .ref m3, .int mC, .int u_29])), (m1, .inl (G.2.1 0, 6, .inl u_27)), (m2, .inl (G.2.1 0, 6, .inl u_28)), (m3, .inl (G.2.1 2, 6, .inl mD)), (aml, .inl (G.2.1 0, 6, .inl fml)), (amb, .inl (G.2.1 1, 12288, .inl u_23))] := by rw [eu_27]; rw [eu_28]; rw [eu_29]; exact hD
        refine lv_iload_n hx hb d_Pm_grow_126 rfl (lv_at hl 3 rfl) ?_
        exact W.iret (v := x_3) hx hb hr (fun t ht hW => ⟨⟨x_3, (u_27, u_28, u_29, u_23), rfl, hw, by have h9 := hP; rw [← ht] at h9; exact h9⟩, hS.F ht⟩) hS.2.2 d_Pm_grow_127
      · replace hw := hw.2 c_7
        refine lv_iconst (v := (-1)) hx hb d_Pm_grow_52 (by decide) ?_
        exact W.iret (v := (-1)) hx hb hr (fun t ht hW => ⟨⟨(-1), (mS, mL, mU, fmb), rfl, hw, by have h9 := hP; rw [← ht] at h9; exact h9⟩, hS.F ht⟩) hS.2.2 d_Pm_grow_53
  · replace hw := hw.2 c_1
    refine lv_iconst (v := (-1)) hx hb d_Pm_grow_11 (by decide) ?_
    exact W.iret (v := (-1)) hx hb hr (fun t ht hW => ⟨⟨(-1), (mS, mL, mU, fmb), rfl, hw, by have h9 := hP; rw [← ht] at h9; exact h9⟩, hS.F ht⟩) hS.2.2 d_Pm_grow_12
def wp_Pm_data (post : Int32 → ((Nat → Int32) × (Nat → Int32) × Int32 × Int32 × (Nat → Int32)) → Prop) (trp : Int32) (bC : Int32) (bU : Int32) (bS : Nat → Int32) (bL : Nat → Int32) (bD : Nat → Int32) (fsb : Nat → Int32) (nb : Int64) (nn : Int32) (mo : Int32) : Prop := ((nn < 0 → (post (-1) (bS, bL, bC, bU, fsb))) ∧ (¬ nn < 0 → (((8 < nn → (post (-1) (bS, bL, bC, bU, fsb))) ∧ (¬ 8 < nn → ((bC.toInt ≤ 24) ∧ (((¬ ly_can bC bU 600 nn mo 24 bD = 0 → ((¬ bU < 0) ∧ ((¬ nn < 0) ∧ ((bU.toNatClampNeg + nn.toNatClampNeg ≤ 600) ∧ ((600 < 2147483648) ∧ (∀ u_9 : Nat → Int32, u_9 = put_b fsb bU.toNatClampNeg nn.toNatClampNeg nb → ((bC.toInt ≤ 24) ∧ ((24 < 2147483648) ∧ ((mo = 0 → vp_in bC 24 ∧ ly_full bC 24 = 0) ∧ ((¬ mo = 0 → ¬ bC ≤ 0) ∧ (∀ u_14 : Nat → Int32, u_14 = (if mo = 0 then upd bS bC.toNatClampNeg bU else bS) → (∀ u_15 : Nat → Int32, u_15 = (if mo = 0 then upd bL bC.toNatClampNeg nn else upd bL (bC - 1).toNatClampNeg (bL (bC - 1).toNatClampNeg + nn)) → (∀ u_16 : Int32, u_16 = (if mo = 0 then bC + 1 else bC) → (∀ u_17 : Int32, u_17 = bU + nn → (post (if mo = 0 then bC else bC - 1) (u_14, u_15, u_16, u_17, u_9)))))))))))))))) ∧ (ly_can bC bU 600 nn mo 24 bD = 0 → (post (-1) (bS, bL, bC, bU, fsb)))))))))))
set_option maxHeartbeats 4000000 in
set_option maxRecDepth 100000 in
theorem t_Pm_data (l : Launch) (G : cxT) (h : Nat) (m0 : Nat) (aml : Nat) (amb : Nat) (t0 : Nat) (atl : Nat) (att : Nat) (ate : Nat) (b0 : Nat) (asb : Nat) (r0 : Nat) (asr : Nat) (b1 : Nat) (b2 : Nat) (b3 : Nat) (trp : Int32) (bC : Int32) (bU : Int32) (bS : Nat → Int32) (bL : Nat → Int32) (bD : Nat → Int32) (fsb : Nat → Int32) (nb : Int64) (nn : Int32) (mo : Int32) (sz : Nat) (post : Int32 → ((Nat → Int32) × (Nat → Int32) × Int32 × Int32 × (Nat → Int32)) → Prop) (hw : wp_Pm_data post trp bC bU bS bL bD fsb nb nn mo) : Met l y_Pm_data [.code y_Pm_data b_Pm_data 5 (some .int)] ({ frames := 4, cells := 0, slots := 0, locals := 140 } : Room) (cm G [.ref h, .long nb, .int nn, .int mo] [(h, .inr (1, [.ref m0, .ref aml, .ref amb, .ref t0, .ref atl, .ref att, .ref ate, .ref b0, .ref asb, .ref r0, .ref asr, .int trp])), (b0, .inr (0, [.int 600, .ref b1, .ref b2, .ref b3, .int bC, .int bU])), (b1, .inl (G.2.1 0, 24, .inl bS)), (b2, .inl (G.2.1 0, 24, .inl bL)), (b3, .inl (G.2.1 2, 24, .inl bD)), (asb, .inl (G.2.1 1, 600, .inl fsb))] sz) (va_Qi post (fun u t => va_P G.1 vwC [(h, .inr (1, [.ref m0, .ref aml, .ref amb, .ref t0, .ref atl, .ref att, .ref ate, .ref b0, .ref asb, .ref r0, .ref asr, .int trp])), (b0, .inr (0, [.int 600, .ref b1, .ref b2, .ref b3, .int u.2.2.1, .int u.2.2.2.1])), (b1, .inl (G.2.1 0, 24, .inl u.1)), (b2, .inl (G.2.1 0, 24, .inl u.2.1)), (b3, .inl (G.2.1 2, 24, .inl bD)), (asb, .inl (G.2.1 1, 600, .inl u.2.2.2.2))] t.heap) (va_A [(h, .inr (1, [.ref m0, .ref aml, .ref amb, .ref t0, .ref atl, .ref att, .ref ate, .ref b0, .ref asb, .ref r0, .ref asr, .int trp])), (b0, .inr (0, [.int 600, .ref b1, .ref b2, .ref b3, .int bC, .int bU])), (b1, .inl (G.2.1 0, 24, .inl bS)), (b2, .inl (G.2.1 0, 24, .inl bL)), (b3, .inl (G.2.1 2, 24, .inl bD)), (asb, .inl (G.2.1 1, 600, .inl fsb))] sz)) 0 0 (va_A [(h, .inr (1, [.ref m0, .ref aml, .ref amb, .ref t0, .ref atl, .ref att, .ref ate, .ref b0, .ref asb, .ref r0, .ref asr, .int trp])), (b0, .inr (0, [.int 600, .ref b1, .ref b2, .ref b3, .int bC, .int bU])), (b1, .inl (G.2.1 0, 24, .inl bS)), (b2, .inl (G.2.1 0, 24, .inl bL)), (b3, .inl (G.2.1 2, 24, .inl bD)), (asb, .inl (G.2.1 1, 600, .inl fsb))] sz) := by
  refine Met.ofW (cc := b_Pm_data) (maxL := 5) (ret := (some .int)) (by decide +kernel) rfl ?_
  intro p e s m args below meth c s₁ B hml hv
  obtain ⟨rfl, hsz, hcx, hP, hD0⟩ := hv
  have hx := B.exec
  have hb := B.bytes
  have hr := B.returns
  have hlocks := B.notSynchronized
  have hown : s.vm.findClass R_Pm = some m.cls := findClass_of_methodNamed B.named
  subst hsz
  have hD := hD0.self (sz := s.heap.size)
  generalize hAe : va_A [(h, .inr (1, [.ref m0, .ref aml, .ref amb, .ref t0, .ref atl, .ref att, .ref ate, .ref b0, .ref asb, .ref r0, .ref asr, .int trp])), (b0, .inr (0, [.int 600, .ref b1, .ref b2, .ref b3, .int bC, .int bU])), (b1, .inl (G.2.1 0, 24, .inl bS)), (b2, .inl (G.2.1 0, 24, .inl bL)), (b3, .inl (G.2.1 2, 24, .inl bD)), (asb, .inl (G.2.1 1, 600, .inl fsb))] s.heap.size = A at hD hcx ⊢
  have hA : ∀ q : Nat, s.heap.size ≤ q → A q := fun q h => by rw [← hAe]; exact Or.inr h
  have hS : va_S A s.heap s.heap [] := va_S.rf
  have hts := hcx.now.1 [.ref h, .long nb, .int nn, .int mo].toArray
  have hK := hcx.now.2.1
  have hl := lv_entry ([.ref h, .long nb, .int nn, .int mo]) (n := 5) (Nat.le_of_ble_eq_true rfl)
  rw [lg_entry_eq]
  generalize (lg_sl ([.ref h, .long nb, .int nn, .int mo]) ++ List.replicate (5 - (lg_sl ([.ref h, .long nb, .int nn, .int mo])).length) Slot.unset).toArray = ls at hl ⊢
  have hl : lv_has ls 5 [(0, .ref h), (1, .long nb), (3, .int nn), (4, .int mo)] := hl
  unfold wp_Pm_data at hw
  refine lv_iload_n hx hb d_Pm_data_0 rfl (lv_at hl 2 rfl) ?_
  refine lv_if_lt (tgt := 23) hx hb d_Pm_data_1 (by decide) (fun c_1 => ?_) (fun c_1 => ?_)
  · replace hw := hw.1 c_1
    refine lv_iconst (v := (-1)) hx hb d_Pm_data_23 (by decide) ?_
    exact W.iret (v := (-1)) hx hb hr (fun t ht hW => ⟨⟨(-1), (bS, bL, bC, bU, fsb), rfl, hw, by have h9 := hP; rw [← ht] at h9; exact h9⟩, hS.F ht⟩) hS.2.2 d_Pm_data_24
  · replace hw := hw.2 c_1
    refine lv_iload_n hx hb d_Pm_data_4 rfl (lv_at hl 2 rfl) ?_
    refine lv_bipush (v := 8) hx hb d_Pm_data_5 (by decide) ?_
    refine lv_icmp_gt (tgt := 23) hx hb d_Pm_data_7 (by decide) (fun c_2 => ?_) (fun c_2 => ?_)
    · replace hw := hw.1 c_2
      refine lv_iconst (v := (-1)) hx hb d_Pm_data_23 (by decide) ?_
      exact W.iret (v := (-1)) hx hb hr (fun t ht hW => ⟨⟨(-1), (bS, bL, bC, bU, fsb), rfl, hw, by have h9 := hP; rw [← ht] at h9; exact h9⟩, hS.F ht⟩) hS.2.2 d_Pm_data_24
    · replace hw := hw.2 c_2
      refine lv_aload_n hx hb d_Pm_data_10 rfl (lv_at hl 0 rfl) ?_
      refine va_get (D := G.1) (ci := 1) (v := .ref b0) (C := R_Pm) (T := T_Pm) (N := 12) hx hb hts in_Pm hown hK hP 0 rfl rfl 7 (by decide) (hts _ fl_Pm_38) (fun _ h9 => h9) rfl d_Pm_data_11 ?_
      refine lv_iload_n hx hb d_Pm_data_14 rfl (lv_at hl 2 rfl) ?_
      refine lv_iload hx hb d_Pm_data_15 (lv_at hl 3 rfl) ?_
      obtain ⟨h_3, hw⟩ := hw
      have hPc := hP.sub (ws' := [(b0, .inr (0, [.int 600, .ref b1, .ref b2, .ref b3, .int bC, .int bU])), (b1, .inl (G.2.1 0, 24, .inl bS)), (b2, .inl (G.2.1 0, 24, .inl bL)), (b3, .inl (G.2.1 2, 24, .inl bD))]) [1, 2, 3, 4] rfl
      refine pu_i (va_runV (As := [.int nn, .int mo]) (rest := []) ⟨hx, hb, hml, hown, hts⟩ (c_Ly_canTake l G b0 b1 b2 b3 24 600 bC bU bS bL bD nn mo h_3) (cwV 2 hts (gi_V ml_Pm_136 im_Ly_canTake se_Ly_canTake ini_Ly co_Ly_canTake) rfl rfl rfl (by decide +kernel) ⟨Nat.le_of_ble_eq_true rfl, Nat.le_of_ble_eq_true rfl⟩) ⟨cp_blind, va_recv hK hPc (ci := 0) (q0 := 0) rfl rfl, cp_pre hcx hS hPc⟩ rfl rfl hl.1 rfl (lv_room (Nat.le_of_ble_eq_true rfl)) d_Pm_data_17 ⟨Nat.le_of_ble_eq_true rfl, Nat.le_of_ble_eq_true rfl⟩) hS hP (fun H locs hP hS => ?_)
      refine lv_if_ne (tgt := 25) hx hb d_Pm_data_20 (by decide) (fun c_4 => ?_) (fun c_4 => ?_)
      · replace hw := hw.1 c_4
        refine lv_lload_n hx hb d_Pm_data_25 rfl (lv_at hl 1 rfl) ?_
        refine lv_iload_n hx hb d_Pm_data_26 rfl (lv_at hl 2 rfl) ?_
        refine lv_aload_n hx hb d_Pm_data_27 rfl (lv_at hl 0 rfl) ?_
        refine va_get (D := G.1) (ci := 1) (v := .ref asb) (C := R_Pm) (T := T_Pm) (N := 12) hx hb hts in_Pm hown hK hP 0 rfl rfl 8 (by decide) (hts _ fl_Pm_41) (fun _ h9 => h9) rfl d_Pm_data_28 ?_
        refine lv_aload_n hx hb d_Pm_data_31 rfl (lv_at hl 0 rfl) ?_
        refine va_get (D := G.1) (ci := 1) (v := .ref b0) (C := R_Pm) (T := T_Pm) (N := 12) hx hb hts in_Pm hown hK hP 0 rfl rfl 7 (by decide) (hts _ fl_Pm_38) (fun _ h9 => h9) rfl d_Pm_data_32 ?_
        have hPc := hP.sub (ws' := [(b0, .inr (0, [.int 600, .ref b1, .ref b2, .ref b3, .int bC, .int bU])), (b1, .inl (G.2.1 0, 24, .inl bS)), (b2, .inl (G.2.1 0, 24, .inl bL)), (b3, .inl (G.2.1 2, 24, .inl bD))]) [1, 2, 3, 4] rfl
        refine pu_i (va_runV (As := []) (rest := [.ref asb, .int nn, .long nb]) ⟨hx, hb, hml, hown, hts⟩ (c_Ly_used l G b0 b1 b2 b3 24 600 bC bU bS bL bD) (cwV 0 hts (gi_V ml_Pm_81 im_Ly_used se_Ly_used ini_Ly co_Ly_used) rfl rfl rfl (by decide +kernel) ⟨Nat.le_of_ble_eq_true rfl, Nat.le_of_ble_eq_true rfl⟩) ⟨cp_blind, va_recv hK hPc (ci := 0) (q0 := 0) rfl rfl, cp_pre hcx hS hPc⟩ rfl rfl hl.1 rfl (lv_room (Nat.le_of_ble_eq_true rfl)) d_Pm_data_35 ⟨Nat.le_of_ble_eq_true rfl, Nat.le_of_ble_eq_true rfl⟩) hS hP (fun H locs hP hS => ?_)
        obtain ⟨h_5, hw⟩ := hw
        obtain ⟨h_6, hw⟩ := hw
        obtain ⟨h_7, hw⟩ := hw
        obtain ⟨h_8, hw⟩ := hw
        have hPc := hP.sub (ws' := [(asb, .inl (G.2.1 1, 600, .inl fsb))]) [5] rfl
        have hDc := hD.sub (ws' := [(asb, .inl (G.2.1 1, 600, .inl fsb))]) [5] (by decide) rfl
        have hFc := va_free (wc := [(asb, .inl (G.2.1 1, 600, .inl fsb))]) hD hS hA [5] rfl
        refine ip_v (va_runS (As := [.long nb, .int nn, .ref asb, .int bU]) (rest := []) ⟨hx, hb, hml, hown, hts⟩ (c_Pm_putLowestBytes l G asb 600 fsb nb nn bU _ h_5 h_6 h_7 h_8) (va_cwS 4 hts (gi_S ml_Pm_128 sm_Pm_putLowestBytes ini_Pm co_Pm_putLowestBytes) rfl rfl rfl (by decide +kernel) ⟨Nat.le_of_ble_eq_true rfl, Nat.le_of_ble_eq_true rfl⟩) ⟨cm_blind, cm_pre hcx hS hPc hDc hFc⟩ rfl rfl hl.1 rfl (lv_room (Nat.le_of_ble_eq_true rfl)) d_Pm_data_38 ⟨Nat.le_of_ble_eq_true rfl, Nat.le_of_ble_eq_true rfl⟩) hS hP hD hA [5] rfl (fun _ => rfl) (fun u9 H locs hp hP hD hS => ?_)
        replace hp := hp.symm; subst hp
        obtain ⟨u_9, eu_9⟩ : ∃ z : Nat → Int32, z = put_b fsb bU.toNatClampNeg nn.toNatClampNeg nb := ⟨_, rfl⟩
        replace hw := hw u_9 eu_9
        have hP : va_P G.1 vwC [(h, .inr (1, [.ref m0, .ref aml, .ref amb, .ref t0, .ref atl, .ref att, .ref ate, .ref b0, .ref asb, .ref r0, .ref asr, .int trp])), (b0, .inr (0, [.int 600, .ref b1, .ref b2, .ref b3, .int bC, .int bU])), (b1, .inl (G.2.1 0, 24, .inl bS)), (b2, .inl (G.2.1 0, 24, .inl bL)), (b3, .inl (G.2.1 2, 24, .inl bD)), (asb, .inl (G.2.1 1, 600, .inl (put_b fsb bU.toNatClampNeg nn.toNatClampNeg nb)))] H := hP
        have hD : va_D A [(h, .inr (1, [.ref m0, .ref aml, .ref amb, .ref t0, .ref atl, .ref att, .ref ate, .ref b0, .ref asb, .ref r0, .ref asr, .int trp])), (b0, .inr (0, [.int 600, .ref b1, .ref b2, .ref b3, .int bC, .int bU])), (b1, .inl (G.2.1 0, 24, .inl bS)), (b2, .inl (G.2.1 0, 24, .inl bL)), (b3, .inl (G.2.1 2, 24, .inl bD)), (asb, .inl (G.2.1 1, 600, .inl (put_b fsb bU.toNatClampNeg nn.toNatClampNeg nb)))] := hD
        have hP : va_P G.1 vwC [(h, .inr (1, [.ref m0, .ref aml, .ref amb, .ref t0, .ref atl, .ref att, .ref ate, .ref b0, .ref asb, .ref r0, .ref asr, .int trp])), (b0, .inr (0, [.int 600, .ref b1, .ref b2, .ref b3, .int bC, .int bU])), (b1, .inl (G.2.1 0, 24, .inl bS)), (b2, .inl (G.2.1 0, 24, .inl bL)), (b3, .inl (G.2.1 2, 24, .inl bD)), (asb, .inl (G.2.1 1, 600, .inl u_9))] H := by rw [eu_9]; exact hP
        have hD : va_D A [(h, .inr (1, [.ref m0, .ref aml, .ref amb, .ref t0, .ref atl, .ref att, .ref ate, .ref b0, .ref asb, .ref r0, .ref asr, .int trp])), (b0, .inr (0, [.int 600, .ref b1, .ref b2, .ref b3, .int bC, .int bU])), (b1, .inl (G.2.1 0, 24, .inl bS)), (b2, .inl (G.2.1 0, 24, .inl bL)), (b3, .inl (G.2.1 2, 24, .inl bD)), (asb, .inl (G.2.1 1, 600, .inl u_9))] := by rw [eu_9]; exact hD
        refine lv_aload_n hx hb d_Pm_data_41 rfl (lv_at hl 0 rfl) ?_
        refine va_get (D := G.1) (ci := 1) (v := .ref b0) (C := R_Pm) (T := T_Pm) (N := 12) hx hb hts in_Pm hown hK hP 0 rfl rfl 7 (by decide) (hts _ fl_Pm_38) (fun _ h9 => h9) rfl d_Pm_data_42 ?_
        refine lv_iload_n hx hb d_Pm_data_45 rfl (lv_at hl 2 rfl) ?_
        refine lv_iload hx hb d_Pm_data_46 (lv_at hl 3 rfl) ?_
        obtain ⟨h_10, hw⟩ := hw
        obtain ⟨h_11, hw⟩ := hw
        obtain ⟨h_12, hw⟩ := hw
        obtain ⟨h_13, hw⟩ := hw
        have hPc := hP.sub (ws' := [(b0, .inr (0, [.int 600, .ref b1, .ref b2, .ref b3, .int bC, .int bU])), (b1, .inl (G.2.1 0, 24, .inl bS)), (b2, .inl (G.2.1 0, 24, .inl bL)), (b3, .inl (G.2.1 2, 24, .inl bD))]) [1, 2, 3, 4] rfl
        have hDc := hD.sub (ws' := [(b0, .inr (0, [.int 600, .ref b1, .ref b2, .ref b3, .int bC, .int bU])), (b1, .inl (G.2.1 0, 24, .inl bS)), (b2, .inl (G.2.1 0, 24, .inl bL)), (b3, .inl (G.2.1 2, 24, .inl bD))]) [1, 2, 3, 4] (by decide) rfl
        have hFc := va_free (wc := [(b0, .inr (0, [.int 600, .ref b1, .ref b2, .ref b3, .int bC, .int bU])), (b1, .inl (G.2.1 0, 24, .inl bS)), (b2, .inl (G.2.1 0, 24, .inl bL)), (b3, .inl (G.2.1 2, 24, .inl bD))]) hD hS hA [1, 2, 3, 4] rfl
        refine ip_i (va_runV (As := [.int nn, .int mo]) (rest := []) ⟨hx, hb, hml, hown, hts⟩ (c_Ly_take l G b0 b1 b2 b3 24 600 bC bU bS bL bD nn mo _ h_10 h_11 h_12 h_13) (cwV 2 hts (gi_V ml_Pm_140 im_Ly_take se_Ly_take ini_Ly co_Ly_take) rfl rfl rfl (by decide +kernel) ⟨Nat.le_of_ble_eq_true rfl, Nat.le_of_ble_eq_true rfl⟩) ⟨cm_blind, va_recv hK hPc (ci := 0) (q0 := 0) rfl rfl, cm_pre hcx hS hPc hDc hFc⟩ rfl rfl hl.1 rfl (lv_room (Nat.le_of_ble_eq_true rfl)) d_Pm_data_48 ⟨Nat.le_of_ble_eq_true rfl, Nat.le_of_ble_eq_true rfl⟩) hS hP hD hA [1, 2, 3, 4] rfl (fun _ => rfl) (fun r9 u9 H locs hp hP hD hS => ?_)
        obtain ⟨e91, e92⟩ := hp; replace e91 := e91.symm; replace e92 := e92.symm; subst e91; subst e92
        obtain ⟨u_14, eu_14⟩ : ∃ z : Nat → Int32, z = if mo = 0 then upd bS bC.toNatClampNeg bU else bS := ⟨_, rfl⟩
        replace hw := hw u_14 eu_14
        obtain ⟨u_15, eu_15⟩ : ∃ z : Nat → Int32, z = if mo = 0 then upd bL bC.toNatClampNeg nn else upd bL (bC - 1).toNatClampNeg (bL (bC - 1).toNatClampNeg + nn) := ⟨_, rfl⟩
        replace hw := hw u_15 eu_15
        obtain ⟨u_16, eu_16⟩ : ∃ z : Int32, z = if mo = 0 then bC + 1 else bC := ⟨_, rfl⟩
        replace hw := hw u_16 eu_16
        obtain ⟨u_17, eu_17⟩ : ∃ z : Int32, z = bU + nn := ⟨_, rfl⟩
        replace hw := hw u_17 eu_17
        have hP : va_P G.1 vwC [(h, .inr (1, [.ref m0, .ref aml, .ref amb, .ref t0, .ref atl, .ref att, .ref ate, .ref b0, .ref asb, .ref r0, .ref asr, .int trp])), (b0, .inr (0, [.int 600, .ref b1, .ref b2, .ref b3, .int (if mo = 0 then bC + 1 else bC), .int (bU + nn)])), (b1, .inl (G.2.1 0, 24, .inl (if mo = 0 then upd bS bC.toNatClampNeg bU else bS))), (b2, .inl (G.2.1 0, 24, .inl (if mo = 0 then upd bL bC.toNatClampNeg nn else upd bL (bC - 1).toNatClampNeg (bL (bC - 1).toNatClampNeg + nn)))), (b3, .inl (G.2.1 2, 24, .inl bD)), (asb, .inl (G.2.1 1, 600, .inl u_9))] H := hP
        have hD : va_D A [(h, .inr (1, [.ref m0, .ref aml, .ref amb, .ref t0, .ref atl, .ref att, .ref ate, .ref b0, .ref asb, .ref r0, .ref asr, .int trp])), (b0, .inr (0, [.int 600, .ref b1, .ref b2, .ref b3, .int (if mo = 0 then bC + 1 else bC), .int (bU + nn)])), (b1, .inl (G.2.1 0, 24, .inl (if mo = 0 then upd bS bC.toNatClampNeg bU else bS))), (b2, .inl (G.2.1 0, 24, .inl (if mo = 0 then upd bL bC.toNatClampNeg nn else upd bL (bC - 1).toNatClampNeg (bL (bC - 1).toNatClampNeg + nn)))), (b3, .inl (G.2.1 2, 24, .inl bD)), (asb, .inl (G.2.1 1, 600, .inl u_9))] := hD
        have hP : va_P G.1 vwC [(h, .inr (1, [.ref m0, .ref aml, .ref amb, .ref t0, .ref atl, .ref att, .ref ate, .ref b0, .ref asb, .ref r0, .ref asr, .int trp])), (b0, .inr (0, [.int 600, .ref b1, .ref b2, .ref b3, .int u_16, .int u_17])), (b1, .inl (G.2.1 0, 24, .inl u_14)), (b2, .inl (G.2.1 0, 24, .inl u_15)), (b3, .inl (G.2.1 2, 24, .inl bD)), (asb, .inl (G.2.1 1, 600, .inl u_9))] H := by rw [eu_14]; rw [eu_15]; rw [eu_16]; rw [eu_17]; exact hP
        have hD : va_D A [(h, .inr (1, [.ref m0, .ref aml, .ref amb, .ref t0, .ref atl, .ref att, .ref ate, .ref b0, .ref asb, .ref r0, .ref asr, .int trp])), (b0, .inr (0, [.int 600, .ref b1, .ref b2, .ref b3, .int u_16, .int u_17])), (b1, .inl (G.2.1 0, 24, .inl u_14)), (b2, .inl (G.2.1 0, 24, .inl u_15)), (b3, .inl (G.2.1 2, 24, .inl bD)), (asb, .inl (G.2.1 1, 600, .inl u_9))] := by rw [eu_14]; rw [eu_15]; rw [eu_16]; rw [eu_17]; exact hD
        exact W.iret (v := if mo = 0 then bC else bC - 1) hx hb hr (fun t ht hW => ⟨⟨if mo = 0 then bC else bC - 1, (u_14, u_15, u_16, u_17, u_9), rfl, hw, by have h9 := hP; rw [← ht] at h9; exact h9⟩, hS.F ht⟩) hS.2.2 d_Pm_data_51
      · replace hw := hw.2 c_4
        refine lv_iconst (v := (-1)) hx hb d_Pm_data_23 (by decide) ?_
        exact W.iret (v := (-1)) hx hb hr (fun t ht hW => ⟨⟨(-1), (bS, bL, bC, bU, fsb), rfl, hw, by have h9 := hP; rw [← ht] at h9; exact h9⟩, hS.F ht⟩) hS.2.2 d_Pm_data_24
def wp_Pm_table (post : Int32 → ((Nat → Int32) × (Nat → Int32) × Int32 × Int32 × (Nat → Int32) × (Nat → Int32) × (Nat → Int32)) → Prop) (trp : Int32) (tC : Int32) (tU : Int32) (tS : Nat → Int32) (tL : Nat → Int32) (tD : Nat → Int32) (ftl : Nat → Int32) (ftt : Nat → Int32) (fte : Nat → Int32) (typ : Int32) (en : Int32) (lim : Int32) : Prop := ((¬ ly_full tC 6 = 0 → (post (-1) (tS, tL, tC, tU, ftl, ftt, fte))) ∧ (ly_full tC 6 = 0 → (((typ = 112 → (((en < 0 → (post (-1) (tS, tL, tC, tU, ftl, ftt, fte))) ∧ (¬ en < 0 → (((0 < lg_cmp en.toInt64 (u32 lim) → (post (-1) (tS, tL, tC, tU, ftl, ftt, fte))) ∧ (¬ 0 < lg_cmp en.toInt64 (u32 lim) → (((en ≤ 200 - tU → ((¬ tU < 0) ∧ ((tU ≤ (tU + en)) ∧ (((tU + en) ≤ nI 200) ∧ ((200 < 2147483648) ∧ (∀ u_10 : Nat → Int32, u_10 = ar_fill fte tU.toNatClampNeg (tU + en).toNatClampNeg (-1) → ((vp_in tC 6) ∧ ((ly_full tC 6 = 0) ∧ (∀ u_13 : Nat → Int32, u_13 = upd tS tC.toNatClampNeg tU → (∀ u_14 : Nat → Int32, u_14 = upd tL tC.toNatClampNeg en → (∀ u_15 : Int32, u_15 = tC + 1 → (∀ u_16 : Int32, u_16 = tU + en → ((vp_in tC 6) ∧ ∀ a_18 : Nat → Int32, a_18 = upd ftt tC.toNatClampNeg typ → ((vp_in tC 6) ∧ ∀ a_20 : Nat → Int32, a_20 = upd ftl tC.toNatClampNeg lim → (post tC (u_13, u_14, u_15, u_16, a_20, a_18, u_10)))))))))))))))) ∧ (¬ en ≤ 200 - tU → (post (-1) (tS, tL, tC, tU, ftl, ftt, fte)))))))))))) ∧ (¬ typ = 112 → (((typ = 111 → (((en < 0 → (post (-1) (tS, tL, tC, tU, ftl, ftt, fte))) ∧ (¬ en < 0 → (((0 < lg_cmp en.toInt64 (u32 lim) → (post (-1) (tS, tL, tC, tU, ftl, ftt, fte))) ∧ (¬ 0 < lg_cmp en.toInt64 (u32 lim) → (((en ≤ 200 - tU → ((¬ tU < 0) ∧ ((tU ≤ (tU + en)) ∧ (((tU + en) ≤ nI 200) ∧ ((200 < 2147483648) ∧ (∀ u_29 : Nat → Int32, u_29 = ar_fill fte tU.toNatClampNeg (tU + en).toNatClampNeg (-1) → ((vp_in tC 6) ∧ ((ly_full tC 6 = 0) ∧ (∀ u_32 : Nat → Int32, u_32 = upd tS tC.toNatClampNeg tU → (∀ u_33 : Nat → Int32, u_33 = upd tL tC.toNatClampNeg en → (∀ u_34 : Int32, u_34 = tC + 1 → (∀ u_35 : Int32, u_35 = tU + en → ((vp_in tC 6) ∧ ∀ a_37 : Nat → Int32, a_37 = upd ftt tC.toNatClampNeg typ → ((vp_in tC 6) ∧ ∀ a_39 : Nat → Int32, a_39 = upd ftl tC.toNatClampNeg lim → (post tC (u_32, u_33, u_34, u_35, a_39, a_37, u_29)))))))))))))))) ∧ (¬ en ≤ 200 - tU → (post (-1) (tS, tL, tC, tU, ftl, ftt, fte)))))))))))) ∧ (¬ typ = 111 → (post (-1) (tS, tL, tC, tU, ftl, ftt, fte))))))))))
set_option maxHeartbeats 4000000 in
set_option maxRecDepth 100000 in
theorem t_Pm_table (l : Launch) (G : cxT) (h : Nat) (m0 : Nat) (aml : Nat) (amb : Nat) (t0 : Nat) (atl : Nat) (att : Nat) (ate : Nat) (b0 : Nat) (asb : Nat) (r0 : Nat) (asr : Nat) (t1 : Nat) (t2 : Nat) (t3 : Nat) (trp : Int32) (tC : Int32) (tU : Int32) (tS : Nat → Int32) (tL : Nat → Int32) (tD : Nat → Int32) (ftl : Nat → Int32) (ftt : Nat → Int32) (fte : Nat → Int32) (typ : Int32) (en : Int32) (lim : Int32) (sz : Nat) (post : Int32 → ((Nat → Int32) × (Nat → Int32) × Int32 × Int32 × (Nat → Int32) × (Nat → Int32) × (Nat → Int32)) → Prop) (hw : wp_Pm_table post trp tC tU tS tL tD ftl ftt fte typ en lim) : Met l y_Pm_table [.code y_Pm_table b_Pm_table 6 (some .int)] ({ frames := 4, cells := 0, slots := 0, locals := 140 } : Room) (cm G [.ref h, .int typ, .int en, .int lim] [(h, .inr (1, [.ref m0, .ref aml, .ref amb, .ref t0, .ref atl, .ref att, .ref ate, .ref b0, .ref asb, .ref r0, .ref asr, .int trp])), (t0, .inr (0, [.int 200, .ref t1, .ref t2, .ref t3, .int tC, .int tU])), (t1, .inl (G.2.1 0, 6, .inl tS)), (t2, .inl (G.2.1 0, 6, .inl tL)), (t3, .inl (G.2.1 2, 6, .inl tD)), (atl, .inl (G.2.1 0, 6, .inl ftl)), (att, .inl (G.2.1 0, 6, .inl ftt)), (ate, .inl (G.2.1 0, 200, .inl fte))] sz) (va_Qi post (fun u t => va_P G.1 vwC [(h, .inr (1, [.ref m0, .ref aml, .ref amb, .ref t0, .ref atl, .ref att, .ref ate, .ref b0, .ref asb, .ref r0, .ref asr, .int trp])), (t0, .inr (0, [.int 200, .ref t1, .ref t2, .ref t3, .int u.2.2.1, .int u.2.2.2.1])), (t1, .inl (G.2.1 0, 6, .inl u.1)), (t2, .inl (G.2.1 0, 6, .inl u.2.1)), (t3, .inl (G.2.1 2, 6, .inl tD)), (atl, .inl (G.2.1 0, 6, .inl u.2.2.2.2.1)), (att, .inl (G.2.1 0, 6, .inl u.2.2.2.2.2.1)), (ate, .inl (G.2.1 0, 200, .inl u.2.2.2.2.2.2))] t.heap) (va_A [(h, .inr (1, [.ref m0, .ref aml, .ref amb, .ref t0, .ref atl, .ref att, .ref ate, .ref b0, .ref asb, .ref r0, .ref asr, .int trp])), (t0, .inr (0, [.int 200, .ref t1, .ref t2, .ref t3, .int tC, .int tU])), (t1, .inl (G.2.1 0, 6, .inl tS)), (t2, .inl (G.2.1 0, 6, .inl tL)), (t3, .inl (G.2.1 2, 6, .inl tD)), (atl, .inl (G.2.1 0, 6, .inl ftl)), (att, .inl (G.2.1 0, 6, .inl ftt)), (ate, .inl (G.2.1 0, 200, .inl fte))] sz)) 0 0 (va_A [(h, .inr (1, [.ref m0, .ref aml, .ref amb, .ref t0, .ref atl, .ref att, .ref ate, .ref b0, .ref asb, .ref r0, .ref asr, .int trp])), (t0, .inr (0, [.int 200, .ref t1, .ref t2, .ref t3, .int tC, .int tU])), (t1, .inl (G.2.1 0, 6, .inl tS)), (t2, .inl (G.2.1 0, 6, .inl tL)), (t3, .inl (G.2.1 2, 6, .inl tD)), (atl, .inl (G.2.1 0, 6, .inl ftl)), (att, .inl (G.2.1 0, 6, .inl ftt)), (ate, .inl (G.2.1 0, 200, .inl fte))] sz) := by
  refine Met.ofW (cc := b_Pm_table) (maxL := 6) (ret := (some .int)) (by decide +kernel) rfl ?_
  intro p e s m args below meth c s₁ B hml hv
  obtain ⟨rfl, hsz, hcx, hP, hD0⟩ := hv
  have hx := B.exec
  have hb := B.bytes
  have hr := B.returns
  have hlocks := B.notSynchronized
  have hown : s.vm.findClass R_Pm = some m.cls := findClass_of_methodNamed B.named
  subst hsz
  have hD := hD0.self (sz := s.heap.size)
  generalize hAe : va_A [(h, .inr (1, [.ref m0, .ref aml, .ref amb, .ref t0, .ref atl, .ref att, .ref ate, .ref b0, .ref asb, .ref r0, .ref asr, .int trp])), (t0, .inr (0, [.int 200, .ref t1, .ref t2, .ref t3, .int tC, .int tU])), (t1, .inl (G.2.1 0, 6, .inl tS)), (t2, .inl (G.2.1 0, 6, .inl tL)), (t3, .inl (G.2.1 2, 6, .inl tD)), (atl, .inl (G.2.1 0, 6, .inl ftl)), (att, .inl (G.2.1 0, 6, .inl ftt)), (ate, .inl (G.2.1 0, 200, .inl fte))] s.heap.size = A at hD hcx ⊢
  have hA : ∀ q : Nat, s.heap.size ≤ q → A q := fun q h => by rw [← hAe]; exact Or.inr h
  have hS : va_S A s.heap s.heap [] := va_S.rf
  have hts := hcx.now.1 [.ref h, .int typ, .int en, .int lim].toArray
  have hK := hcx.now.2.1
  have hl := lv_entry ([.ref h, .int typ, .int en, .int lim]) (n := 6) (Nat.le_of_ble_eq_true rfl)
  rw [lg_entry_eq]
  generalize (lg_sl ([.ref h, .int typ, .int en, .int lim]) ++ List.replicate (6 - (lg_sl ([.ref h, .int typ, .int en, .int lim])).length) Slot.unset).toArray = ls at hl ⊢
  have hl : lv_has ls 6 [(0, .ref h), (1, .int typ), (2, .int en), (3, .int lim)] := hl
  unfold wp_Pm_table at hw
  refine lv_aload_n hx hb d_Pm_table_0 rfl (lv_at hl 0 rfl) ?_
  refine va_get (D := G.1) (ci := 1) (v := .ref t0) (C := R_Pm) (T := T_Pm) (N := 12) hx hb hts in_Pm hown hK hP 0 rfl rfl 3 (by decide) (hts _ fl_Pm_26) (fun _ h9 => h9) rfl d_Pm_table_1 ?_
  have hPc := hP.sub (ws' := [(t0, .inr (0, [.int 200, .ref t1, .ref t2, .ref t3, .int tC, .int tU])), (t1, .inl (G.2.1 0, 6, .inl tS)), (t2, .inl (G.2.1 0, 6, .inl tL)), (t3, .inl (G.2.1 2, 6, .inl tD))]) [1, 2, 3, 4] rfl
  refine pu_i (va_runV (As := []) (rest := []) ⟨hx, hb, hml, hown, hts⟩ (c_Ly_isFull l G t0 t1 t2 t3 6 200 tC tU tS tL tD) (cwV 0 hts (gi_V ml_Pm_54 im_Ly_isFull se_Ly_isFull ini_Ly co_Ly_isFull) rfl rfl rfl (by decide +kernel) ⟨Nat.le_of_ble_eq_true rfl, Nat.le_of_ble_eq_true rfl⟩) ⟨cp_blind, va_recv hK hPc (ci := 0) (q0 := 0) rfl rfl, cp_pre hcx hS hPc⟩ rfl rfl hl.1 rfl (lv_room (Nat.le_of_ble_eq_true rfl)) d_Pm_table_4 ⟨Nat.le_of_ble_eq_true rfl, Nat.le_of_ble_eq_true rfl⟩) hS hP (fun H locs hP hS => ?_)
  refine lv_if_ne (tgt := 22) hx hb d_Pm_table_7 (by decide) (fun c_1 => ?_) (fun c_1 => ?_)
  · replace hw := hw.1 c_1
    refine lv_iconst (v := (-1)) hx hb d_Pm_table_22 (by decide) ?_
    exact W.iret (v := (-1)) hx hb hr (fun t ht hW => ⟨⟨(-1), (tS, tL, tC, tU, ftl, ftt, fte), rfl, hw, by have h9 := hP; rw [← ht] at h9; exact h9⟩, hS.F ht⟩) hS.2.2 d_Pm_table_23
  · replace hw := hw.2 c_1
    refine lv_iload_n hx hb d_Pm_table_10 rfl (lv_at hl 1 rfl) ?_
    refine lv_bipush (v := 112) hx hb d_Pm_table_11 (by decide) ?_
    refine lv_icmp_eq (tgt := 24) hx hb d_Pm_table_13 (by decide) (fun c_2 => ?_) (fun c_2 => ?_)
    · replace hw := hw.1 c_2
      refine lv_iload_n hx hb d_Pm_table_24 rfl (lv_at hl 2 rfl) ?_
      refine lv_if_lt (tgt := 49) hx hb d_Pm_table_25 (by decide) (fun c_3 => ?_) (fun c_3 => ?_)
      · replace hw := hw.1 c_3
        refine lv_iconst (v := (-1)) hx hb d_Pm_table_49 (by decide) ?_
        exact W.iret (v := (-1)) hx hb hr (fun t ht hW => ⟨⟨(-1), (tS, tL, tC, tU, ftl, ftt, fte), rfl, hw, by have h9 := hP; rw [← ht] at h9; exact h9⟩, hS.F ht⟩) hS.2.2 d_Pm_table_50
      · replace hw := hw.2 c_3
        refine lv_iload_n hx hb d_Pm_table_28 rfl (lv_at hl 2 rfl) ?_
        refine lv_i2l (v := en.toInt64) hx hb d_Pm_table_29 rfl ?_
        refine lv_iload_n hx hb d_Pm_table_30 rfl (lv_at hl 3 rfl) ?_
        have hPc := hP.sub (ws' := []) [] rfl
        refine pu_l (va_runS (As := [.int lim]) (rest := [.long en.toInt64]) ⟨hx, hb, hml, hown, hts⟩ (c_Pm_unsigned l G lim) (va_cwS 1 hts (gi_S ml_Pm_74 sm_Pm_unsigned ini_Pm co_Pm_unsigned) rfl rfl rfl (by decide +kernel) ⟨Nat.le_of_ble_eq_true rfl, Nat.le_of_ble_eq_true rfl⟩) ⟨cp_blind, cp_pre hcx hS hPc⟩ rfl rfl hl.1 rfl (lv_room (Nat.le_of_ble_eq_true rfl)) d_Pm_table_31 ⟨Nat.le_of_ble_eq_true rfl, Nat.le_of_ble_eq_true rfl⟩) hS hP (fun H locs hP hS => ?_)
        refine W.lcmp hx hb d_Pm_table_34 ?_
        refine lv_if_gt (tgt := 49) hx hb d_Pm_table_35 (by decide) (fun c_4 => ?_) (fun c_4 => ?_)
        · replace hw := hw.1 c_4
          refine lv_iconst (v := (-1)) hx hb d_Pm_table_49 (by decide) ?_
          exact W.iret (v := (-1)) hx hb hr (fun t ht hW => ⟨⟨(-1), (tS, tL, tC, tU, ftl, ftt, fte), rfl, hw, by have h9 := hP; rw [← ht] at h9; exact h9⟩, hS.F ht⟩) hS.2.2 d_Pm_table_50
        · replace hw := hw.2 c_4
          refine lv_iload_n hx hb d_Pm_table_38 rfl (lv_at hl 2 rfl) ?_
          refine lv_aload_n hx hb d_Pm_table_39 rfl (lv_at hl 0 rfl) ?_
          refine va_get (D := G.1) (ci := 1) (v := .ref t0) (C := R_Pm) (T := T_Pm) (N := 12) hx hb hts in_Pm hown hK hP 0 rfl rfl 3 (by decide) (hts _ fl_Pm_26) (fun _ h9 => h9) rfl d_Pm_table_40 ?_
          have hPc := hP.sub (ws' := [(t0, .inr (0, [.int 200, .ref t1, .ref t2, .ref t3, .int tC, .int tU])), (t1, .inl (G.2.1 0, 6, .inl tS)), (t2, .inl (G.2.1 0, 6, .inl tL)), (t3, .inl (G.2.1 2, 6, .inl tD))]) [1, 2, 3, 4] rfl
          refine pu_i (va_runV (As := []) (rest := [.int en]) ⟨hx, hb, hml, hown, hts⟩ (c_Ly_left l G t0 t1 t2 t3 6 200 tC tU tS tL tD) (cwV 0 hts (gi_V ml_Pm_150 im_Ly_left se_Ly_left ini_Ly co_Ly_left) rfl rfl rfl (by decide +kernel) ⟨Nat.le_of_ble_eq_true rfl, Nat.le_of_ble_eq_true rfl⟩) ⟨cp_blind, va_recv hK hPc (ci := 0) (q0 := 0) rfl rfl, cp_pre hcx hS hPc⟩ rfl rfl hl.1 rfl (lv_room (Nat.le_of_ble_eq_true rfl)) d_Pm_table_43 ⟨Nat.le_of_ble_eq_true rfl, Nat.le_of_ble_eq_true rfl⟩) hS hP (fun H locs hP hS => ?_)
          refine lv_icmp_le (tgt := 51) hx hb d_Pm_table_46 (by decide) (fun c_5 => ?_) (fun c_5 => ?_)
          · replace hw := hw.1 c_5
            refine lv_aload_n hx hb d_Pm_table_51 rfl (lv_at hl 0 rfl) ?_
            refine va_get (D := G.1) (ci := 1) (v := .ref t0) (C := R_Pm) (T := T_Pm) (N := 12) hx hb hts in_Pm hown hK hP 0 rfl rfl 3 (by decide) (hts _ fl_Pm_26) (fun _ h9 => h9) rfl d_Pm_table_52 ?_
            have hPc := hP.sub (ws' := [(t0, .inr (0, [.int 200, .ref t1, .ref t2, .ref t3, .int tC, .int tU])), (t1, .inl (G.2.1 0, 6, .inl tS)), (t2, .inl (G.2.1 0, 6, .inl tL)), (t3, .inl (G.2.1 2, 6, .inl tD))]) [1, 2, 3, 4] rfl
            refine pu_i (va_runV (As := []) (rest := []) ⟨hx, hb, hml, hown, hts⟩ (c_Ly_used l G t0 t1 t2 t3 6 200 tC tU tS tL tD) (cwV 0 hts (gi_V ml_Pm_81 im_Ly_used se_Ly_used ini_Ly co_Ly_used) rfl rfl rfl (by decide +kernel) ⟨Nat.le_of_ble_eq_true rfl, Nat.le_of_ble_eq_true rfl⟩) ⟨cp_blind, va_recv hK hPc (ci := 0) (q0 := 0) rfl rfl, cp_pre hcx hS hPc⟩ rfl rfl hl.1 rfl (lv_room (Nat.le_of_ble_eq_true rfl)) d_Pm_table_55 ⟨Nat.le_of_ble_eq_true rfl, Nat.le_of_ble_eq_true rfl⟩) hS hP (fun H locs hP hS => ?_)
            refine lv_istore (lv' := [(4, .int tU), (0, .ref h), (1, .int typ), (2, .int en), (3, .int lim)]) hx hb d_Pm_table_58 hl (by decide) rfl (fun ls hl => ?_)
            refine lv_aload_n hx hb d_Pm_table_60 rfl (lv_at hl 1 rfl) ?_
            refine va_get (D := G.1) (ci := 1) (v := .ref ate) (C := R_Pm) (T := T_Pm) (N := 12) hx hb hts in_Pm hown hK hP 0 rfl rfl 6 (by decide) (hts _ fl_Pm_35) (fun _ h9 => h9) rfl d_Pm_table_61 ?_
            refine lv_iload hx hb d_Pm_table_64 (lv_at hl 0 rfl) ?_
            refine lv_iload hx hb d_Pm_table_66 (lv_at hl 0 rfl) ?_
            refine lv_iload_n hx hb d_Pm_table_68 rfl (lv_at hl 3 rfl) ?_
            refine lv_iadd hx hb d_Pm_table_69 ?_
            refine lv_iconst (v := (-1)) hx hb d_Pm_table_70 (by decide) ?_
            obtain ⟨h_6, hw⟩ := hw
            obtain ⟨h_7, hw⟩ := hw
            obtain ⟨h_8, hw⟩ := hw
            obtain ⟨h_9, hw⟩ := hw
            have hPc := hP.sub (ws' := [(ate, .inl (G.2.1 0, 200, .inl fte))]) [7] rfl
            have hDc := hD.sub (ws' := [(ate, .inl (G.2.1 0, 200, .inl fte))]) [7] (by decide) rfl
            have hFc := va_free (wc := [(ate, .inl (G.2.1 0, 200, .inl fte))]) hD hS hA [7] rfl
            refine ip_v (va_runS (As := [.ref ate, .int tU, .int (tU + en), .int (-1)]) (rest := []) ⟨hx, hb, hml, hown, hts⟩ (c_Ar_fillI l G ate 200 fte tU (tU + en) (-1) _ h_6 h_7 h_8 h_9) (va_cwS 4 hts (gi_S ml_Pm_153 sm_Ar_fillI ini_Ar co_Ar_fillI) rfl rfl rfl (by decide +kernel) ⟨Nat.le_of_ble_eq_true rfl, Nat.le_of_ble_eq_true rfl⟩) ⟨cm_blind, cm_pre hcx hS hPc hDc hFc⟩ rfl rfl hl.1 rfl (lv_room (Nat.le_of_ble_eq_true rfl)) d_Pm_table_71 ⟨Nat.le_of_ble_eq_true rfl, Nat.le_of_ble_eq_true rfl⟩) hS hP hD hA [7] rfl (fun _ => rfl) (fun u9 H locs hp hP hD hS => ?_)
            replace hp := hp.symm; subst hp
            obtain ⟨u_10, eu_10⟩ : ∃ z : Nat → Int32, z = ar_fill fte tU.toNatClampNeg (tU + en).toNatClampNeg (-1) := ⟨_, rfl⟩
            replace hw := hw u_10 eu_10
            have hP : va_P G.1 vwC [(h, .inr (1, [.ref m0, .ref aml, .ref amb, .ref t0, .ref atl, .ref att, .ref ate, .ref b0, .ref asb, .ref r0, .ref asr, .int trp])), (t0, .inr (0, [.int 200, .ref t1, .ref t2, .ref t3, .int tC, .int tU])), (t1, .inl (G.2.1 0, 6, .inl tS)), (t2, .inl (G.2.1 0, 6, .inl tL)), (t3, .inl (G.2.1 2, 6, .inl tD)), (atl, .inl (G.2.1 0, 6, .inl ftl)), (att, .inl (G.2.1 0, 6, .inl ftt)), (ate, .inl (G.2.1 0, 200, .inl (ar_fill fte tU.toNatClampNeg (tU + en).toNatClampNeg (-1))))] H := hP
            have hD : va_D A [(h, .inr (1, [.ref m0, .ref aml, .ref amb, .ref t0, .ref atl, .ref att, .ref ate, .ref b0, .ref asb, .ref r0, .ref asr, .int trp])), (t0, .inr (0, [.int 200, .ref t1, .ref t2, .ref t3, .int tC, .int tU])), (t1, .inl (G.2.1 0, 6, .inl tS)), (t2, .inl (G.2.1 0, 6, .inl tL)), (t3, .inl (G.2.1 2, 6, .inl tD)), (atl, .inl (G.2.1 0, 6, .inl ftl)), (att, .inl (G.2.1 0, 6, .inl ftt)), (ate, .inl (G.2.1 0, 200, .inl (ar_fill fte tU.toNatClampNeg (tU + en).toNatClampNeg (-1))))] := hD
            have hP : va_P G.1 vwC [(h, .inr (1, [.ref m0, .ref aml, .ref amb, .ref t0, .ref atl, .ref att, .ref ate, .ref b0, .ref asb, .ref r0, .ref asr, .int trp])), (t0, .inr (0, [.int 200, .ref t1, .ref t2, .ref t3, .int tC, .int tU])), (t1, .inl (G.2.1 0, 6, .inl tS)), (t2, .inl (G.2.1 0, 6, .inl tL)), (t3, .inl (G.2.1 2, 6, .inl tD)), (atl, .inl (G.2.1 0, 6, .inl ftl)), (att, .inl (G.2.1 0, 6, .inl ftt)), (ate, .inl (G.2.1 0, 200, .inl u_10))] H := by rw [eu_10]; exact hP
            have hD : va_D A [(h, .inr (1, [.ref m0, .ref aml, .ref amb, .ref t0, .ref atl, .ref att, .ref ate, .ref b0, .ref asb, .ref r0, .ref asr, .int trp])), (t0, .inr (0, [.int 200, .ref t1, .ref t2, .ref t3, .int tC, .int tU])), (t1, .inl (G.2.1 0, 6, .inl tS)), (t2, .inl (G.2.1 0, 6, .inl tL)), (t3, .inl (G.2.1 2, 6, .inl tD)), (atl, .inl (G.2.1 0, 6, .inl ftl)), (att, .inl (G.2.1 0, 6, .inl ftt)), (ate, .inl (G.2.1 0, 200, .inl u_10))] := by rw [eu_10]; exact hD
            refine lv_aload_n hx hb d_Pm_table_74 rfl (lv_at hl 1 rfl) ?_
            refine va_get (D := G.1) (ci := 1) (v := .ref t0) (C := R_Pm) (T := T_Pm) (N := 12) hx hb hts in_Pm hown hK hP 0 rfl rfl 3 (by decide) (hts _ fl_Pm_26) (fun _ h9 => h9) rfl d_Pm_table_75 ?_
            refine lv_iload_n hx hb d_Pm_table_78 rfl (lv_at hl 3 rfl) ?_
            obtain ⟨h_11, hw⟩ := hw
            obtain ⟨h_12, hw⟩ := hw
            have hPc := hP.sub (ws' := [(t0, .inr (0, [.int 200, .ref t1, .ref t2, .ref t3, .int tC, .int tU])), (t1, .inl (G.2.1 0, 6, .inl tS)), (t2, .inl (G.2.1 0, 6, .inl tL)), (t3, .inl (G.2.1 2, 6, .inl tD))]) [1, 2, 3, 4] rfl
            have hDc := hD.sub (ws' := [(t0, .inr (0, [.int 200, .ref t1, .ref t2, .ref t3, .int tC, .int tU])), (t1, .inl (G.2.1 0, 6, .inl tS)), (t2, .inl (G.2.1 0, 6, .inl tL)), (t3, .inl (G.2.1 2, 6, .inl tD))]) [1, 2, 3, 4] (by decide) rfl
            have hFc := va_free (wc := [(t0, .inr (0, [.int 200, .ref t1, .ref t2, .ref t3, .int tC, .int tU])), (t1, .inl (G.2.1 0, 6, .inl tS)), (t2, .inl (G.2.1 0, 6, .inl tL)), (t3, .inl (G.2.1 2, 6, .inl tD))]) hD hS hA [1, 2, 3, 4] rfl
            refine ip_i (va_runV (As := [.int en]) (rest := []) ⟨hx, hb, hml, hown, hts⟩ (c_Ly_append l G t0 t1 t2 t3 6 200 tC tU tS tL tD en _ h_11 h_12) (cwV 1 hts (gi_V ml_Pm_63 im_Ly_append se_Ly_append ini_Ly co_Ly_append) rfl rfl rfl (by decide +kernel) ⟨Nat.le_of_ble_eq_true rfl, Nat.le_of_ble_eq_true rfl⟩) ⟨cm_blind, va_recv hK hPc (ci := 0) (q0 := 0) rfl rfl, cm_pre hcx hS hPc hDc hFc⟩ rfl rfl hl.1 rfl (lv_room (Nat.le_of_ble_eq_true rfl)) d_Pm_table_79 ⟨Nat.le_of_ble_eq_true rfl, Nat.le_of_ble_eq_true rfl⟩) hS hP hD hA [1, 2, 3, 4] rfl (fun _ => rfl) (fun r9 u9 H locs hp hP hD hS => ?_)
            obtain ⟨e91, e92⟩ := hp; replace e91 := e91.symm; replace e92 := e92.symm; subst e91; subst e92
            obtain ⟨u_13, eu_13⟩ : ∃ z : Nat → Int32, z = upd tS tC.toNatClampNeg tU := ⟨_, rfl⟩
            replace hw := hw u_13 eu_13
            obtain ⟨u_14, eu_14⟩ : ∃ z : Nat → Int32, z = upd tL tC.toNatClampNeg en := ⟨_, rfl⟩
            replace hw := hw u_14 eu_14
            obtain ⟨u_15, eu_15⟩ : ∃ z : Int32, z = tC + 1 := ⟨_, rfl⟩
            replace hw := hw u_15 eu_15
            obtain ⟨u_16, eu_16⟩ : ∃ z : Int32, z = tU + en := ⟨_, rfl⟩
            replace hw := hw u_16 eu_16
            have hP : va_P G.1 vwC [(h, .inr (1, [.ref m0, .ref aml, .ref amb, .ref t0, .ref atl, .ref att, .ref ate, .ref b0, .ref asb, .ref r0, .ref asr, .int trp])), (t0, .inr (0, [.int 200, .ref t1, .ref t2, .ref t3, .int (tC + 1), .int (tU + en)])), (t1, .inl (G.2.1 0, 6, .inl (upd tS tC.toNatClampNeg tU))), (t2, .inl (G.2.1 0, 6, .inl (upd tL tC.toNatClampNeg en))), (t3, .inl (G.2.1 2, 6, .inl tD)), (atl, .inl (G.2.1 0, 6, .inl ftl)), (att, .inl (G.2.1 0, 6, .inl ftt)), (ate, .inl (G.2.1 0, 200, .inl u_10))] H := hP
            have hD : va_D A [(h, .inr (1, [.ref m0, .ref aml, .ref amb, .ref t0, .ref atl, .ref att, .ref ate, .ref b0, .ref asb, .ref r0, .ref asr, .int trp])), (t0, .inr (0, [.int 200, .ref t1, .ref t2, .ref t3, .int (tC + 1), .int (tU + en)])), (t1, .inl (G.2.1 0, 6, .inl (upd tS tC.toNatClampNeg tU))), (t2, .inl (G.2.1 0, 6, .inl (upd tL tC.toNatClampNeg en))), (t3, .inl (G.2.1 2, 6, .inl tD)), (atl, .inl (G.2.1 0, 6, .inl ftl)), (att, .inl (G.2.1 0, 6, .inl ftt)), (ate, .inl (G.2.1 0, 200, .inl u_10))] := hD
            have hP : va_P G.1 vwC [(h, .inr (1, [.ref m0, .ref aml, .ref amb, .ref t0, .ref atl, .ref att, .ref ate, .ref b0, .ref asb, .ref r0, .ref asr, .int trp])), (t0, .inr (0, [.int 200, .ref t1, .ref t2, .ref t3, .int u_15, .int u_16])), (t1, .inl (G.2.1 0, 6, .inl u_13)), (t2, .inl (G.2.1 0, 6, .inl u_14)), (t3, .inl (G.2.1 2, 6, .inl tD)), (atl, .inl (G.2.1 0, 6, .inl ftl)), (att, .inl (G.2.1 0, 6, .inl ftt)), (ate, .inl (G.2.1 0, 200, .inl u_10))] H := by rw [eu_13]; rw [eu_14]; rw [eu_15]; rw [eu_16]; exact hP
            have hD : va_D A [(h, .inr (1, [.ref m0, .ref aml, .ref amb, .ref t0, .ref atl, .ref att, .ref ate, .ref b0, .ref asb, .ref r0, .ref asr, .int trp])), (t0, .inr (0, [.int 200, .ref t1, .ref t2, .ref t3, .int u_15, .int u_16])), (t1, .inl (G.2.1 0, 6, .inl u_13)), (t2, .inl (G.2.1 0, 6, .inl u_14)), (t3, .inl (G.2.1 2, 6, .inl tD)), (atl, .inl (G.2.1 0, 6, .inl ftl)), (att, .inl (G.2.1 0, 6, .inl ftt)), (ate, .inl (G.2.1 0, 200, .inl u_10))] := by rw [eu_13]; rw [eu_14]; rw [eu_15]; rw [eu_16]; exact hD
            refine lv_istore (lv' := [(5, .int tC), (4, .int tU), (0, .ref h), (1, .int typ), (2, .int en), (3, .int lim)]) hx hb d_Pm_table_82 hl (by decide) rfl (fun ls hl => ?_)
            refine lv_aload_n hx hb d_Pm_table_84 rfl (lv_at hl 2 rfl) ?_
            refine va_get (D := G.1) (ci := 1) (v := .ref att) (C := R_Pm) (T := T_Pm) (N := 12) hx hb hts in_Pm hown hK hP 0 rfl rfl 5 (by decide) (hts _ fl_Pm_32) (fun _ h9 => h9) rfl d_Pm_table_85 ?_
            refine lv_iload hx hb d_Pm_table_88 (lv_at hl 0 rfl) ?_
            refine lv_iload_n hx hb d_Pm_table_90 rfl (lv_at hl 3 rfl) ?_
            obtain ⟨h_17, hw⟩ := hw
            obtain ⟨a_18, ea_18⟩ : ∃ z, z = upd ftt tC.toNatClampNeg typ := ⟨_, rfl⟩
            replace hw := hw a_18 ea_18
            refine va_iast hx hb hK hP hD hS 6 0 rfl rfl h_17 d_Pm_table_91 (fun H locs hP hD hS => ?_)
            rw [← ea_18] at hP hD
            have hP : va_P G.1 vwC [(h, .inr (1, [.ref m0, .ref aml, .ref amb, .ref t0, .ref atl, .ref att, .ref ate, .ref b0, .ref asb, .ref r0, .ref asr, .int trp])), (t0, .inr (0, [.int 200, .ref t1, .ref t2, .ref t3, .int u_15, .int u_16])), (t1, .inl (G.2.1 0, 6, .inl u_13)), (t2, .inl (G.2.1 0, 6, .inl u_14)), (t3, .inl (G.2.1 2, 6, .inl tD)), (atl, .inl (G.2.1 0, 6, .inl ftl)), (att, .inl (G.2.1 0, 6, .inl a_18)), (ate, .inl (G.2.1 0, 200, .inl u_10))] H := hP
            have hD : va_D A [(h, .inr (1, [.ref m0, .ref aml, .ref amb, .ref t0, .ref atl, .ref att, .ref ate, .ref b0, .ref asb, .ref r0, .ref asr, .int trp])), (t0, .inr (0, [.int 200, .ref t1, .ref t2, .ref t3, .int u_15, .int u_16])), (t1, .inl (G.2.1 0, 6, .inl u_13)), (t2, .inl (G.2.1 0, 6, .inl u_14)), (t3, .inl (G.2.1 2, 6, .inl tD)), (atl, .inl (G.2.1 0, 6, .inl ftl)), (att, .inl (G.2.1 0, 6, .inl a_18)), (ate, .inl (G.2.1 0, 200, .inl u_10))] := hD
            refine lv_aload_n hx hb d_Pm_table_92 rfl (lv_at hl 2 rfl) ?_
            refine va_get (D := G.1) (ci := 1) (v := .ref atl) (C := R_Pm) (T := T_Pm) (N := 12) hx hb hts in_Pm hown hK hP 0 rfl rfl 4 (by decide) (hts _ fl_Pm_29) (fun _ h9 => h9) rfl d_Pm_table_93 ?_
            refine lv_iload hx hb d_Pm_table_96 (lv_at hl 0 rfl) ?_
            refine lv_iload_n hx hb d_Pm_table_98 rfl (lv_at hl 5 rfl) ?_
            obtain ⟨h_19, hw⟩ := hw
            obtain ⟨a_20, ea_20⟩ : ∃ z, z = upd ftl tC.toNatClampNeg lim := ⟨_, rfl⟩
            replace hw := hw a_20 ea_20
            refine va_iast hx hb hK hP hD hS 5 0 rfl rfl h_19 d_Pm_table_99 (fun H locs hP hD hS => ?_)
            rw [← ea_20] at hP hD
            have hP : va_P G.1 vwC [(h, .inr (1, [.ref m0, .ref aml, .ref amb, .ref t0, .ref atl, .ref att, .ref ate, .ref b0, .ref asb, .ref r0, .ref asr, .int trp])), (t0, .inr (0, [.int 200, .ref t1, .ref t2, .ref t3, .int u_15, .int u_16])), (t1, .inl (G.2.1 0, 6, .inl u_13)), (t2, .inl (G.2.1 0, 6, .inl u_14)), (t3, .inl (G.2.1 2, 6, .inl tD)), (atl, .inl (G.2.1 0, 6, .inl a_20)), (att, .inl (G.2.1 0, 6, .inl a_18)), (ate, .inl (G.2.1 0, 200, .inl u_10))] H := hP
            have hD : va_D A [(h, .inr (1, [.ref m0, .ref aml, .ref amb, .ref t0, .ref atl, .ref att, .ref ate, .ref b0, .ref asb, .ref r0, .ref asr, .int trp])), (t0, .inr (0, [.int 200, .ref t1, .ref t2, .ref t3, .int u_15, .int u_16])), (t1, .inl (G.2.1 0, 6, .inl u_13)), (t2, .inl (G.2.1 0, 6, .inl u_14)), (t3, .inl (G.2.1 2, 6, .inl tD)), (atl, .inl (G.2.1 0, 6, .inl a_20)), (att, .inl (G.2.1 0, 6, .inl a_18)), (ate, .inl (G.2.1 0, 200, .inl u_10))] := hD
            refine lv_iload hx hb d_Pm_table_100 (lv_at hl 0 rfl) ?_
            exact W.iret (v := tC) hx hb hr (fun t ht hW => ⟨⟨tC, (u_13, u_14, u_15, u_16, a_20, a_18, u_10), rfl, hw, by have h9 := hP; rw [← ht] at h9; exact h9⟩, hS.F ht⟩) hS.2.2 d_Pm_table_102
          · replace hw := hw.2 c_5
            refine lv_iconst (v := (-1)) hx hb d_Pm_table_49 (by decide) ?_
            exact W.iret (v := (-1)) hx hb hr (fun t ht hW => ⟨⟨(-1), (tS, tL, tC, tU, ftl, ftt, fte), rfl, hw, by have h9 := hP; rw [← ht] at h9; exact h9⟩, hS.F ht⟩) hS.2.2 d_Pm_table_50
    · replace hw := hw.2 c_2
      refine lv_iload_n hx hb d_Pm_table_16 rfl (lv_at hl 1 rfl) ?_
      refine lv_bipush (v := 111) hx hb d_Pm_table_17 (by decide) ?_
      refine lv_icmp_eq (tgt := 24) hx hb d_Pm_table_19 (by decide) (fun c_21 => ?_) (fun c_21 => ?_)
      · replace hw := hw.1 c_21
        refine lv_iload_n hx hb d_Pm_table_24 rfl (lv_at hl 2 rfl) ?_
        refine lv_if_lt (tgt := 49) hx hb d_Pm_table_25 (by decide) (fun c_22 => ?_) (fun c_22 => ?_)
        · replace hw := hw.1 c_22
          refine lv_iconst (v := (-1)) hx hb d_Pm_table_49 (by decide) ?_
          exact W.iret (v := (-1)) hx hb hr (fun t ht hW => ⟨⟨(-1), (tS, tL, tC, tU, ftl, ftt, fte), rfl, hw, by have h9 := hP; rw [← ht] at h9; exact h9⟩, hS.F ht⟩) hS.2.2 d_Pm_table_50
        · replace hw := hw.2 c_22
          refine lv_iload_n hx hb d_Pm_table_28 rfl (lv_at hl 2 rfl) ?_
          refine lv_i2l (v := en.toInt64) hx hb d_Pm_table_29 rfl ?_
          refine lv_iload_n hx hb d_Pm_table_30 rfl (lv_at hl 3 rfl) ?_
          have hPc := hP.sub (ws' := []) [] rfl
          refine pu_l (va_runS (As := [.int lim]) (rest := [.long en.toInt64]) ⟨hx, hb, hml, hown, hts⟩ (c_Pm_unsigned l G lim) (va_cwS 1 hts (gi_S ml_Pm_74 sm_Pm_unsigned ini_Pm co_Pm_unsigned) rfl rfl rfl (by decide +kernel) ⟨Nat.le_of_ble_eq_true rfl, Nat.le_of_ble_eq_true rfl⟩) ⟨cp_blind, cp_pre hcx hS hPc⟩ rfl rfl hl.1 rfl (lv_room (Nat.le_of_ble_eq_true rfl)) d_Pm_table_31 ⟨Nat.le_of_ble_eq_true rfl, Nat.le_of_ble_eq_true rfl⟩) hS hP (fun H locs hP hS => ?_)
          refine W.lcmp hx hb d_Pm_table_34 ?_
          refine lv_if_gt (tgt := 49) hx hb d_Pm_table_35 (by decide) (fun c_23 => ?_) (fun c_23 => ?_)
          · replace hw := hw.1 c_23
            refine lv_iconst (v := (-1)) hx hb d_Pm_table_49 (by decide) ?_
            exact W.iret (v := (-1)) hx hb hr (fun t ht hW => ⟨⟨(-1), (tS, tL, tC, tU, ftl, ftt, fte), rfl, hw, by have h9 := hP; rw [← ht] at h9; exact h9⟩, hS.F ht⟩) hS.2.2 d_Pm_table_50
          · replace hw := hw.2 c_23
            refine lv_iload_n hx hb d_Pm_table_38 rfl (lv_at hl 2 rfl) ?_
            refine lv_aload_n hx hb d_Pm_table_39 rfl (lv_at hl 0 rfl) ?_
            refine va_get (D := G.1) (ci := 1) (v := .ref t0) (C := R_Pm) (T := T_Pm) (N := 12) hx hb hts in_Pm hown hK hP 0 rfl rfl 3 (by decide) (hts _ fl_Pm_26) (fun _ h9 => h9) rfl d_Pm_table_40 ?_
            have hPc := hP.sub (ws' := [(t0, .inr (0, [.int 200, .ref t1, .ref t2, .ref t3, .int tC, .int tU])), (t1, .inl (G.2.1 0, 6, .inl tS)), (t2, .inl (G.2.1 0, 6, .inl tL)), (t3, .inl (G.2.1 2, 6, .inl tD))]) [1, 2, 3, 4] rfl
            refine pu_i (va_runV (As := []) (rest := [.int en]) ⟨hx, hb, hml, hown, hts⟩ (c_Ly_left l G t0 t1 t2 t3 6 200 tC tU tS tL tD) (cwV 0 hts (gi_V ml_Pm_150 im_Ly_left se_Ly_left ini_Ly co_Ly_left) rfl rfl rfl (by decide +kernel) ⟨Nat.le_of_ble_eq_true rfl, Nat.le_of_ble_eq_true rfl⟩) ⟨cp_blind, va_recv hK hPc (ci := 0) (q0 := 0) rfl rfl, cp_pre hcx hS hPc⟩ rfl rfl hl.1 rfl (lv_room (Nat.le_of_ble_eq_true rfl)) d_Pm_table_43 ⟨Nat.le_of_ble_eq_true rfl, Nat.le_of_ble_eq_true rfl⟩) hS hP (fun H locs hP hS => ?_)
            refine lv_icmp_le (tgt := 51) hx hb d_Pm_table_46 (by decide) (fun c_24 => ?_) (fun c_24 => ?_)
            · replace hw := hw.1 c_24
              refine lv_aload_n hx hb d_Pm_table_51 rfl (lv_at hl 0 rfl) ?_
              refine va_get (D := G.1) (ci := 1) (v := .ref t0) (C := R_Pm) (T := T_Pm) (N := 12) hx hb hts in_Pm hown hK hP 0 rfl rfl 3 (by decide) (hts _ fl_Pm_26) (fun _ h9 => h9) rfl d_Pm_table_52 ?_
              have hPc := hP.sub (ws' := [(t0, .inr (0, [.int 200, .ref t1, .ref t2, .ref t3, .int tC, .int tU])), (t1, .inl (G.2.1 0, 6, .inl tS)), (t2, .inl (G.2.1 0, 6, .inl tL)), (t3, .inl (G.2.1 2, 6, .inl tD))]) [1, 2, 3, 4] rfl
              refine pu_i (va_runV (As := []) (rest := []) ⟨hx, hb, hml, hown, hts⟩ (c_Ly_used l G t0 t1 t2 t3 6 200 tC tU tS tL tD) (cwV 0 hts (gi_V ml_Pm_81 im_Ly_used se_Ly_used ini_Ly co_Ly_used) rfl rfl rfl (by decide +kernel) ⟨Nat.le_of_ble_eq_true rfl, Nat.le_of_ble_eq_true rfl⟩) ⟨cp_blind, va_recv hK hPc (ci := 0) (q0 := 0) rfl rfl, cp_pre hcx hS hPc⟩ rfl rfl hl.1 rfl (lv_room (Nat.le_of_ble_eq_true rfl)) d_Pm_table_55 ⟨Nat.le_of_ble_eq_true rfl, Nat.le_of_ble_eq_true rfl⟩) hS hP (fun H locs hP hS => ?_)
              refine lv_istore (lv' := [(4, .int tU), (0, .ref h), (1, .int typ), (2, .int en), (3, .int lim)]) hx hb d_Pm_table_58 hl (by decide) rfl (fun ls hl => ?_)
              refine lv_aload_n hx hb d_Pm_table_60 rfl (lv_at hl 1 rfl) ?_
              refine va_get (D := G.1) (ci := 1) (v := .ref ate) (C := R_Pm) (T := T_Pm) (N := 12) hx hb hts in_Pm hown hK hP 0 rfl rfl 6 (by decide) (hts _ fl_Pm_35) (fun _ h9 => h9) rfl d_Pm_table_61 ?_
              refine lv_iload hx hb d_Pm_table_64 (lv_at hl 0 rfl) ?_
              refine lv_iload hx hb d_Pm_table_66 (lv_at hl 0 rfl) ?_
              refine lv_iload_n hx hb d_Pm_table_68 rfl (lv_at hl 3 rfl) ?_
              refine lv_iadd hx hb d_Pm_table_69 ?_
              refine lv_iconst (v := (-1)) hx hb d_Pm_table_70 (by decide) ?_
              obtain ⟨h_25, hw⟩ := hw
              obtain ⟨h_26, hw⟩ := hw
              obtain ⟨h_27, hw⟩ := hw
              obtain ⟨h_28, hw⟩ := hw
              have hPc := hP.sub (ws' := [(ate, .inl (G.2.1 0, 200, .inl fte))]) [7] rfl
              have hDc := hD.sub (ws' := [(ate, .inl (G.2.1 0, 200, .inl fte))]) [7] (by decide) rfl
              have hFc := va_free (wc := [(ate, .inl (G.2.1 0, 200, .inl fte))]) hD hS hA [7] rfl
              refine ip_v (va_runS (As := [.ref ate, .int tU, .int (tU + en), .int (-1)]) (rest := []) ⟨hx, hb, hml, hown, hts⟩ (c_Ar_fillI l G ate 200 fte tU (tU + en) (-1) _ h_25 h_26 h_27 h_28) (va_cwS 4 hts (gi_S ml_Pm_153 sm_Ar_fillI ini_Ar co_Ar_fillI) rfl rfl rfl (by decide +kernel) ⟨Nat.le_of_ble_eq_true rfl, Nat.le_of_ble_eq_true rfl⟩) ⟨cm_blind, cm_pre hcx hS hPc hDc hFc⟩ rfl rfl hl.1 rfl (lv_room (Nat.le_of_ble_eq_true rfl)) d_Pm_table_71 ⟨Nat.le_of_ble_eq_true rfl, Nat.le_of_ble_eq_true rfl⟩) hS hP hD hA [7] rfl (fun _ => rfl) (fun u9 H locs hp hP hD hS => ?_)
              replace hp := hp.symm; subst hp
              obtain ⟨u_29, eu_29⟩ : ∃ z : Nat → Int32, z = ar_fill fte tU.toNatClampNeg (tU + en).toNatClampNeg (-1) := ⟨_, rfl⟩
              replace hw := hw u_29 eu_29
              have hP : va_P G.1 vwC [(h, .inr (1, [.ref m0, .ref aml, .ref amb, .ref t0, .ref atl, .ref att, .ref ate, .ref b0, .ref asb, .ref r0, .ref asr, .int trp])), (t0, .inr (0, [.int 200, .ref t1, .ref t2, .ref t3, .int tC, .int tU])), (t1, .inl (G.2.1 0, 6, .inl tS)), (t2, .inl (G.2.1 0, 6, .inl tL)), (t3, .inl (G.2.1 2, 6, .inl tD)), (atl, .inl (G.2.1 0, 6, .inl ftl)), (att, .inl (G.2.1 0, 6, .inl ftt)), (ate, .inl (G.2.1 0, 200, .inl (ar_fill fte tU.toNatClampNeg (tU + en).toNatClampNeg (-1))))] H := hP
              have hD : va_D A [(h, .inr (1, [.ref m0, .ref aml, .ref amb, .ref t0, .ref atl, .ref att, .ref ate, .ref b0, .ref asb, .ref r0, .ref asr, .int trp])), (t0, .inr (0, [.int 200, .ref t1, .ref t2, .ref t3, .int tC, .int tU])), (t1, .inl (G.2.1 0, 6, .inl tS)), (t2, .inl (G.2.1 0, 6, .inl tL)), (t3, .inl (G.2.1 2, 6, .inl tD)), (atl, .inl (G.2.1 0, 6, .inl ftl)), (att, .inl (G.2.1 0, 6, .inl ftt)), (ate, .inl (G.2.1 0, 200, .inl (ar_fill fte tU.toNatClampNeg (tU + en).toNatClampNeg (-1))))] := hD
              have hP : va_P G.1 vwC [(h, .inr (1, [.ref m0, .ref aml, .ref amb, .ref t0, .ref atl, .ref att, .ref ate, .ref b0, .ref asb, .ref r0, .ref asr, .int trp])), (t0, .inr (0, [.int 200, .ref t1, .ref t2, .ref t3, .int tC, .int tU])), (t1, .inl (G.2.1 0, 6, .inl tS)), (t2, .inl (G.2.1 0, 6, .inl tL)), (t3, .inl (G.2.1 2, 6, .inl tD)), (atl, .inl (G.2.1 0, 6, .inl ftl)), (att, .inl (G.2.1 0, 6, .inl ftt)), (ate, .inl (G.2.1 0, 200, .inl u_29))] H := by rw [eu_29]; exact hP
              have hD : va_D A [(h, .inr (1, [.ref m0, .ref aml, .ref amb, .ref t0, .ref atl, .ref att, .ref ate, .ref b0, .ref asb, .ref r0, .ref asr, .int trp])), (t0, .inr (0, [.int 200, .ref t1, .ref t2, .ref t3, .int tC, .int tU])), (t1, .inl (G.2.1 0, 6, .inl tS)), (t2, .inl (G.2.1 0, 6, .inl tL)), (t3, .inl (G.2.1 2, 6, .inl tD)), (atl, .inl (G.2.1 0, 6, .inl ftl)), (att, .inl (G.2.1 0, 6, .inl ftt)), (ate, .inl (G.2.1 0, 200, .inl u_29))] := by rw [eu_29]; exact hD
              refine lv_aload_n hx hb d_Pm_table_74 rfl (lv_at hl 1 rfl) ?_
              refine va_get (D := G.1) (ci := 1) (v := .ref t0) (C := R_Pm) (T := T_Pm) (N := 12) hx hb hts in_Pm hown hK hP 0 rfl rfl 3 (by decide) (hts _ fl_Pm_26) (fun _ h9 => h9) rfl d_Pm_table_75 ?_
              refine lv_iload_n hx hb d_Pm_table_78 rfl (lv_at hl 3 rfl) ?_
              obtain ⟨h_30, hw⟩ := hw
              obtain ⟨h_31, hw⟩ := hw
              have hPc := hP.sub (ws' := [(t0, .inr (0, [.int 200, .ref t1, .ref t2, .ref t3, .int tC, .int tU])), (t1, .inl (G.2.1 0, 6, .inl tS)), (t2, .inl (G.2.1 0, 6, .inl tL)), (t3, .inl (G.2.1 2, 6, .inl tD))]) [1, 2, 3, 4] rfl
              have hDc := hD.sub (ws' := [(t0, .inr (0, [.int 200, .ref t1, .ref t2, .ref t3, .int tC, .int tU])), (t1, .inl (G.2.1 0, 6, .inl tS)), (t2, .inl (G.2.1 0, 6, .inl tL)), (t3, .inl (G.2.1 2, 6, .inl tD))]) [1, 2, 3, 4] (by decide) rfl
              have hFc := va_free (wc := [(t0, .inr (0, [.int 200, .ref t1, .ref t2, .ref t3, .int tC, .int tU])), (t1, .inl (G.2.1 0, 6, .inl tS)), (t2, .inl (G.2.1 0, 6, .inl tL)), (t3, .inl (G.2.1 2, 6, .inl tD))]) hD hS hA [1, 2, 3, 4] rfl
              refine ip_i (va_runV (As := [.int en]) (rest := []) ⟨hx, hb, hml, hown, hts⟩ (c_Ly_append l G t0 t1 t2 t3 6 200 tC tU tS tL tD en _ h_30 h_31) (cwV 1 hts (gi_V ml_Pm_63 im_Ly_append se_Ly_append ini_Ly co_Ly_append) rfl rfl rfl (by decide +kernel) ⟨Nat.le_of_ble_eq_true rfl, Nat.le_of_ble_eq_true rfl⟩) ⟨cm_blind, va_recv hK hPc (ci := 0) (q0 := 0) rfl rfl, cm_pre hcx hS hPc hDc hFc⟩ rfl rfl hl.1 rfl (lv_room (Nat.le_of_ble_eq_true rfl)) d_Pm_table_79 ⟨Nat.le_of_ble_eq_true rfl, Nat.le_of_ble_eq_true rfl⟩) hS hP hD hA [1, 2, 3, 4] rfl (fun _ => rfl) (fun r9 u9 H locs hp hP hD hS => ?_)
              obtain ⟨e91, e92⟩ := hp; replace e91 := e91.symm; replace e92 := e92.symm; subst e91; subst e92
              obtain ⟨u_32, eu_32⟩ : ∃ z : Nat → Int32, z = upd tS tC.toNatClampNeg tU := ⟨_, rfl⟩
              replace hw := hw u_32 eu_32
              obtain ⟨u_33, eu_33⟩ : ∃ z : Nat → Int32, z = upd tL tC.toNatClampNeg en := ⟨_, rfl⟩
              replace hw := hw u_33 eu_33
              obtain ⟨u_34, eu_34⟩ : ∃ z : Int32, z = tC + 1 := ⟨_, rfl⟩
              replace hw := hw u_34 eu_34
              obtain ⟨u_35, eu_35⟩ : ∃ z : Int32, z = tU + en := ⟨_, rfl⟩
              replace hw := hw u_35 eu_35
              have hP : va_P G.1 vwC [(h, .inr (1, [.ref m0, .ref aml, .ref amb, .ref t0, .ref atl, .ref att, .ref ate, .ref b0, .ref asb, .ref r0, .ref asr, .int trp])), (t0, .inr (0, [.int 200, .ref t1, .ref t2, .ref t3, .int (tC + 1), .int (tU + en)])), (t1, .inl (G.2.1 0, 6, .inl (upd tS tC.toNatClampNeg tU))), (t2, .inl (G.2.1 0, 6, .inl (upd tL tC.toNatClampNeg en))), (t3, .inl (G.2.1 2, 6, .inl tD)), (atl, .inl (G.2.1 0, 6, .inl ftl)), (att, .inl (G.2.1 0, 6, .inl ftt)), (ate, .inl (G.2.1 0, 200, .inl u_29))] H := hP
              have hD : va_D A [(h, .inr (1, [.ref m0, .ref aml, .ref amb, .ref t0, .ref atl, .ref att, .ref ate, .ref b0, .ref asb, .ref r0, .ref asr, .int trp])), (t0, .inr (0, [.int 200, .ref t1, .ref t2, .ref t3, .int (tC + 1), .int (tU + en)])), (t1, .inl (G.2.1 0, 6, .inl (upd tS tC.toNatClampNeg tU))), (t2, .inl (G.2.1 0, 6, .inl (upd tL tC.toNatClampNeg en))), (t3, .inl (G.2.1 2, 6, .inl tD)), (atl, .inl (G.2.1 0, 6, .inl ftl)), (att, .inl (G.2.1 0, 6, .inl ftt)), (ate, .inl (G.2.1 0, 200, .inl u_29))] := hD
              have hP : va_P G.1 vwC [(h, .inr (1, [.ref m0, .ref aml, .ref amb, .ref t0, .ref atl, .ref att, .ref ate, .ref b0, .ref asb, .ref r0, .ref asr, .int trp])), (t0, .inr (0, [.int 200, .ref t1, .ref t2, .ref t3, .int u_34, .int u_35])), (t1, .inl (G.2.1 0, 6, .inl u_32)), (t2, .inl (G.2.1 0, 6, .inl u_33)), (t3, .inl (G.2.1 2, 6, .inl tD)), (atl, .inl (G.2.1 0, 6, .inl ftl)), (att, .inl (G.2.1 0, 6, .inl ftt)), (ate, .inl (G.2.1 0, 200, .inl u_29))] H := by rw [eu_32]; rw [eu_33]; rw [eu_34]; rw [eu_35]; exact hP
              have hD : va_D A [(h, .inr (1, [.ref m0, .ref aml, .ref amb, .ref t0, .ref atl, .ref att, .ref ate, .ref b0, .ref asb, .ref r0, .ref asr, .int trp])), (t0, .inr (0, [.int 200, .ref t1, .ref t2, .ref t3, .int u_34, .int u_35])), (t1, .inl (G.2.1 0, 6, .inl u_32)), (t2, .inl (G.2.1 0, 6, .inl u_33)), (t3, .inl (G.2.1 2, 6, .inl tD)), (atl, .inl (G.2.1 0, 6, .inl ftl)), (att, .inl (G.2.1 0, 6, .inl ftt)), (ate, .inl (G.2.1 0, 200, .inl u_29))] := by rw [eu_32]; rw [eu_33]; rw [eu_34]; rw [eu_35]; exact hD
              refine lv_istore (lv' := [(5, .int tC), (4, .int tU), (0, .ref h), (1, .int typ), (2, .int en), (3, .int lim)]) hx hb d_Pm_table_82 hl (by decide) rfl (fun ls hl => ?_)
              refine lv_aload_n hx hb d_Pm_table_84 rfl (lv_at hl 2 rfl) ?_
              refine va_get (D := G.1) (ci := 1) (v := .ref att) (C := R_Pm) (T := T_Pm) (N := 12) hx hb hts in_Pm hown hK hP 0 rfl rfl 5 (by decide) (hts _ fl_Pm_32) (fun _ h9 => h9) rfl d_Pm_table_85 ?_
              refine lv_iload hx hb d_Pm_table_88 (lv_at hl 0 rfl) ?_
              refine lv_iload_n hx hb d_Pm_table_90 rfl (lv_at hl 3 rfl) ?_
              obtain ⟨h_36, hw⟩ := hw
              obtain ⟨a_37, ea_37⟩ : ∃ z, z = upd ftt tC.toNatClampNeg typ := ⟨_, rfl⟩
              replace hw := hw a_37 ea_37
              refine va_iast hx hb hK hP hD hS 6 0 rfl rfl h_36 d_Pm_table_91 (fun H locs hP hD hS => ?_)
              rw [← ea_37] at hP hD
              have hP : va_P G.1 vwC [(h, .inr (1, [.ref m0, .ref aml, .ref amb, .ref t0, .ref atl, .ref att, .ref ate, .ref b0, .ref asb, .ref r0, .ref asr, .int trp])), (t0, .inr (0, [.int 200, .ref t1, .ref t2, .ref t3, .int u_34, .int u_35])), (t1, .inl (G.2.1 0, 6, .inl u_32)), (t2, .inl (G.2.1 0, 6, .inl u_33)), (t3, .inl (G.2.1 2, 6, .inl tD)), (atl, .inl (G.2.1 0, 6, .inl ftl)), (att, .inl (G.2.1 0, 6, .inl a_37)), (ate, .inl (G.2.1 0, 200, .inl u_29))] H := hP
              have hD : va_D A [(h, .inr (1, [.ref m0, .ref aml, .ref amb, .ref t0, .ref atl, .ref att, .ref ate, .ref b0, .ref asb, .ref r0, .ref asr, .int trp])), (t0, .inr (0, [.int 200, .ref t1, .ref t2, .ref t3, .int u_34, .int u_35])), (t1, .inl (G.2.1 0, 6, .inl u_32)), (t2, .inl (G.2.1 0, 6, .inl u_33)), (t3, .inl (G.2.1 2, 6, .inl tD)), (atl, .inl (G.2.1 0, 6, .inl ftl)), (att, .inl (G.2.1 0, 6, .inl a_37)), (ate, .inl (G.2.1 0, 200, .inl u_29))] := hD
              refine lv_aload_n hx hb d_Pm_table_92 rfl (lv_at hl 2 rfl) ?_
              refine va_get (D := G.1) (ci := 1) (v := .ref atl) (C := R_Pm) (T := T_Pm) (N := 12) hx hb hts in_Pm hown hK hP 0 rfl rfl 4 (by decide) (hts _ fl_Pm_29) (fun _ h9 => h9) rfl d_Pm_table_93 ?_
              refine lv_iload hx hb d_Pm_table_96 (lv_at hl 0 rfl) ?_
              refine lv_iload_n hx hb d_Pm_table_98 rfl (lv_at hl 5 rfl) ?_
              obtain ⟨h_38, hw⟩ := hw
              obtain ⟨a_39, ea_39⟩ : ∃ z, z = upd ftl tC.toNatClampNeg lim := ⟨_, rfl⟩
              replace hw := hw a_39 ea_39
              refine va_iast hx hb hK hP hD hS 5 0 rfl rfl h_38 d_Pm_table_99 (fun H locs hP hD hS => ?_)
              rw [← ea_39] at hP hD
              have hP : va_P G.1 vwC [(h, .inr (1, [.ref m0, .ref aml, .ref amb, .ref t0, .ref atl, .ref att, .ref ate, .ref b0, .ref asb, .ref r0, .ref asr, .int trp])), (t0, .inr (0, [.int 200, .ref t1, .ref t2, .ref t3, .int u_34, .int u_35])), (t1, .inl (G.2.1 0, 6, .inl u_32)), (t2, .inl (G.2.1 0, 6, .inl u_33)), (t3, .inl (G.2.1 2, 6, .inl tD)), (atl, .inl (G.2.1 0, 6, .inl a_39)), (att, .inl (G.2.1 0, 6, .inl a_37)), (ate, .inl (G.2.1 0, 200, .inl u_29))] H := hP
              have hD : va_D A [(h, .inr (1, [.ref m0, .ref aml, .ref amb, .ref t0, .ref atl, .ref att, .ref ate, .ref b0, .ref asb, .ref r0, .ref asr, .int trp])), (t0, .inr (0, [.int 200, .ref t1, .ref t2, .ref t3, .int u_34, .int u_35])), (t1, .inl (G.2.1 0, 6, .inl u_32)), (t2, .inl (G.2.1 0, 6, .inl u_33)), (t3, .inl (G.2.1 2, 6, .inl tD)), (atl, .inl (G.2.1 0, 6, .inl a_39)), (att, .inl (G.2.1 0, 6, .inl a_37)), (ate, .inl (G.2.1 0, 200, .inl u_29))] := hD
              refine lv_iload hx hb d_Pm_table_100 (lv_at hl 0 rfl) ?_
              exact W.iret (v := tC) hx hb hr (fun t ht hW => ⟨⟨tC, (u_32, u_33, u_34, u_35, a_39, a_37, u_29), rfl, hw, by have h9 := hP; rw [← ht] at h9; exact h9⟩, hS.F ht⟩) hS.2.2 d_Pm_table_102
            · replace hw := hw.2 c_24
              refine lv_iconst (v := (-1)) hx hb d_Pm_table_49 (by decide) ?_
              exact W.iret (v := (-1)) hx hb hr (fun t ht hW => ⟨⟨(-1), (tS, tL, tC, tU, ftl, ftt, fte), rfl, hw, by have h9 := hP; rw [← ht] at h9; exact h9⟩, hS.F ht⟩) hS.2.2 d_Pm_table_50
      · replace hw := hw.2 c_21
        refine lv_iconst (v := (-1)) hx hb d_Pm_table_22 (by decide) ?_
        exact W.iret (v := (-1)) hx hb hr (fun t ht hW => ⟨⟨(-1), (tS, tL, tC, tU, ftl, ftt, fte), rfl, hw, by have h9 := hP; rw [← ht] at h9; exact h9⟩, hS.F ht⟩) hS.2.2 d_Pm_table_23
def wp_Pm_growTable (post : Int32 → ((Nat → Int32) × (Nat → Int32) × Int32 × (Nat → Int32)) → Prop) (trp : Int32) (tC : Int32) (tU : Int32) (tS : Nat → Int32) (tL : Nat → Int32) (tD : Nat → Int32) (ftl : Nat → Int32) (fte : Nat → Int32) (k : Int32) (ng : Int32) (rf : Int32) : Prop := ((ly_has tC k = 0 → (post (-1) (tS, tL, tU, fte))) ∧ (¬ ly_has tC k = 0 → (((¬ is_ref rf = 0 → ((tC.toInt ≤ 6) ∧ (∀ x_4 : Int32, x_4 = ly_ln tC k tL → (∀ x_5 : Int64, x_5 = u32 ng → ((vp_in k 6) ∧ (((0 < lg_cmp (x_4.toInt64 + x_5) (u32 (ftl k.toNatClampNeg)) → (post (-1) (tS, tL, tU, fte))) ∧ (¬ 0 < lg_cmp (x_4.toInt64 + x_5) (u32 (ftl k.toNatClampNeg)) → (((lg_cmp x_5 ((200 - tU).toInt64) ≤ 0 → ((tC.toInt ≤ 6) ∧ (∀ x_10 : Int32, x_10 = ly_en tC tU k tS tL → ((¬ x_10 < 0) ∧ (¬ x_10 + ng < 0) ∧ (¬ tU - x_10 < 0) ∧ (x_10.toNatClampNeg + (tU - x_10).toNatClampNeg ≤ 200) ∧ ((x_10 + ng).toNatClampNeg + (tU - x_10).toNatClampNeg ≤ 200) ∧ (∀ i, i < (tU - x_10).toNatClampNeg → fits .int (.int (fte (x_10.toNatClampNeg + i))) = true) ∧ ∀ a_17 : Nat → Int32, a_17 = va_cpy fte fte x_10.toNatClampNeg ((x_10 + ng).toNatClampNeg) ((tU - x_10).toNatClampNeg) → ((¬ x_10 < 0) ∧ ((x_10 ≤ (x_10 + ng)) ∧ (((x_10 + ng) ≤ nI 200) ∧ ((200 < 2147483648) ∧ (∀ u_22 : Nat → Int32, u_22 = ar_fill a_17 x_10.toNatClampNeg (x_10 + ng).toNatClampNeg rf → ((tC.toInt ≤ 6) ∧ ((¬ ly_has tC k = 0) ∧ ((6 < 2147483648) ∧ (∀ u_26 : Nat → Int32, u_26 = ly_shift tS k.toNatClampNeg tC.toNatClampNeg ng → (∀ u_27 : Nat → Int32, u_27 = upd tL k.toNatClampNeg (tL k.toNatClampNeg + ng) → (∀ u_28 : Int32, u_28 = tU + ng → (post x_4 (u_26, u_27, u_28, u_22))))))))))))))))) ∧ (¬ lg_cmp x_5 ((200 - tU).toInt64) ≤ 0 → (post (-1) (tS, tL, tU, fte))))))))))))) ∧ (is_ref rf = 0 → (post (-1) (tS, tL, tU, fte)))))))
set_option maxHeartbeats 4000000 in
set_option maxRecDepth 100000 in
theorem t_Pm_growTable (l : Launch) (G : cxT) (h : Nat) (m0 : Nat) (aml : Nat) (amb : Nat) (t0 : Nat) (atl : Nat) (att : Nat) (ate : Nat) (b0 : Nat) (asb : Nat) (r0 : Nat) (asr : Nat) (t1 : Nat) (t2 : Nat) (t3 : Nat) (trp : Int32) (tC : Int32) (tU : Int32) (tS : Nat → Int32) (tL : Nat → Int32) (tD : Nat → Int32) (ftl : Nat → Int32) (fte : Nat → Int32) (k : Int32) (ng : Int32) (rf : Int32) (sz : Nat) (post : Int32 → ((Nat → Int32) × (Nat → Int32) × Int32 × (Nat → Int32)) → Prop) (hw : wp_Pm_growTable post trp tC tU tS tL tD ftl fte k ng rf) : Met l y_Pm_growTable [.code y_Pm_growTable b_Pm_growTable 8 (some .int)] ({ frames := 4, cells := 0, slots := 0, locals := 140 } : Room) (cm G [.ref h, .int k, .int ng, .int rf] [(h, .inr (1, [.ref m0, .ref aml, .ref amb, .ref t0, .ref atl, .ref att, .ref ate, .ref b0, .ref asb, .ref r0, .ref asr, .int trp])), (t0, .inr (0, [.int 200, .ref t1, .ref t2, .ref t3, .int tC, .int tU])), (t1, .inl (G.2.1 0, 6, .inl tS)), (t2, .inl (G.2.1 0, 6, .inl tL)), (t3, .inl (G.2.1 2, 6, .inl tD)), (atl, .inl (G.2.1 0, 6, .inl ftl)), (ate, .inl (G.2.1 0, 200, .inl fte))] sz) (va_Qi post (fun u t => va_P G.1 vwC [(h, .inr (1, [.ref m0, .ref aml, .ref amb, .ref t0, .ref atl, .ref att, .ref ate, .ref b0, .ref asb, .ref r0, .ref asr, .int trp])), (t0, .inr (0, [.int 200, .ref t1, .ref t2, .ref t3, .int tC, .int u.2.2.1])), (t1, .inl (G.2.1 0, 6, .inl u.1)), (t2, .inl (G.2.1 0, 6, .inl u.2.1)), (t3, .inl (G.2.1 2, 6, .inl tD)), (atl, .inl (G.2.1 0, 6, .inl ftl)), (ate, .inl (G.2.1 0, 200, .inl u.2.2.2))] t.heap) (va_A [(h, .inr (1, [.ref m0, .ref aml, .ref amb, .ref t0, .ref atl, .ref att, .ref ate, .ref b0, .ref asb, .ref r0, .ref asr, .int trp])), (t0, .inr (0, [.int 200, .ref t1, .ref t2, .ref t3, .int tC, .int tU])), (t1, .inl (G.2.1 0, 6, .inl tS)), (t2, .inl (G.2.1 0, 6, .inl tL)), (t3, .inl (G.2.1 2, 6, .inl tD)), (atl, .inl (G.2.1 0, 6, .inl ftl)), (ate, .inl (G.2.1 0, 200, .inl fte))] sz)) 0 0 (va_A [(h, .inr (1, [.ref m0, .ref aml, .ref amb, .ref t0, .ref atl, .ref att, .ref ate, .ref b0, .ref asb, .ref r0, .ref asr, .int trp])), (t0, .inr (0, [.int 200, .ref t1, .ref t2, .ref t3, .int tC, .int tU])), (t1, .inl (G.2.1 0, 6, .inl tS)), (t2, .inl (G.2.1 0, 6, .inl tL)), (t3, .inl (G.2.1 2, 6, .inl tD)), (atl, .inl (G.2.1 0, 6, .inl ftl)), (ate, .inl (G.2.1 0, 200, .inl fte))] sz) := by
  refine Met.ofW (cc := b_Pm_growTable) (maxL := 8) (ret := (some .int)) (by decide +kernel) rfl ?_
  intro p e s m args below meth c s₁ B hml hv
  obtain ⟨rfl, hsz, hcx, hP, hD0⟩ := hv
  have hx := B.exec
  have hb := B.bytes
  have hr := B.returns
  have hlocks := B.notSynchronized
  have hown : s.vm.findClass R_Pm = some m.cls := findClass_of_methodNamed B.named
  subst hsz
  have hD := hD0.self (sz := s.heap.size)
  generalize hAe : va_A [(h, .inr (1, [.ref m0, .ref aml, .ref amb, .ref t0, .ref atl, .ref att, .ref ate, .ref b0, .ref asb, .ref r0, .ref asr, .int trp])), (t0, .inr (0, [.int 200, .ref t1, .ref t2, .ref t3, .int tC, .int tU])), (t1, .inl (G.2.1 0, 6, .inl tS)), (t2, .inl (G.2.1 0, 6, .inl tL)), (t3, .inl (G.2.1 2, 6, .inl tD)), (atl, .inl (G.2.1 0, 6, .inl ftl)), (ate, .inl (G.2.1 0, 200, .inl fte))] s.heap.size = A at hD hcx ⊢
  have hA : ∀ q : Nat, s.heap.size ≤ q → A q := fun q h => by rw [← hAe]; exact Or.inr h
  have hS : va_S A s.heap s.heap [] := va_S.rf
  have hts := hcx.now.1 [.ref h, .int k, .int ng, .int rf].toArray
  have hK := hcx.now.2.1
  have hl := lv_entry ([.ref h, .int k, .int ng, .int rf]) (n := 8) (Nat.le_of_ble_eq_true rfl)
  rw [lg_entry_eq]
  generalize (lg_sl ([.ref h, .int k, .int ng, .int rf]) ++ List.replicate (8 - (lg_sl ([.ref h, .int k, .int ng, .int rf])).length) Slot.unset).toArray = ls at hl ⊢
  have hl : lv_has ls 8 [(0, .ref h), (1, .int k), (2, .int ng), (3, .int rf)] := hl
  unfold wp_Pm_growTable at hw
  refine lv_aload_n hx hb d_Pm_growTable_0 rfl (lv_at hl 0 rfl) ?_
  refine va_get (D := G.1) (ci := 1) (v := .ref t0) (C := R_Pm) (T := T_Pm) (N := 12) hx hb hts in_Pm hown hK hP 0 rfl rfl 3 (by decide) (hts _ fl_Pm_26) (fun _ h9 => h9) rfl d_Pm_growTable_1 ?_
  refine lv_iload_n hx hb d_Pm_growTable_4 rfl (lv_at hl 1 rfl) ?_
  have hPc := hP.sub (ws' := [(t0, .inr (0, [.int 200, .ref t1, .ref t2, .ref t3, .int tC, .int tU])), (t1, .inl (G.2.1 0, 6, .inl tS)), (t2, .inl (G.2.1 0, 6, .inl tL)), (t3, .inl (G.2.1 2, 6, .inl tD))]) [1, 2, 3, 4] rfl
  refine pu_i (va_runV (As := [.int k]) (rest := []) ⟨hx, hb, hml, hown, hts⟩ (c_Ly_has l G t0 t1 t2 t3 6 200 tC tU tS tL tD k) (cwV 1 hts (gi_V ml_Pm_67 im_Ly_has se_Ly_has ini_Ly co_Ly_has) rfl rfl rfl (by decide +kernel) ⟨Nat.le_of_ble_eq_true rfl, Nat.le_of_ble_eq_true rfl⟩) ⟨cp_blind, va_recv hK hPc (ci := 0) (q0 := 0) rfl rfl, cp_pre hcx hS hPc⟩ rfl rfl hl.1 rfl (lv_room (Nat.le_of_ble_eq_true rfl)) d_Pm_growTable_5 ⟨Nat.le_of_ble_eq_true rfl, Nat.le_of_ble_eq_true rfl⟩) hS hP (fun H locs hP hS => ?_)
  refine lv_if_eq (tgt := 18) hx hb d_Pm_growTable_8 (by decide) (fun c_1 => ?_) (fun c_1 => ?_)
  · replace hw := hw.1 c_1
    refine lv_iconst (v := (-1)) hx hb d_Pm_growTable_18 (by decide) ?_
    exact W.iret (v := (-1)) hx hb hr (fun t ht hW => ⟨⟨(-1), (tS, tL, tU, fte), rfl, hw, by have h9 := hP; rw [← ht] at h9; exact h9⟩, hS.F ht⟩) hS.2.2 d_Pm_growTable_19
  · replace hw := hw.2 c_1
    refine lv_iload_n hx hb d_Pm_growTable_11 rfl (lv_at hl 3 rfl) ?_
    have hPc := hP.sub (ws' := []) [] rfl
    refine pu_i (va_runS (As := [.int rf]) (rest := []) ⟨hx, hb, hml, hown, hts⟩ (c_Pm_isReference l G rf) (va_cwS 1 hts (gi_S ml_Pm_158 sm_Pm_isReference ini_Pm co_Pm_isReference) rfl rfl rfl (by decide +kernel) ⟨Nat.le_of_ble_eq_true rfl, Nat.le_of_ble_eq_true rfl⟩) ⟨cp_blind, cp_pre hcx hS hPc⟩ rfl rfl hl.1 rfl (lv_room (Nat.le_of_ble_eq_true rfl)) d_Pm_growTable_12 ⟨Nat.le_of_ble_eq_true rfl, Nat.le_of_ble_eq_true rfl⟩) hS hP (fun H locs hP hS => ?_)
    refine lv_if_ne (tgt := 20) hx hb d_Pm_growTable_15 (by decide) (fun c_2 => ?_) (fun c_2 => ?_)
    · replace hw := hw.1 c_2
      refine lv_aload_n hx hb d_Pm_growTable_20 rfl (lv_at hl 0 rfl) ?_
      refine va_get (D := G.1) (ci := 1) (v := .ref t0) (C := R_Pm) (T := T_Pm) (N := 12) hx hb hts in_Pm hown hK hP 0 rfl rfl 3 (by decide) (hts _ fl_Pm_26) (fun _ h9 => h9) rfl d_Pm_growTable_21 ?_
      refine lv_iload_n hx hb d_Pm_growTable_24 rfl (lv_at hl 1 rfl) ?_
      obtain ⟨h_3, hw⟩ := hw
      have hPc := hP.sub (ws' := [(t0, .inr (0, [.int 200, .ref t1, .ref t2, .ref t3, .int tC, .int tU])), (t1, .inl (G.2.1 0, 6, .inl tS)), (t2, .inl (G.2.1 0, 6, .inl tL)), (t3, .inl (G.2.1 2, 6, .inl tD))]) [1, 2, 3, 4] rfl
      refine pu_i (va_runV (As := [.int k]) (rest := []) ⟨hx, hb, hml, hown, hts⟩ (c_Ly_lengthOf l G t0 t1 t2 t3 6 200 tC tU tS tL tD k h_3) (cwV 1 hts (gi_V ml_Pm_163 im_Ly_lengthOf se_Ly_lengthOf ini_Ly co_Ly_lengthOf) rfl rfl rfl (by decide +kernel) ⟨Nat.le_of_ble_eq_true rfl, Nat.le_of_ble_eq_true rfl⟩) ⟨cp_blind, va_recv hK hPc (ci := 0) (q0 := 0) rfl rfl, cp_pre hcx hS hPc⟩ rfl rfl hl.1 rfl (lv_room (Nat.le_of_ble_eq_true rfl)) d_Pm_growTable_25 ⟨Nat.le_of_ble_eq_true rfl, Nat.le_of_ble_eq_true rfl⟩) hS hP (fun H locs hP hS => ?_)
      refine lv_topi (fun x_4 ex_4 => ?_)
      replace hw := hw x_4 ex_4
      refine lv_istore (lv' := [(4, .int x_4), (0, .ref h), (1, .int k), (2, .int ng), (3, .int rf)]) hx hb d_Pm_growTable_28 hl (by decide) rfl (fun ls hl => ?_)
      refine lv_iload_n hx hb d_Pm_growTable_30 rfl (lv_at hl 3 rfl) ?_
      have hPc := hP.sub (ws' := []) [] rfl
      refine pu_l (va_runS (As := [.int ng]) (rest := []) ⟨hx, hb, hml, hown, hts⟩ (c_Pm_unsigned l G ng) (va_cwS 1 hts (gi_S ml_Pm_74 sm_Pm_unsigned ini_Pm co_Pm_unsigned) rfl rfl rfl (by decide +kernel) ⟨Nat.le_of_ble_eq_true rfl, Nat.le_of_ble_eq_true rfl⟩) ⟨cp_blind, cp_pre hcx hS hPc⟩ rfl rfl hl.1 rfl (lv_room (Nat.le_of_ble_eq_true rfl)) d_Pm_growTable_31 ⟨Nat.le_of_ble_eq_true rfl, Nat.le_of_ble_eq_true rfl⟩) hS hP (fun H locs hP hS => ?_)
      refine lv_topl (fun x_5 ex_5 => ?_)
      replace hw := hw x_5 ex_5
      refine lv_lstore (lv' := [(5, .long x_5), (4, .int x_4), (0, .ref h), (1, .int k), (2, .int ng), (3, .int rf)]) hx hb d_Pm_growTable_34 hl (by decide) rfl (fun ls hl => ?_)
      refine lv_iload hx hb d_Pm_growTable_36 (lv_at hl 1 rfl) ?_
      refine lv_i2l (v := x_4.toInt64) hx hb d_Pm_growTable_38 rfl ?_
      refine lv_lload hx hb d_Pm_growTable_39 (lv_at hl 0 rfl) ?_
      refine lv_ladd hx hb d_Pm_growTable_41 ?_
      refine lv_aload_n hx hb d_Pm_growTable_42 rfl (lv_at hl 2 rfl) ?_
      refine va_get (D := G.1) (ci := 1) (v := .ref atl) (C := R_Pm) (T := T_Pm) (N := 12) hx hb hts in_Pm hown hK hP 0 rfl rfl 4 (by decide) (hts _ fl_Pm_29) (fun _ h9 => h9) rfl d_Pm_growTable_43 ?_
      refine lv_iload_n hx hb d_Pm_growTable_46 rfl (lv_at hl 3 rfl) ?_
      obtain ⟨h_6, hw⟩ := hw
      refine va_iald hx hb hK hP 5 0 rfl rfl h_6 d_Pm_growTable_47 ?_
      have hPc := hP.sub (ws' := []) [] rfl
      refine pu_l (va_runS (As := [.int (ftl k.toNatClampNeg)]) (rest := [.long (x_4.toInt64 + x_5)]) ⟨hx, hb, hml, hown, hts⟩ (c_Pm_unsigned l G (ftl k.toNatClampNeg)) (va_cwS 1 hts (gi_S ml_Pm_74 sm_Pm_unsigned ini_Pm co_Pm_unsigned) rfl rfl rfl (by decide +kernel) ⟨Nat.le_of_ble_eq_true rfl, Nat.le_of_ble_eq_true rfl⟩) ⟨cp_blind, cp_pre hcx hS hPc⟩ rfl rfl hl.1 rfl (lv_room (Nat.le_of_ble_eq_true rfl)) d_Pm_growTable_48 ⟨Nat.le_of_ble_eq_true rfl, Nat.le_of_ble_eq_true rfl⟩) hS hP (fun H locs hP hS => ?_)
      refine W.lcmp hx hb d_Pm_growTable_51 ?_
      refine lv_if_gt (tgt := 69) hx hb d_Pm_growTable_52 (by decide) (fun c_7 => ?_) (fun c_7 => ?_)
      · replace hw := hw.1 c_7
        refine lv_iconst (v := (-1)) hx hb d_Pm_growTable_69 (by decide) ?_
        exact W.iret (v := (-1)) hx hb hr (fun t ht hW => ⟨⟨(-1), (tS, tL, tU, fte), rfl, hw, by have h9 := hP; rw [← ht] at h9; exact h9⟩, hS.F ht⟩) hS.2.2 d_Pm_growTable_70
      · replace hw := hw.2 c_7
        refine lv_lload hx hb d_Pm_growTable_55 (lv_at hl 0 rfl) ?_
        refine lv_aload_n hx hb d_Pm_growTable_57 rfl (lv_at hl 2 rfl) ?_
        refine va_get (D := G.1) (ci := 1) (v := .ref t0) (C := R_Pm) (T := T_Pm) (N := 12) hx hb hts in_Pm hown hK hP 0 rfl rfl 3 (by decide) (hts _ fl_Pm_26) (fun _ h9 => h9) rfl d_Pm_growTable_58 ?_
        have hPc := hP.sub (ws' := [(t0, .inr (0, [.int 200, .ref t1, .ref t2, .ref t3, .int tC, .int tU])), (t1, .inl (G.2.1 0, 6, .inl tS)), (t2, .inl (G.2.1 0, 6, .inl tL)), (t3, .inl (G.2.1 2, 6, .inl tD))]) [1, 2, 3, 4] rfl
        refine pu_i (va_runV (As := []) (rest := [.long x_5]) ⟨hx, hb, hml, hown, hts⟩ (c_Ly_left l G t0 t1 t2 t3 6 200 tC tU tS tL tD) (cwV 0 hts (gi_V ml_Pm_150 im_Ly_left se_Ly_left ini_Ly co_Ly_left) rfl rfl rfl (by decide +kernel) ⟨Nat.le_of_ble_eq_true rfl, Nat.le_of_ble_eq_true rfl⟩) ⟨cp_blind, va_recv hK hPc (ci := 0) (q0 := 0) rfl rfl, cp_pre hcx hS hPc⟩ rfl rfl hl.1 rfl (lv_room (Nat.le_of_ble_eq_true rfl)) d_Pm_growTable_61 ⟨Nat.le_of_ble_eq_true rfl, Nat.le_of_ble_eq_true rfl⟩) hS hP (fun H locs hP hS => ?_)
        refine lv_i2l (v := (200 - tU).toInt64) hx hb d_Pm_growTable_64 rfl ?_
        refine W.lcmp hx hb d_Pm_growTable_65 ?_
        refine lv_if_le (tgt := 71) hx hb d_Pm_growTable_66 (by decide) (fun c_8 => ?_) (fun c_8 => ?_)
        · replace hw := hw.1 c_8
          refine lv_aload_n hx hb d_Pm_growTable_71 rfl (lv_at hl 2 rfl) ?_
          refine va_get (D := G.1) (ci := 1) (v := .ref t0) (C := R_Pm) (T := T_Pm) (N := 12) hx hb hts in_Pm hown hK hP 0 rfl rfl 3 (by decide) (hts _ fl_Pm_26) (fun _ h9 => h9) rfl d_Pm_growTable_72 ?_
          refine lv_iload_n hx hb d_Pm_growTable_75 rfl (lv_at hl 3 rfl) ?_
          obtain ⟨h_9, hw⟩ := hw
          have hPc := hP.sub (ws' := [(t0, .inr (0, [.int 200, .ref t1, .ref t2, .ref t3, .int tC, .int tU])), (t1, .inl (G.2.1 0, 6, .inl tS)), (t2, .inl (G.2.1 0, 6, .inl tL)), (t3, .inl (G.2.1 2, 6, .inl tD))]) [1, 2, 3, 4] rfl
          refine pu_i (va_runV (As := [.int k]) (rest := []) ⟨hx, hb, hml, hown, hts⟩ (c_Ly_endOf l G t0 t1 t2 t3 6 200 tC tU tS tL tD k h_9) (cwV 1 hts (gi_V ml_Pm_78 im_Ly_endOf se_Ly_endOf ini_Ly co_Ly_endOf) rfl rfl rfl (by decide +kernel) ⟨Nat.le_of_ble_eq_true rfl, Nat.le_of_ble_eq_true rfl⟩) ⟨cp_blind, va_recv hK hPc (ci := 0) (q0 := 0) rfl rfl, cp_pre hcx hS hPc⟩ rfl rfl hl.1 rfl (lv_room (Nat.le_of_ble_eq_true rfl)) d_Pm_growTable_76 ⟨Nat.le_of_ble_eq_true rfl, Nat.le_of_ble_eq_true rfl⟩) hS hP (fun H locs hP hS => ?_)
          refine lv_topi (fun x_10 ex_10 => ?_)
          replace hw := hw x_10 ex_10
          refine lv_istore (lv' := [(7, .int x_10), (5, .long x_5), (4, .int x_4), (0, .ref h), (1, .int k), (2, .int ng), (3, .int rf)]) hx hb d_Pm_growTable_79 hl (by decide) rfl (fun ls hl => ?_)
          refine lv_aload_n hx hb d_Pm_growTable_81 rfl (lv_at hl 3 rfl) ?_
          refine va_get (D := G.1) (ci := 1) (v := .ref ate) (C := R_Pm) (T := T_Pm) (N := 12) hx hb hts in_Pm hown hK hP 0 rfl rfl 6 (by decide) (hts _ fl_Pm_35) (fun _ h9 => h9) rfl d_Pm_growTable_82 ?_
          refine lv_iload hx hb d_Pm_growTable_85 (lv_at hl 0 rfl) ?_
          refine lv_aload_n hx hb d_Pm_growTable_87 rfl (lv_at hl 3 rfl) ?_
          refine va_get (D := G.1) (ci := 1) (v := .ref ate) (C := R_Pm) (T := T_Pm) (N := 12) hx hb hts in_Pm hown hK hP 0 rfl rfl 6 (by decide) (hts _ fl_Pm_35) (fun _ h9 => h9) rfl d_Pm_growTable_88 ?_
          refine lv_iload hx hb d_Pm_growTable_91 (lv_at hl 0 rfl) ?_
          refine lv_iload_n hx hb d_Pm_growTable_93 rfl (lv_at hl 5 rfl) ?_
          refine lv_iadd hx hb d_Pm_growTable_94 ?_
          refine lv_aload_n hx hb d_Pm_growTable_95 rfl (lv_at hl 3 rfl) ?_
          refine va_get (D := G.1) (ci := 1) (v := .ref t0) (C := R_Pm) (T := T_Pm) (N := 12) hx hb hts in_Pm hown hK hP 0 rfl rfl 3 (by decide) (hts _ fl_Pm_26) (fun _ h9 => h9) rfl d_Pm_growTable_96 ?_
          have hPc := hP.sub (ws' := [(t0, .inr (0, [.int 200, .ref t1, .ref t2, .ref t3, .int tC, .int tU])), (t1, .inl (G.2.1 0, 6, .inl tS)), (t2, .inl (G.2.1 0, 6, .inl tL)), (t3, .inl (G.2.1 2, 6, .inl tD))]) [1, 2, 3, 4] rfl
          refine pu_i (va_runV (As := []) (rest := [.int (x_10 + ng), .ref ate, .int x_10, .ref ate]) ⟨hx, hb, hml, hown, hts⟩ (c_Ly_used l G t0 t1 t2 t3 6 200 tC tU tS tL tD) (cwV 0 hts (gi_V ml_Pm_81 im_Ly_used se_Ly_used ini_Ly co_Ly_used) rfl rfl rfl (by decide +kernel) ⟨Nat.le_of_ble_eq_true rfl, Nat.le_of_ble_eq_true rfl⟩) ⟨cp_blind, va_recv hK hPc (ci := 0) (q0 := 0) rfl rfl, cp_pre hcx hS hPc⟩ rfl rfl hl.1 rfl (lv_room (Nat.le_of_ble_eq_true rfl)) d_Pm_growTable_99 ⟨Nat.le_of_ble_eq_true rfl, Nat.le_of_ble_eq_true rfl⟩) hS hP (fun H locs hP hS => ?_)
          refine lv_iload hx hb d_Pm_growTable_102 (lv_at hl 0 rfl) ?_
          refine lv_isub hx hb d_Pm_growTable_104 ?_
          obtain ⟨h_11, h_12, h_13, h_14, h_15, h_16, hw⟩ := hw
          obtain ⟨a_17, ea_17⟩ : ∃ z, z = va_cpy fte fte x_10.toNatClampNeg ((x_10 + ng).toNatClampNeg) ((tU - x_10).toNatClampNeg) := ⟨_, rfl⟩
          replace hw := hw a_17 ea_17
          refine va_copyi (ty := .int) hx hb (hml.trans hl.1.symm) hown (hts _ ml_Pm_84) (hts _ nt_arraycopy) (hts _ sm_arraycopy) (hts _ ini_System) hK hP hD hS 6 6 0 0 rfl rfl rfl rfl rfl h_11 h_12 h_13 h_14 h_15 h_16 (Nat.le_of_ble_eq_true rfl) (Nat.le_of_ble_eq_true rfl) d_Pm_growTable_105 (fun H locs hP hD hS => ?_)
          rw [← ea_17] at hP hD
          have hP : va_P G.1 vwC [(h, .inr (1, [.ref m0, .ref aml, .ref amb, .ref t0, .ref atl, .ref att, .ref ate, .ref b0, .ref asb, .ref r0, .ref asr, .int trp])), (t0, .inr (0, [.int 200, .ref t1, .ref t2, .ref t3, .int tC, .int tU])), (t1, .inl (G.2.1 0, 6, .inl tS)), (t2, .inl (G.2.1 0, 6, .inl tL)), (t3, .inl (G.2.1 2, 6, .inl tD)), (atl, .inl (G.2.1 0, 6, .inl ftl)), (ate, .inl (G.2.1 0, 200, .inl a_17))] H := hP
          have hD : va_D A [(h, .inr (1, [.ref m0, .ref aml, .ref amb, .ref t0, .ref atl, .ref att, .ref ate, .ref b0, .ref asb, .ref r0, .ref asr, .int trp])), (t0, .inr (0, [.int 200, .ref t1, .ref t2, .ref t3, .int tC, .int tU])), (t1, .inl (G.2.1 0, 6, .inl tS)), (t2, .inl (G.2.1 0, 6, .inl tL)), (t3, .inl (G.2.1 2, 6, .inl tD)), (atl, .inl (G.2.1 0, 6, .inl ftl)), (ate, .inl (G.2.1 0, 200, .inl a_17))] := hD
          refine lv_aload_n hx hb d_Pm_growTable_108 rfl (lv_at hl 3 rfl) ?_
          refine va_get (D := G.1) (ci := 1) (v := .ref ate) (C := R_Pm) (T := T_Pm) (N := 12) hx hb hts in_Pm hown hK hP 0 rfl rfl 6 (by decide) (hts _ fl_Pm_35) (fun _ h9 => h9) rfl d_Pm_growTable_109 ?_
          refine lv_iload hx hb d_Pm_growTable_112 (lv_at hl 0 rfl) ?_
          refine lv_iload hx hb d_Pm_growTable_114 (lv_at hl 0 rfl) ?_
          refine lv_iload_n hx hb d_Pm_growTable_116 rfl (lv_at hl 5 rfl) ?_
          refine lv_iadd hx hb d_Pm_growTable_117 ?_
          refine lv_iload_n hx hb d_Pm_growTable_118 rfl (lv_at hl 6 rfl) ?_
          obtain ⟨h_18, hw⟩ := hw
          obtain ⟨h_19, hw⟩ := hw
          obtain ⟨h_20, hw⟩ := hw
          obtain ⟨h_21, hw⟩ := hw
          have hPc := hP.sub (ws' := [(ate, .inl (G.2.1 0, 200, .inl a_17))]) [6] rfl
          have hDc := hD.sub (ws' := [(ate, .inl (G.2.1 0, 200, .inl a_17))]) [6] (by decide) rfl
          have hFc := va_free (wc := [(ate, .inl (G.2.1 0, 200, .inl a_17))]) hD hS hA [6] rfl
          refine ip_v (va_runS (As := [.ref ate, .int x_10, .int (x_10 + ng), .int rf]) (rest := []) ⟨hx, hb, hml, hown, hts⟩ (c_Ar_fillI l G ate 200 a_17 x_10 (x_10 + ng) rf _ h_18 h_19 h_20 h_21) (va_cwS 4 hts (gi_S ml_Pm_153 sm_Ar_fillI ini_Ar co_Ar_fillI) rfl rfl rfl (by decide +kernel) ⟨Nat.le_of_ble_eq_true rfl, Nat.le_of_ble_eq_true rfl⟩) ⟨cm_blind, cm_pre hcx hS hPc hDc hFc⟩ rfl rfl hl.1 rfl (lv_room (Nat.le_of_ble_eq_true rfl)) d_Pm_growTable_119 ⟨Nat.le_of_ble_eq_true rfl, Nat.le_of_ble_eq_true rfl⟩) hS hP hD hA [6] rfl (fun _ => rfl) (fun u9 H locs hp hP hD hS => ?_)
          replace hp := hp.symm; subst hp
          obtain ⟨u_22, eu_22⟩ : ∃ z : Nat → Int32, z = ar_fill a_17 x_10.toNatClampNeg (x_10 + ng).toNatClampNeg rf := ⟨_, rfl⟩
          replace hw := hw u_22 eu_22
          have hP : va_P G.1 vwC [(h, .inr (1, [.ref m0, .ref aml, .ref amb, .ref t0, .ref atl, .ref att, .ref ate, .ref b0, .ref asb, .ref r0, .ref asr, .int trp])), (t0, .inr (0, [.int 200, .ref t1, .ref t2, .ref t3, .int tC, .int tU])), (t1, .inl (G.2.1 0, 6, .inl tS)), (t2, .inl (G.2.1 0, 6, .inl tL)), (t3, .inl (G.2.1 2, 6, .inl tD)), (atl, .inl (G.2.1 0, 6, .inl ftl)), (ate, .inl (G.2.1 0, 200, .inl (ar_fill a_17 x_10.toNatClampNeg (x_10 + ng).toNatClampNeg rf)))] H := hP
          have hD : va_D A [(h, .inr (1, [.ref m0, .ref aml, .ref amb, .ref t0, .ref atl, .ref att, .ref ate, .ref b0, .ref asb, .ref r0, .ref asr, .int trp])), (t0, .inr (0, [.int 200, .ref t1, .ref t2, .ref t3, .int tC, .int tU])), (t1, .inl (G.2.1 0, 6, .inl tS)), (t2, .inl (G.2.1 0, 6, .inl tL)), (t3, .inl (G.2.1 2, 6, .inl tD)), (atl, .inl (G.2.1 0, 6, .inl ftl)), (ate, .inl (G.2.1 0, 200, .inl (ar_fill a_17 x_10.toNatClampNeg (x_10 + ng).toNatClampNeg rf)))] := hD
          have hP : va_P G.1 vwC [(h, .inr (1, [.ref m0, .ref aml, .ref amb, .ref t0, .ref atl, .ref att, .ref ate, .ref b0, .ref asb, .ref r0, .ref asr, .int trp])), (t0, .inr (0, [.int 200, .ref t1, .ref t2, .ref t3, .int tC, .int tU])), (t1, .inl (G.2.1 0, 6, .inl tS)), (t2, .inl (G.2.1 0, 6, .inl tL)), (t3, .inl (G.2.1 2, 6, .inl tD)), (atl, .inl (G.2.1 0, 6, .inl ftl)), (ate, .inl (G.2.1 0, 200, .inl u_22))] H := by rw [eu_22]; exact hP
          have hD : va_D A [(h, .inr (1, [.ref m0, .ref aml, .ref amb, .ref t0, .ref atl, .ref att, .ref ate, .ref b0, .ref asb, .ref r0, .ref asr, .int trp])), (t0, .inr (0, [.int 200, .ref t1, .ref t2, .ref t3, .int tC, .int tU])), (t1, .inl (G.2.1 0, 6, .inl tS)), (t2, .inl (G.2.1 0, 6, .inl tL)), (t3, .inl (G.2.1 2, 6, .inl tD)), (atl, .inl (G.2.1 0, 6, .inl ftl)), (ate, .inl (G.2.1 0, 200, .inl u_22))] := by rw [eu_22]; exact hD
          refine lv_aload_n hx hb d_Pm_growTable_122 rfl (lv_at hl 3 rfl) ?_
          refine va_get (D := G.1) (ci := 1) (v := .ref t0) (C := R_Pm) (T := T_Pm) (N := 12) hx hb hts in_Pm hown hK hP 0 rfl rfl 3 (by decide) (hts _ fl_Pm_26) (fun _ h9 => h9) rfl d_Pm_growTable_123 ?_
          refine lv_iload_n hx hb d_Pm_growTable_126 rfl (lv_at hl 4 rfl) ?_
          refine lv_iload_n hx hb d_Pm_growTable_127 rfl (lv_at hl 5 rfl) ?_
          obtain ⟨h_23, hw⟩ := hw
          obtain ⟨h_24, hw⟩ := hw
          obtain ⟨h_25, hw⟩ := hw
          have hPc := hP.sub (ws' := [(t0, .inr (0, [.int 200, .ref t1, .ref t2, .ref t3, .int tC, .int tU])), (t1, .inl (G.2.1 0, 6, .inl tS)), (t2, .inl (G.2.1 0, 6, .inl tL)), (t3, .inl (G.2.1 2, 6, .inl tD))]) [1, 2, 3, 4] rfl
          have hDc := hD.sub (ws' := [(t0, .inr (0, [.int 200, .ref t1, .ref t2, .ref t3, .int tC, .int tU])), (t1, .inl (G.2.1 0, 6, .inl tS)), (t2, .inl (G.2.1 0, 6, .inl tL)), (t3, .inl (G.2.1 2, 6, .inl tD))]) [1, 2, 3, 4] (by decide) rfl
          have hFc := va_free (wc := [(t0, .inr (0, [.int 200, .ref t1, .ref t2, .ref t3, .int tC, .int tU])), (t1, .inl (G.2.1 0, 6, .inl tS)), (t2, .inl (G.2.1 0, 6, .inl tL)), (t3, .inl (G.2.1 2, 6, .inl tD))]) hD hS hA [1, 2, 3, 4] rfl
          refine ip_v (va_runV (As := [.int k, .int ng]) (rest := []) ⟨hx, hb, hml, hown, hts⟩ (c_Ly_widen l G t0 t1 t2 t3 6 200 tC tU tS tL tD k ng _ h_23 h_24 h_25) (cwV 2 hts (gi_V ml_Pm_96 im_Ly_widen se_Ly_widen ini_Ly co_Ly_widen) rfl rfl rfl (by decide +kernel) ⟨Nat.le_of_ble_eq_true rfl, Nat.le_of_ble_eq_true rfl⟩) ⟨cm_blind, va_recv hK hPc (ci := 0) (q0 := 0) rfl rfl, cm_pre hcx hS hPc hDc hFc⟩ rfl rfl hl.1 rfl (lv_room (Nat.le_of_ble_eq_true rfl)) d_Pm_growTable_128 ⟨Nat.le_of_ble_eq_true rfl, Nat.le_of_ble_eq_true rfl⟩) hS hP hD hA [1, 2, 3, 4] rfl (fun _ => rfl) (fun u9 H locs hp hP hD hS => ?_)
          replace hp := hp.symm; subst hp
          obtain ⟨u_26, eu_26⟩ : ∃ z : Nat → Int32, z = ly_shift tS k.toNatClampNeg tC.toNatClampNeg ng := ⟨_, rfl⟩
          replace hw := hw u_26 eu_26
          obtain ⟨u_27, eu_27⟩ : ∃ z : Nat → Int32, z = upd tL k.toNatClampNeg (tL k.toNatClampNeg + ng) := ⟨_, rfl⟩
          replace hw := hw u_27 eu_27
          obtain ⟨u_28, eu_28⟩ : ∃ z : Int32, z = tU + ng := ⟨_, rfl⟩
          replace hw := hw u_28 eu_28
          have hP : va_P G.1 vwC [(h, .inr (1, [.ref m0, .ref aml, .ref amb, .ref t0, .ref atl, .ref att, .ref ate, .ref b0, .ref asb, .ref r0, .ref asr, .int trp])), (t0, .inr (0, [.int 200, .ref t1, .ref t2, .ref t3, .int tC, .int (tU + ng)])), (t1, .inl (G.2.1 0, 6, .inl (ly_shift tS k.toNatClampNeg tC.toNatClampNeg ng))), (t2, .inl (G.2.1 0, 6, .inl (upd tL k.toNatClampNeg (tL k.toNatClampNeg + ng)))), (t3, .inl (G.2.1 2, 6, .inl tD)), (atl, .inl (G.2.1 0, 6, .inl ftl)), (ate, .inl (G.2.1 0, 200, .inl u_22))] H := hP
          have hD : va_D A [(h, .inr (1, [.ref m0, .ref aml, .ref amb, .ref t0, .ref atl, .ref att, .ref ate, .ref b0, .ref asb, .ref r0, .ref asr, .int trp])), (t0, .inr (0, [.int 200, .ref t1, .ref t2, .ref t3, .int tC, .int (tU + ng)])), (t1, .inl (G.2.1 0, 6, .inl (ly_shift tS k.toNatClampNeg tC.toNatClampNeg ng))), (t2, .inl (G.2.1 0, 6, .inl (upd tL k.toNatClampNeg (tL k.toNatClampNeg + ng)))), (t3, .inl (G.2.1 2, 6, .inl tD)), (atl, .inl (G.2.1 0, 6, .inl ftl)), (ate, .inl (G.2.1 0, 200, .inl u_22))] := hD
          have hP : va_P G.1 vwC [(h, .inr (1, [.ref m0, .ref aml, .ref amb, .ref t0, .ref atl, .ref att, .ref ate, .ref b0, .ref asb, .ref r0, .ref asr, .int trp])), (t0, .inr (0, [.int 200, .ref t1, .ref t2, .ref t3, .int tC, .int u_28])), (t1, .inl (G.2.1 0, 6, .inl u_26)), (t2, .inl (G.2.1 0, 6, .inl u_27)), (t3, .inl (G.2.1 2, 6, .inl tD)), (atl, .inl (G.2.1 0, 6, .inl ftl)), (ate, .inl (G.2.1 0, 200, .inl u_22))] H := by rw [eu_26]; rw [eu_27]; rw [eu_28]; exact hP
          have hD : va_D A [(h, .inr (1, [.ref m0, .ref aml, .ref amb, .ref t0, .ref atl, .ref att, .ref ate, .ref b0, .ref asb, .ref r0, .ref asr, .int trp])), (t0, .inr (0, [.int 200, .ref t1, .ref t2, .ref t3, .int tC, .int u_28])), (t1, .inl (G.2.1 0, 6, .inl u_26)), (t2, .inl (G.2.1 0, 6, .inl u_27)), (t3, .inl (G.2.1 2, 6, .inl tD)), (atl, .inl (G.2.1 0, 6, .inl ftl)), (ate, .inl (G.2.1 0, 200, .inl u_22))] := by rw [eu_26]; rw [eu_27]; rw [eu_28]; exact hD
          refine lv_iload hx hb d_Pm_growTable_131 (lv_at hl 2 rfl) ?_
          exact W.iret (v := x_4) hx hb hr (fun t ht hW => ⟨⟨x_4, (u_26, u_27, u_28, u_22), rfl, hw, by have h9 := hP; rw [← ht] at h9; exact h9⟩, hS.F ht⟩) hS.2.2 d_Pm_growTable_133
        · replace hw := hw.2 c_8
          refine lv_iconst (v := (-1)) hx hb d_Pm_growTable_69 (by decide) ?_
          exact W.iret (v := (-1)) hx hb hr (fun t ht hW => ⟨⟨(-1), (tS, tL, tU, fte), rfl, hw, by have h9 := hP; rw [← ht] at h9; exact h9⟩, hS.F ht⟩) hS.2.2 d_Pm_growTable_70
    · replace hw := hw.2 c_2
      refine lv_iconst (v := (-1)) hx hb d_Pm_growTable_18 (by decide) ?_
      exact W.iret (v := (-1)) hx hb hr (fun t ht hW => ⟨⟨(-1), (tS, tL, tU, fte), rfl, hw, by have h9 := hP; rw [← ht] at h9; exact h9⟩, hS.F ht⟩) hS.2.2 d_Pm_growTable_19
def wp_Pm_element (post : Int32 → ((Nat → Int32) × (Nat → Int32) × Int32 × Int32 × (Nat → Int32)) → Prop) (trp : Int32) (rC : Int32) (rU : Int32) (rS : Nat → Int32) (rL : Nat → Int32) (rD : Nat → Int32) (fsr : Nat → Int32) (rf : Int32) (mo : Int32) : Prop := ((is_ref rf = 0 → (post (-1) (rS, rL, rC, rU, fsr))) ∧ (¬ is_ref rf = 0 → ((rC.toInt ≤ 24) ∧ (((¬ ly_can rC rU 200 1 mo 24 rD = 0 → ((vp_in rU 200) ∧ ∀ a_5 : Nat → Int32, a_5 = upd fsr rU.toNatClampNeg rf → ((rC.toInt ≤ 24) ∧ ((24 < 2147483648) ∧ ((mo = 0 → vp_in rC 24 ∧ ly_full rC 24 = 0) ∧ ((¬ mo = 0 → ¬ rC ≤ 0) ∧ (∀ u_10 : Nat → Int32, u_10 = (if mo = 0 then upd rS rC.toNatClampNeg rU else rS) → (∀ u_11 : Nat → Int32, u_11 = (if mo = 0 then upd rL rC.toNatClampNeg 1 else upd rL (rC - 1).toNatClampNeg (rL (rC - 1).toNatClampNeg + 1)) → (∀ u_12 : Int32, u_12 = (if mo = 0 then rC + 1 else rC) → (∀ u_13 : Int32, u_13 = rU + 1 → (post (if mo = 0 then rC else rC - 1) (u_10, u_11, u_12, u_13, a_5)))))))))))) ∧ (ly_can rC rU 200 1 mo 24 rD = 0 → (post (-1) (rS, rL, rC, rU, fsr))))))))
set_option maxHeartbeats 4000000 in
set_option maxRecDepth 100000 in
theorem t_Pm_element (l : Launch) (G : cxT) (h : Nat) (m0 : Nat) (aml : Nat) (amb : Nat) (t0 : Nat) (atl : Nat) (att : Nat) (ate : Nat) (b0 : Nat) (asb : Nat) (r0 : Nat) (asr : Nat) (r1 : Nat) (r2 : Nat) (r3 : Nat) (trp : Int32) (rC : Int32) (rU : Int32) (rS : Nat → Int32) (rL : Nat → Int32) (rD : Nat → Int32) (fsr : Nat → Int32) (rf : Int32) (mo : Int32) (sz : Nat) (post : Int32 → ((Nat → Int32) × (Nat → Int32) × Int32 × Int32 × (Nat → Int32)) → Prop) (hw : wp_Pm_element post trp rC rU rS rL rD fsr rf mo) : Met l y_Pm_element [.code y_Pm_element b_Pm_element 3 (some .int)] ({ frames := 4, cells := 0, slots := 0, locals := 140 } : Room) (cm G [.ref h, .int rf, .int mo] [(h, .inr (1, [.ref m0, .ref aml, .ref amb, .ref t0, .ref atl, .ref att, .ref ate, .ref b0, .ref asb, .ref r0, .ref asr, .int trp])), (r0, .inr (0, [.int 200, .ref r1, .ref r2, .ref r3, .int rC, .int rU])), (r1, .inl (G.2.1 0, 24, .inl rS)), (r2, .inl (G.2.1 0, 24, .inl rL)), (r3, .inl (G.2.1 2, 24, .inl rD)), (asr, .inl (G.2.1 0, 200, .inl fsr))] sz) (va_Qi post (fun u t => va_P G.1 vwC [(h, .inr (1, [.ref m0, .ref aml, .ref amb, .ref t0, .ref atl, .ref att, .ref ate, .ref b0, .ref asb, .ref r0, .ref asr, .int trp])), (r0, .inr (0, [.int 200, .ref r1, .ref r2, .ref r3, .int u.2.2.1, .int u.2.2.2.1])), (r1, .inl (G.2.1 0, 24, .inl u.1)), (r2, .inl (G.2.1 0, 24, .inl u.2.1)), (r3, .inl (G.2.1 2, 24, .inl rD)), (asr, .inl (G.2.1 0, 200, .inl u.2.2.2.2))] t.heap) (va_A [(h, .inr (1, [.ref m0, .ref aml, .ref amb, .ref t0, .ref atl, .ref att, .ref ate, .ref b0, .ref asb, .ref r0, .ref asr, .int trp])), (r0, .inr (0, [.int 200, .ref r1, .ref r2, .ref r3, .int rC, .int rU])), (r1, .inl (G.2.1 0, 24, .inl rS)), (r2, .inl (G.2.1 0, 24, .inl rL)), (r3, .inl (G.2.1 2, 24, .inl rD)), (asr, .inl (G.2.1 0, 200, .inl fsr))] sz)) 0 0 (va_A [(h, .inr (1, [.ref m0, .ref aml, .ref amb, .ref t0, .ref atl, .ref att, .ref ate, .ref b0, .ref asb, .ref r0, .ref asr, .int trp])), (r0, .inr (0, [.int 200, .ref r1, .ref r2, .ref r3, .int rC, .int rU])), (r1, .inl (G.2.1 0, 24, .inl rS)), (r2, .inl (G.2.1 0, 24, .inl rL)), (r3, .inl (G.2.1 2, 24, .inl rD)), (asr, .inl (G.2.1 0, 200, .inl fsr))] sz) := by
  refine Met.ofW (cc := b_Pm_element) (maxL := 3) (ret := (some .int)) (by decide +kernel) rfl ?_
  intro p e s m args below meth c s₁ B hml hv
  obtain ⟨rfl, hsz, hcx, hP, hD0⟩ := hv
  have hx := B.exec
  have hb := B.bytes
  have hr := B.returns
  have hlocks := B.notSynchronized
  have hown : s.vm.findClass R_Pm = some m.cls := findClass_of_methodNamed B.named
  subst hsz
  have hD := hD0.self (sz := s.heap.size)
  generalize hAe : va_A [(h, .inr (1, [.ref m0, .ref aml, .ref amb, .ref t0, .ref atl, .ref att, .ref ate, .ref b0, .ref asb, .ref r0, .ref asr, .int trp])), (r0, .inr (0, [.int 200, .ref r1, .ref r2, .ref r3, .int rC, .int rU])), (r1, .inl (G.2.1 0, 24, .inl rS)), (r2, .inl (G.2.1 0, 24, .inl rL)), (r3, .inl (G.2.1 2, 24, .inl rD)), (asr, .inl (G.2.1 0, 200, .inl fsr))] s.heap.size = A at hD hcx ⊢
  have hA : ∀ q : Nat, s.heap.size ≤ q → A q := fun q h => by rw [← hAe]; exact Or.inr h
  have hS : va_S A s.heap s.heap [] := va_S.rf
  have hts := hcx.now.1 [.ref h, .int rf, .int mo].toArray
  have hK := hcx.now.2.1
  have hl := lv_entry ([.ref h, .int rf, .int mo]) (n := 3) (Nat.le_of_ble_eq_true rfl)
  rw [lg_entry_eq]
  generalize (lg_sl ([.ref h, .int rf, .int mo]) ++ List.replicate (3 - (lg_sl ([.ref h, .int rf, .int mo])).length) Slot.unset).toArray = ls at hl ⊢
  have hl : lv_has ls 3 [(0, .ref h), (1, .int rf), (2, .int mo)] := hl
  unfold wp_Pm_element at hw
  refine lv_iload_n hx hb d_Pm_element_0 rfl (lv_at hl 1 rfl) ?_
  have hPc := hP.sub (ws' := []) [] rfl
  refine pu_i (va_runS (As := [.int rf]) (rest := []) ⟨hx, hb, hml, hown, hts⟩ (c_Pm_isReference l G rf) (va_cwS 1 hts (gi_S ml_Pm_158 sm_Pm_isReference ini_Pm co_Pm_isReference) rfl rfl rfl (by decide +kernel) ⟨Nat.le_of_ble_eq_true rfl, Nat.le_of_ble_eq_true rfl⟩) ⟨cp_blind, cp_pre hcx hS hPc⟩ rfl rfl hl.1 rfl (lv_room (Nat.le_of_ble_eq_true rfl)) d_Pm_element_1 ⟨Nat.le_of_ble_eq_true rfl, Nat.le_of_ble_eq_true rfl⟩) hS hP (fun H locs hP hS => ?_)
  refine lv_if_eq (tgt := 19) hx hb d_Pm_element_4 (by decide) (fun c_1 => ?_) (fun c_1 => ?_)
  · replace hw := hw.1 c_1
    refine lv_iconst (v := (-1)) hx hb d_Pm_element_19 (by decide) ?_
    exact W.iret (v := (-1)) hx hb hr (fun t ht hW => ⟨⟨(-1), (rS, rL, rC, rU, fsr), rfl, hw, by have h9 := hP; rw [← ht] at h9; exact h9⟩, hS.F ht⟩) hS.2.2 d_Pm_element_20
  · replace hw := hw.2 c_1
    refine lv_aload_n hx hb d_Pm_element_7 rfl (lv_at hl 0 rfl) ?_
    refine va_get (D := G.1) (ci := 1) (v := .ref r0) (C := R_Pm) (T := T_Pm) (N := 12) hx hb hts in_Pm hown hK hP 0 rfl rfl 9 (by decide) (hts _ fl_Pm_44) (fun _ h9 => h9) rfl d_Pm_element_8 ?_
    refine lv_iconst (v := 1) hx hb d_Pm_element_11 (by decide) ?_
    refine lv_iload_n hx hb d_Pm_element_12 rfl (lv_at hl 2 rfl) ?_
    obtain ⟨h_2, hw⟩ := hw
    have hPc := hP.sub (ws' := [(r0, .inr (0, [.int 200, .ref r1, .ref r2, .ref r3, .int rC, .int rU])), (r1, .inl (G.2.1 0, 24, .inl rS)), (r2, .inl (G.2.1 0, 24, .inl rL)), (r3, .inl (G.2.1 2, 24, .inl rD))]) [1, 2, 3, 4] rfl
    refine pu_i (va_runV (As := [.int 1, .int mo]) (rest := []) ⟨hx, hb, hml, hown, hts⟩ (c_Ly_canTake l G r0 r1 r2 r3 24 200 rC rU rS rL rD 1 mo h_2) (cwV 2 hts (gi_V ml_Pm_136 im_Ly_canTake se_Ly_canTake ini_Ly co_Ly_canTake) rfl rfl rfl (by decide +kernel) ⟨Nat.le_of_ble_eq_true rfl, Nat.le_of_ble_eq_true rfl⟩) ⟨cp_blind, va_recv hK hPc (ci := 0) (q0 := 0) rfl rfl, cp_pre hcx hS hPc⟩ rfl rfl hl.1 rfl (lv_room (Nat.le_of_ble_eq_true rfl)) d_Pm_element_13 ⟨Nat.le_of_ble_eq_true rfl, Nat.le_of_ble_eq_true rfl⟩) hS hP (fun H locs hP hS => ?_)
    refine lv_if_ne (tgt := 21) hx hb d_Pm_element_16 (by decide) (fun c_3 => ?_) (fun c_3 => ?_)
    · replace hw := hw.1 c_3
      refine lv_aload_n hx hb d_Pm_element_21 rfl (lv_at hl 0 rfl) ?_
      refine va_get (D := G.1) (ci := 1) (v := .ref asr) (C := R_Pm) (T := T_Pm) (N := 12) hx hb hts in_Pm hown hK hP 0 rfl rfl 10 (by decide) (hts _ fl_Pm_47) (fun _ h9 => h9) rfl d_Pm_element_22 ?_
      refine lv_aload_n hx hb d_Pm_element_25 rfl (lv_at hl 0 rfl) ?_
      refine va_get (D := G.1) (ci := 1) (v := .ref r0) (C := R_Pm) (T := T_Pm) (N := 12) hx hb hts in_Pm hown hK hP 0 rfl rfl 9 (by decide) (hts _ fl_Pm_44) (fun _ h9 => h9) rfl d_Pm_element_26 ?_
      have hPc := hP.sub (ws' := [(r0, .inr (0, [.int 200, .ref r1, .ref r2, .ref r3, .int rC, .int rU])), (r1, .inl (G.2.1 0, 24, .inl rS)), (r2, .inl (G.2.1 0, 24, .inl rL)), (r3, .inl (G.2.1 2, 24, .inl rD))]) [1, 2, 3, 4] rfl
      refine pu_i (va_runV (As := []) (rest := [.ref asr]) ⟨hx, hb, hml, hown, hts⟩ (c_Ly_used l G r0 r1 r2 r3 24 200 rC rU rS rL rD) (cwV 0 hts (gi_V ml_Pm_81 im_Ly_used se_Ly_used ini_Ly co_Ly_used) rfl rfl rfl (by decide +kernel) ⟨Nat.le_of_ble_eq_true rfl, Nat.le_of_ble_eq_true rfl⟩) ⟨cp_blind, va_recv hK hPc (ci := 0) (q0 := 0) rfl rfl, cp_pre hcx hS hPc⟩ rfl rfl hl.1 rfl (lv_room (Nat.le_of_ble_eq_true rfl)) d_Pm_element_29 ⟨Nat.le_of_ble_eq_true rfl, Nat.le_of_ble_eq_true rfl⟩) hS hP (fun H locs hP hS => ?_)
      refine lv_iload_n hx hb d_Pm_element_32 rfl (lv_at hl 1 rfl) ?_
      obtain ⟨h_4, hw⟩ := hw
      obtain ⟨a_5, ea_5⟩ : ∃ z, z = upd fsr rU.toNatClampNeg rf := ⟨_, rfl⟩
      replace hw := hw a_5 ea_5
      refine va_iast hx hb hK hP hD hS 5 0 rfl rfl h_4 d_Pm_element_33 (fun H locs hP hD hS => ?_)
      rw [← ea_5] at hP hD
      have hP : va_P G.1 vwC [(h, .inr (1, [.ref m0, .ref aml, .ref amb, .ref t0, .ref atl, .ref att, .ref ate, .ref b0, .ref asb, .ref r0, .ref asr, .int trp])), (r0, .inr (0, [.int 200, .ref r1, .ref r2, .ref r3, .int rC, .int rU])), (r1, .inl (G.2.1 0, 24, .inl rS)), (r2, .inl (G.2.1 0, 24, .inl rL)), (r3, .inl (G.2.1 2, 24, .inl rD)), (asr, .inl (G.2.1 0, 200, .inl a_5))] H := hP
      have hD : va_D A [(h, .inr (1, [.ref m0, .ref aml, .ref amb, .ref t0, .ref atl, .ref att, .ref ate, .ref b0, .ref asb, .ref r0, .ref asr, .int trp])), (r0, .inr (0, [.int 200, .ref r1, .ref r2, .ref r3, .int rC, .int rU])), (r1, .inl (G.2.1 0, 24, .inl rS)), (r2, .inl (G.2.1 0, 24, .inl rL)), (r3, .inl (G.2.1 2, 24, .inl rD)), (asr, .inl (G.2.1 0, 200, .inl a_5))] := hD
      refine lv_aload_n hx hb d_Pm_element_34 rfl (lv_at hl 0 rfl) ?_
      refine va_get (D := G.1) (ci := 1) (v := .ref r0) (C := R_Pm) (T := T_Pm) (N := 12) hx hb hts in_Pm hown hK hP 0 rfl rfl 9 (by decide) (hts _ fl_Pm_44) (fun _ h9 => h9) rfl d_Pm_element_35 ?_
      refine lv_iconst (v := 1) hx hb d_Pm_element_38 (by decide) ?_
      refine lv_iload_n hx hb d_Pm_element_39 rfl (lv_at hl 2 rfl) ?_
      obtain ⟨h_6, hw⟩ := hw
      obtain ⟨h_7, hw⟩ := hw
      obtain ⟨h_8, hw⟩ := hw
      obtain ⟨h_9, hw⟩ := hw
      have hPc := hP.sub (ws' := [(r0, .inr (0, [.int 200, .ref r1, .ref r2, .ref r3, .int rC, .int rU])), (r1, .inl (G.2.1 0, 24, .inl rS)), (r2, .inl (G.2.1 0, 24, .inl rL)), (r3, .inl (G.2.1 2, 24, .inl rD))]) [1, 2, 3, 4] rfl
      have hDc := hD.sub (ws' := [(r0, .inr (0, [.int 200, .ref r1, .ref r2, .ref r3, .int rC, .int rU])), (r1, .inl (G.2.1 0, 24, .inl rS)), (r2, .inl (G.2.1 0, 24, .inl rL)), (r3, .inl (G.2.1 2, 24, .inl rD))]) [1, 2, 3, 4] (by decide) rfl
      have hFc := va_free (wc := [(r0, .inr (0, [.int 200, .ref r1, .ref r2, .ref r3, .int rC, .int rU])), (r1, .inl (G.2.1 0, 24, .inl rS)), (r2, .inl (G.2.1 0, 24, .inl rL)), (r3, .inl (G.2.1 2, 24, .inl rD))]) hD hS hA [1, 2, 3, 4] rfl
      refine ip_i (va_runV (As := [.int 1, .int mo]) (rest := []) ⟨hx, hb, hml, hown, hts⟩ (c_Ly_take l G r0 r1 r2 r3 24 200 rC rU rS rL rD 1 mo _ h_6 h_7 h_8 h_9) (cwV 2 hts (gi_V ml_Pm_140 im_Ly_take se_Ly_take ini_Ly co_Ly_take) rfl rfl rfl (by decide +kernel) ⟨Nat.le_of_ble_eq_true rfl, Nat.le_of_ble_eq_true rfl⟩) ⟨cm_blind, va_recv hK hPc (ci := 0) (q0 := 0) rfl rfl, cm_pre hcx hS hPc hDc hFc⟩ rfl rfl hl.1 rfl (lv_room (Nat.le_of_ble_eq_true rfl)) d_Pm_element_40 ⟨Nat.le_of_ble_eq_true rfl, Nat.le_of_ble_eq_true rfl⟩) hS hP hD hA [1, 2, 3, 4] rfl (fun _ => rfl) (fun r9 u9 H locs hp hP hD hS => ?_)
      obtain ⟨e91, e92⟩ := hp; replace e91 := e91.symm; replace e92 := e92.symm; subst e91; subst e92
      obtain ⟨u_10, eu_10⟩ : ∃ z : Nat → Int32, z = if mo = 0 then upd rS rC.toNatClampNeg rU else rS := ⟨_, rfl⟩
      replace hw := hw u_10 eu_10
      obtain ⟨u_11, eu_11⟩ : ∃ z : Nat → Int32, z = if mo = 0 then upd rL rC.toNatClampNeg 1 else upd rL (rC - 1).toNatClampNeg (rL (rC - 1).toNatClampNeg + 1) := ⟨_, rfl⟩
      replace hw := hw u_11 eu_11
      obtain ⟨u_12, eu_12⟩ : ∃ z : Int32, z = if mo = 0 then rC + 1 else rC := ⟨_, rfl⟩
      replace hw := hw u_12 eu_12
      obtain ⟨u_13, eu_13⟩ : ∃ z : Int32, z = rU + 1 := ⟨_, rfl⟩
      replace hw := hw u_13 eu_13
      have hP : va_P G.1 vwC [(h, .inr (1, [.ref m0, .ref aml, .ref amb, .ref t0, .ref atl, .ref att, .ref ate, .ref b0, .ref asb, .ref r0, .ref asr, .int trp])), (r0, .inr (0, [.int 200, .ref r1, .ref r2, .ref r3, .int (if mo = 0 then rC + 1 else rC), .int (rU + 1)])), (r1, .inl (G.2.1 0, 24, .inl (if mo = 0 then upd rS rC.toNatClampNeg rU else rS))), (r2, .inl (G.2.1 0, 24, .inl (if mo = 0 then upd rL rC.toNatClampNeg 1 else upd rL (rC - 1).toNatClampNeg (rL (rC - 1).toNatClampNeg + 1)))), (r3, .inl (G.2.1 2, 24, .inl rD)), (asr, .inl (G.2.1 0, 200, .inl a_5))] H := hP
      have hD : va_D A [(h, .inr (1, [.ref m0, .ref aml, .ref amb, .ref t0, .ref atl, .ref att, .ref ate, .ref b0, .ref asb, .ref r0, .ref asr, .int trp])), (r0, .inr (0, [.int 200, .ref r1, .ref r2, .ref r3, .int (if mo = 0 then rC + 1 else rC), .int (rU + 1)])), (r1, .inl (G.2.1 0, 24, .inl (if mo = 0 then upd rS rC.toNatClampNeg rU else rS))), (r2, .inl (G.2.1 0, 24, .inl (if mo = 0 then upd rL rC.toNatClampNeg 1 else upd rL (rC - 1).toNatClampNeg (rL (rC - 1).toNatClampNeg + 1)))), (r3, .inl (G.2.1 2, 24, .inl rD)), (asr, .inl (G.2.1 0, 200, .inl a_5))] := hD
      have hP : va_P G.1 vwC [(h, .inr (1, [.ref m0, .ref aml, .ref amb, .ref t0, .ref atl, .ref att, .ref ate, .ref b0, .ref asb, .ref r0, .ref asr, .int trp])), (r0, .inr (0, [.int 200, .ref r1, .ref r2, .ref r3, .int u_12, .int u_13])), (r1, .inl (G.2.1 0, 24, .inl u_10)), (r2, .inl (G.2.1 0, 24, .inl u_11)), (r3, .inl (G.2.1 2, 24, .inl rD)), (asr, .inl (G.2.1 0, 200, .inl a_5))] H := by rw [eu_10]; rw [eu_11]; rw [eu_12]; rw [eu_13]; exact hP
      have hD : va_D A [(h, .inr (1, [.ref m0, .ref aml, .ref amb, .ref t0, .ref atl, .ref att, .ref ate, .ref b0, .ref asb, .ref r0, .ref asr, .int trp])), (r0, .inr (0, [.int 200, .ref r1, .ref r2, .ref r3, .int u_12, .int u_13])), (r1, .inl (G.2.1 0, 24, .inl u_10)), (r2, .inl (G.2.1 0, 24, .inl u_11)), (r3, .inl (G.2.1 2, 24, .inl rD)), (asr, .inl (G.2.1 0, 200, .inl a_5))] := by rw [eu_10]; rw [eu_11]; rw [eu_12]; rw [eu_13]; exact hD
      exact W.iret (v := if mo = 0 then rC else rC - 1) hx hb hr (fun t ht hW => ⟨⟨if mo = 0 then rC else rC - 1, (u_10, u_11, u_12, u_13, a_5), rfl, hw, by have h9 := hP; rw [← ht] at h9; exact h9⟩, hS.F ht⟩) hS.2.2 d_Pm_element_43
    · replace hw := hw.2 c_3
      refine lv_iconst (v := (-1)) hx hb d_Pm_element_19 (by decide) ?_
      exact W.iret (v := (-1)) hx hb hr (fun t ht hW => ⟨⟨(-1), (rS, rL, rC, rU, fsr), rfl, hw, by have h9 := hP; rw [← ht] at h9; exact h9⟩, hS.F ht⟩) hS.2.2 d_Pm_element_20
def wp_Pm_trap (post : Int32 → Prop) (trp : Int32) : Prop := post trp
set_option maxHeartbeats 4000000 in
set_option maxRecDepth 100000 in
theorem t_Pm_trap (l : Launch) (G : cxT) (h : Nat) (m0 : Nat) (aml : Nat) (amb : Nat) (t0 : Nat) (atl : Nat) (att : Nat) (ate : Nat) (b0 : Nat) (asb : Nat) (r0 : Nat) (asr : Nat) (trp : Int32) (post : Int32 → Prop) (hw : wp_Pm_trap post trp) : Met l y_Pm_trap [.code y_Pm_trap b_Pm_trap 1 (some .int)] ({ frames := 0, cells := 0, slots := 0, locals := 0 } : Room) (cp G [.ref h] [(h, .inr (1, [.ref m0, .ref aml, .ref amb, .ref t0, .ref atl, .ref att, .ref ate, .ref b0, .ref asb, .ref r0, .ref asr, .int trp]))]) (va_Qi (fun r (_ : Unit) => post r) (fun _ _ => True) (fun _ => False)) 0 0 (fun _ => False) := by
  refine Met.ofW (cc := b_Pm_trap) (maxL := 1) (ret := (some .int)) (by decide +kernel) rfl ?_
  intro p e s m args below meth c s₁ B hml hv
  obtain ⟨rfl, hcx, hP⟩ := hv
  have hx := B.exec
  have hb := B.bytes
  have hr := B.returns
  have hlocks := B.notSynchronized
  have hown : s.vm.findClass R_Pm = some m.cls := findClass_of_methodNamed B.named
  have hS : va_S (fun _ => False) s.heap s.heap [] := va_S.rf
  have hts := hcx.now.1 [.ref h].toArray
  have hK := hcx.now.2.1
  have hl := lv_entry ([.ref h]) (n := 1) (Nat.le_of_ble_eq_true rfl)
  rw [lg_entry_eq]
  generalize (lg_sl ([.ref h]) ++ List.replicate (1 - (lg_sl ([.ref h])).length) Slot.unset).toArray = ls at hl ⊢
  have hl : lv_has ls 1 [(0, .ref h)] := hl
  unfold wp_Pm_trap at hw
  refine lv_aload_n hx hb d_Pm_trap_0 rfl (lv_at hl 0 rfl) ?_
  refine va_get (D := G.1) (ci := 1) (v := .int trp) (C := R_Pm) (T := T_Pm) (N := 12) hx hb hts in_Pm hown hK hP 0 rfl rfl 11 (by decide) (hts _ fl_Pm_50) (fun _ h9 => h9) rfl d_Pm_trap_1 ?_
  exact W.iret (v := trp) hx hb hr (fun t ht hW => ⟨⟨trp, (), rfl, hw, trivial⟩, hS.F ht⟩) hS.2.2 d_Pm_trap_4
end
section
def wp_Pm_load_73 (post : Int64 → Int32 → Prop) (postx : String → Int32 → Prop) (op : Int32) (wd : Int32) (pl : Int32) (trp : Int32) (mC : Int32) (mU : Int32) (mS : Nat → Int32) (mL : Nat → Int32) (mD : Nat → Int32) (fmb : Nat → Int32) : Nat → Int64 → Int32 → Prop
  | 0 => fun _ _ => False
  | n9 + 1 => fun acc x9 => ((wd ≤ x9 → (post (ext_of op acc) trp)) ∧ (¬ wd ≤ x9 → ((vp_in (pl + x9) 12288) ∧ (∀ x_103 : Int64, x_103 = acc ||| ((((fmb (pl + x9).toNatClampNeg).toInt64) &&& 255) <<< ((8 * x9).toInt64 &&& 63)) → (∀ x_104 : Int32, x_104 = x9 + 1 → (wp_Pm_load_73 post postx op wd pl trp mC mU mS mL mD fmb n9 x_103 x_104))))))
set_option maxHeartbeats 4000000 in
set_option maxRecDepth 100000 in
theorem l_Pm_load_73 {p : Program} {l : Launch} {e : Env} {s : State} {m : MethodId} {args : Array Value} {below : List Frame} {meth : Method} {c : Code} (G : cxT) (h : Nat) (m0 : Nat) (aml : Nat) (amb : Nat) (t0 : Nat) (atl : Nat) (att : Nat) (ate : Nat) (b0 : Nat) (asb : Nat) (r0 : Nat) (asr : Nat) (m1 : Nat) (m2 : Nat) (m3 : Nat) (A : Nat → Prop) (post : Int64 → Int32 → Prop) (postx : String → Int32 → Prop) (op : Int32) (wd : Int32) (pl : Int32) (trp : Int32) (mC : Int32) (mU : Int32) (mS : Nat → Int32) (mL : Nat → Int32) (mD : Nat → Int32) (fmb : Nat → Int32) (hx : p.tables.exec = Jvm.exec) (hb : c.code = b_Pm_load) (hr : meth.sig.returnType = (some .long)) (hml : c.maxLocals = 10) (hown : s.vm.findClass R_Pm = some m.cls) (hlocks : meth.locks = false) (hcx : cx G A s) (hA : ∀ q : Nat, s.heap.size ≤ q → A q) (hst : l.stackTraces = false) (hnt : ∀ (pc : Nat), ∀ x ∈ c.exceptionTable.toList, covers x pc = false) :
    ∀ (n9 : Nat) (acc : Int64) (x9 : Int32), wp_Pm_load_73 post postx op wd pl trp mC mU mS mL mD fmb n9 acc x9 → ∀ (H : Heap) (locs : List Loc), va_P G.1 vwC [(h, .inr (1, [.ref m0, .ref aml, .ref amb, .ref t0, .ref atl, .ref att, .ref ate, .ref b0, .ref asb, .ref r0, .ref asr, .int trp])), (m0, .inr (0, [.int 12288, .ref m1, .ref m2, .ref m3, .int mC, .int mU])), (m1, .inl (G.2.1 0, 6, .inl mS)), (m2, .inl (G.2.1 0, 6, .inl mL)), (m3, .inl (G.2.1 2, 6, .inl mD)), (amb, .inl (G.2.1 1, 12288, .inl fmb))] H → va_D A [(h, .inr (1, [.ref m0, .ref aml, .ref amb, .ref t0, .ref atl, .ref att, .ref ate, .ref b0, .ref asb, .ref r0, .ref asr, .int trp])), (m0, .inr (0, [.int 12288, .ref m1, .ref m2, .ref m3, .int mC, .int mU])), (m1, .inl (G.2.1 0, 6, .inl mS)), (m2, .inl (G.2.1 0, 6, .inl mL)), (m3, .inl (G.2.1 2, 6, .inl mD)), (amb, .inl (G.2.1 1, 12288, .inl fmb))] → va_S A s.heap H locs → ∀ (ls : Array Slot), lv_has ls 10 [(0, .ref h), (2, .int op), (5, .int wd), (6, .int pl), (7, .long acc), (9, .int x9)] → W p l e (headSpec [.code y_Pm_load b_Pm_load 10 (some .long)] ({ frames := 8, cells := 1, slots := 6, locals := 140 } : Room)).room s m args below meth c H locs 1 6 (tr_MQ below (va_Ql post (fun u t => va_P G.1 vwC [(h, .inr (1, [.ref m0, .ref aml, .ref amb, .ref t0, .ref atl, .ref att, .ref ate, .ref b0, .ref asb, .ref r0, .ref asr, .int u])), (m0, .inr (0, [.int 12288, .ref m1, .ref m2, .ref m3, .int mC, .int mU])), (m1, .inl (G.2.1 0, 6, .inl mS)), (m2, .inl (G.2.1 0, 6, .inl mL)), (m3, .inl (G.2.1 2, 6, .inl mD)), (amb, .inl (G.2.1 1, 12288, .inl fmb))] t.heap) A) (fun E t => ∃ u : Int32, postx E u ∧ va_P G.1 vwC [(h, .inr (1, [.ref m0, .ref aml, .ref amb, .ref t0, .ref atl, .ref att, .ref ate, .ref b0, .ref asb, .ref r0, .ref asr, .int u])), (m0, .inr (0, [.int 12288, .ref m1, .ref m2, .ref m3, .int mC, .int mU])), (m1, .inl (G.2.1 0, 6, .inl mS)), (m2, .inl (G.2.1 0, 6, .inl mL)), (m3, .inl (G.2.1 2, 6, .inl mD)), (amb, .inl (G.2.1 1, 12288, .inl fmb))] t.heap) A args s 1 6) (F0 m 73 ls []) := by
  have hts := hcx.now.1 args
  have hK := hcx.now.2.1
  intro n9
  induction n9 with
  | zero =>
    intro acc x9 hw
    exact hw.elim
  | succ n9 ih =>
    intro acc x9 hw H locs hP hD hS ls hl
    unfold wp_Pm_load_73 at hw
    refine lv_iload hx hb d_Pm_load_73 (lv_at hl 5 rfl) ?_
    refine lv_iload hx hb d_Pm_load_75 (lv_at hl 2 rfl) ?_
    refine lv_icmp_ge (tgt := 112) hx hb d_Pm_load_77 (by decide) (fun c_101 => ?_) (fun c_101 => ?_)
    · replace hw := hw.1 c_101
      refine lv_iload_n hx hb d_Pm_load_112 rfl (lv_at hl 1 rfl) ?_
      refine lv_lload hx hb d_Pm_load_113 (lv_at hl 4 rfl) ?_
      have hPc := hP.sub (ws' := []) [] rfl
      refine pu_l (va_runS (As := [.int op, .long acc]) (rest := []) ⟨hx, hb, hml, hown, hts⟩ (c_Pm_extended l G op acc) (va_cwS 2 hts (gi_S ml_Pm_119 sm_Pm_extended ini_Pm co_Pm_extended) rfl rfl rfl (by decide +kernel) ⟨Nat.le_of_ble_eq_true rfl, Nat.le_of_ble_eq_true rfl⟩) ⟨cp_blind, cp_pre hcx hS hPc⟩ rfl rfl hl.1 rfl (lv_room (Nat.le_of_ble_eq_true rfl)) d_Pm_load_115 ⟨Nat.le_of_ble_eq_true rfl, Nat.le_of_ble_eq_true rfl⟩) hS hP (fun H locs hP hS => ?_)
      exact tr_ret (W.lret (v := ext_of op acc) hx hb hr (fun t ht hW => ⟨⟨ext_of op acc, trp, rfl, hw, by have h9 := hP; rw [← ht] at h9; exact h9⟩, hS.F ht⟩) hS.2.2 d_Pm_load_118)
    · replace hw := hw.2 c_101
      refine lv_lload hx hb d_Pm_load_80 (lv_at hl 4 rfl) ?_
      refine lv_aload_n hx hb d_Pm_load_82 rfl (lv_at hl 0 rfl) ?_
      refine va_get (D := G.1) (ci := 1) (v := .ref amb) (C := R_Pm) (T := T_Pm) (N := 12) hx hb hts in_Pm hown hK hP 0 rfl rfl 2 (by decide) (hts _ fl_Pm_22) (fun _ h9 => h9) rfl d_Pm_load_83 ?_
      refine lv_iload hx hb d_Pm_load_86 (lv_at hl 3 rfl) ?_
      refine lv_iload hx hb d_Pm_load_88 (lv_at hl 5 rfl) ?_
      refine lv_iadd hx hb d_Pm_load_90 ?_
      obtain ⟨h_102, hw⟩ := hw
      refine va_bald hx hb hK hP 5 1 rfl rfl h_102 d_Pm_load_91 ?_
      refine lv_i2l (v := (fmb (pl + x9).toNatClampNeg).toInt64) hx hb d_Pm_load_92 rfl ?_
      refine lv_ldc2 (v := 255) hx hb hown (hts _ k_Pm_117) d_Pm_load_93 ?_
      refine lv_land hx hb d_Pm_load_96 ?_
      refine lv_bipush (v := 8) hx hb d_Pm_load_97 (by decide) ?_
      refine lv_iload hx hb d_Pm_load_99 (lv_at hl 5 rfl) ?_
      refine lv_imul hx hb d_Pm_load_101 ?_
      refine lv_lshl (v := (((fmb (pl + x9).toNatClampNeg).toInt64) &&& 255) <<< ((8 * x9).toInt64 &&& 63)) hx hb d_Pm_load_102 rfl ?_
      refine lv_lor hx hb d_Pm_load_103 ?_
      refine lv_topl (fun x_103 ex_103 => ?_)
      replace hw := hw x_103 ex_103
      refine lv_lstore (lv' := [(7, .long x_103), (0, .ref h), (2, .int op), (5, .int wd), (6, .int pl), (9, .int x9)]) hx hb d_Pm_load_104 hl (by decide) rfl (fun ls hl => ?_)
      obtain ⟨x_104, ex_104⟩ : ∃ y : Int32, y = x9 + 1 := ⟨_, rfl⟩
      replace hw := hw x_104 ex_104
      refine lv_iinc (v := x_104) (lv' := [(9, .int x_104), (7, .long x_103), (0, .ref h), (2, .int op), (5, .int wd), (6, .int pl)]) hx hb d_Pm_load_106 hl (k := 5) rfl (by rw [ex_104]; rfl) (by decide) rfl (fun ls hl => ?_)
      refine lv_goto (tgt := 73) hx hb d_Pm_load_109 (by decide) ?_
      exact ih x_103 x_104 hw _ _ hP hD hS ls (lv_sub hl [2, 3, 4, 5, 1, 0] rfl)
def wp_Pm_load (post : Int64 → Int32 → Prop) (postx : String → Int32 → Prop) (trp : Int32) (mC : Int32) (mU : Int32) (mS : Nat → Int32) (mL : Nat → Int32) (mD : Nat → Int32) (fmb : Nat → Int32) (k : Int32) (op : Int32) (ad : Int32) (off : Int32) : Prop := (0 ≤ (40 : Int32).toInt) ∧ (∀ x_2 : Int32, x_2 = w_of op 40 14 wLoad → (((ly_has mC k = 0 → (postx E_ill 0)) ∧ (¬ ly_has mC k = 0 → (((¬ x_2 = 0 → ((mC.toInt ≤ 6) ∧ (((lg_cmp (((u32 ad) + (u32 off)) + x_2.toInt64) (ly_ln mC k mL).toInt64 ≤ 0 → (∀ x_6 : Int32, x_6 = ly_st mC k mS + ((u32 ad) + (u32 off)).toInt32 → (∃ n9 : Nat, wp_Pm_load_73 post postx op x_2 x_6 0 mC mU mS mL mD fmb n9 0 0))) ∧ (¬ lg_cmp (((u32 ad) + (u32 off)) + x_2.toInt64) (ly_ln mC k mL).toInt64 ≤ 0 → (postx E_uns 4)))))) ∧ (x_2 = 0 → (postx E_ill 0))))))))
set_option maxHeartbeats 4000000 in
set_option maxRecDepth 100000 in
theorem t_Pm_load (l : Launch) (hst : l.stackTraces = false) (G : cxT) (h : Nat) (m0 : Nat) (aml : Nat) (amb : Nat) (t0 : Nat) (atl : Nat) (att : Nat) (ate : Nat) (b0 : Nat) (asb : Nat) (r0 : Nat) (asr : Nat) (m1 : Nat) (m2 : Nat) (m3 : Nat) (trp : Int32) (mC : Int32) (mU : Int32) (mS : Nat → Int32) (mL : Nat → Int32) (mD : Nat → Int32) (fmb : Nat → Int32) (k : Int32) (op : Int32) (ad : Int32) (off : Int32) (sz : Nat) (post : Int64 → Int32 → Prop) (postx : String → Int32 → Prop) (hw : wp_Pm_load post postx trp mC mU mS mL mD fmb k op ad off) : tr_Met l y_Pm_load [.code y_Pm_load b_Pm_load 10 (some .long)] ({ frames := 8, cells := 1, slots := 6, locals := 140 } : Room) (cm G [.ref h, .int k, .int op, .int ad, .int off] [(h, .inr (1, [.ref m0, .ref aml, .ref amb, .ref t0, .ref atl, .ref att, .ref ate, .ref b0, .ref asb, .ref r0, .ref asr, .int trp])), (m0, .inr (0, [.int 12288, .ref m1, .ref m2, .ref m3, .int mC, .int mU])), (m1, .inl (G.2.1 0, 6, .inl mS)), (m2, .inl (G.2.1 0, 6, .inl mL)), (m3, .inl (G.2.1 2, 6, .inl mD)), (amb, .inl (G.2.1 1, 12288, .inl fmb))] sz) (va_Ql post (fun u t => va_P G.1 vwC [(h, .inr (1, [.ref m0, .ref aml, .ref amb, .ref t0, .ref atl, .ref att, .ref ate, .ref b0, .ref asb, .ref r0, .ref asr, .int u])), (m0, .inr (0, [.int 12288, .ref m1, .ref m2, .ref m3, .int mC, .int mU])), (m1, .inl (G.2.1 0, 6, .inl mS)), (m2, .inl (G.2.1 0, 6, .inl mL)), (m3, .inl (G.2.1 2, 6, .inl mD)), (amb, .inl (G.2.1 1, 12288, .inl fmb))] t.heap) (va_A [(h, .inr (1, [.ref m0, .ref aml, .ref amb, .ref t0, .ref atl, .ref att, .ref ate, .ref b0, .ref asb, .ref r0, .ref asr, .int trp])), (m0, .inr (0, [.int 12288, .ref m1, .ref m2, .ref m3, .int mC, .int mU])), (m1, .inl (G.2.1 0, 6, .inl mS)), (m2, .inl (G.2.1 0, 6, .inl mL)), (m3, .inl (G.2.1 2, 6, .inl mD)), (amb, .inl (G.2.1 1, 12288, .inl fmb))] sz)) (fun E t => ∃ u : Int32, postx E u ∧ va_P G.1 vwC [(h, .inr (1, [.ref m0, .ref aml, .ref amb, .ref t0, .ref atl, .ref att, .ref ate, .ref b0, .ref asb, .ref r0, .ref asr, .int u])), (m0, .inr (0, [.int 12288, .ref m1, .ref m2, .ref m3, .int mC, .int mU])), (m1, .inl (G.2.1 0, 6, .inl mS)), (m2, .inl (G.2.1 0, 6, .inl mL)), (m3, .inl (G.2.1 2, 6, .inl mD)), (amb, .inl (G.2.1 1, 12288, .inl fmb))] t.heap) (va_A [(h, .inr (1, [.ref m0, .ref aml, .ref amb, .ref t0, .ref atl, .ref att, .ref ate, .ref b0, .ref asb, .ref r0, .ref asr, .int trp])), (m0, .inr (0, [.int 12288, .ref m1, .ref m2, .ref m3, .int mC, .int mU])), (m1, .inl (G.2.1 0, 6, .inl mS)), (m2, .inl (G.2.1 0, 6, .inl mL)), (m3, .inl (G.2.1 2, 6, .inl mD)), (amb, .inl (G.2.1 1, 12288, .inl fmb))] sz) 1 6 := by
  refine tr_ofW (cc := b_Pm_load) (maxL := 10) (ret := (some .long)) (by decide +kernel) rfl ?_
  intro p e s m args below meth c s₁ B hml hv
  obtain ⟨rfl, hsz, hcx, hP, hD0⟩ := hv
  have hx := B.exec
  have hb := B.bytes
  have hr := B.returns
  have hlocks := B.notSynchronized
  have hown : s.vm.findClass R_Pm = some m.cls := findClass_of_methodNamed B.named
  have hnt := tr_nt (ws := [.code y_Pm_load b_Pm_load 10 (some .long)]) (rm := ({ frames := 8, cells := 1, slots := 6, locals := 140 } : Room)) B rfl
  subst hsz
  have hD := hD0.self (sz := s.heap.size)
  generalize hAe : va_A [(h, .inr (1, [.ref m0, .ref aml, .ref amb, .ref t0, .ref atl, .ref att, .ref ate, .ref b0, .ref asb, .ref r0, .ref asr, .int trp])), (m0, .inr (0, [.int 12288, .ref m1, .ref m2, .ref m3, .int mC, .int mU])), (m1, .inl (G.2.1 0, 6, .inl mS)), (m2, .inl (G.2.1 0, 6, .inl mL)), (m3, .inl (G.2.1 2, 6, .inl mD)), (amb, .inl (G.2.1 1, 12288, .inl fmb))] s.heap.size = A at hD hcx ⊢
  have hA : ∀ q : Nat, s.heap.size ≤ q → A q := fun q h => by rw [← hAe]; exact Or.inr h
  have hS : va_S A s.heap s.heap [] := va_S.rf
  have hts := hcx.now.1 [.ref h, .int k, .int op, .int ad, .int off].toArray
  have hK := hcx.now.2.1
  have hl := lv_entry ([.ref h, .int k, .int op, .int ad, .int off]) (n := 10) (Nat.le_of_ble_eq_true rfl)
  rw [lg_entry_eq]
  generalize (lg_sl ([.ref h, .int k, .int op, .int ad, .int off]) ++ List.replicate (10 - (lg_sl ([.ref h, .int k, .int op, .int ad, .int off])).length) Slot.unset).toArray = ls at hl ⊢
  have hl : lv_has ls 10 [(0, .ref h), (1, .int k), (2, .int op), (3, .int ad), (4, .int off)] := hl
  unfold wp_Pm_load at hw
  refine lv_aload_n hx hb d_Pm_load_0 rfl (lv_at hl 0 rfl) ?_
  refine lv_iconst (v := 0) hx hb d_Pm_load_1 (by decide) ?_
  refine va_put (D := G.1) (ci := 1) (v := .int 0) (ty := (.int)) (C := R_Pm) (T := T_Pm) (N := 12) hx hb hts in_Pm ty_Pm tk_Pm nm_Pm hown hK hP hD hS 0 rfl rfl 11 (by decide) (hts _ fl_Pm_50) (fun _ h9 => h9) rfl (by decide +kernel) rfl rfl (Nat.le_of_ble_eq_true rfl) d_Pm_load_2 (fun H locs hP hD hS => ?_)
  have hP : va_P G.1 vwC [(h, .inr (1, [.ref m0, .ref aml, .ref amb, .ref t0, .ref atl, .ref att, .ref ate, .ref b0, .ref asb, .ref r0, .ref asr, .int 0])), (m0, .inr (0, [.int 12288, .ref m1, .ref m2, .ref m3, .int mC, .int mU])), (m1, .inl (G.2.1 0, 6, .inl mS)), (m2, .inl (G.2.1 0, 6, .inl mL)), (m3, .inl (G.2.1 2, 6, .inl mD)), (amb, .inl (G.2.1 1, 12288, .inl fmb))] H := hP
  have hD : va_D A [(h, .inr (1, [.ref m0, .ref aml, .ref amb, .ref t0, .ref atl, .ref att, .ref ate, .ref b0, .ref asb, .ref r0, .ref asr, .int 0])), (m0, .inr (0, [.int 12288, .ref m1, .ref m2, .ref m3, .int mC, .int mU])), (m1, .inl (G.2.1 0, 6, .inl mS)), (m2, .inl (G.2.1 0, 6, .inl mL)), (m3, .inl (G.2.1 2, 6, .inl mD)), (amb, .inl (G.2.1 1, 12288, .inl fmb))] := hD
  refine lv_iload_n hx hb d_Pm_load_5 rfl (lv_at hl 2 rfl) ?_
  refine lv_bipush (v := 40) hx hb d_Pm_load_6 (by decide) ?_
  refine va_gets (v := .ref (G.2.2 0)) hx hb hcx.now.2.2.2.2.1.1 hS hown (hts _ fl_Pm_99) (fun _ h9 => h9) d_Pm_load_8 ?_
  obtain ⟨h_1, hw⟩ := hw
  have hPc := hP.sub (ws' := []) [] rfl
  refine pu_i (va_runS (As := [.int op, .int 40, .ref (G.2.2 0)]) (rest := []) ⟨hx, hb, hml, hown, hts⟩ (c_Pm_widthOf_0 l G op 40 h_1) (va_cwS 3 hts (gi_S ml_Pm_102 sm_Pm_widthOf ini_Pm co_Pm_widthOf) rfl rfl rfl (by decide +kernel) ⟨Nat.le_of_ble_eq_true rfl, Nat.le_of_ble_eq_true rfl⟩) ⟨cp_blind, cp_pre hcx hS hPc⟩ rfl rfl hl.1 rfl (lv_room (Nat.le_of_ble_eq_true rfl)) d_Pm_load_11 ⟨Nat.le_of_ble_eq_true rfl, Nat.le_of_ble_eq_true rfl⟩) hS hP (fun H locs hP hS => ?_)
  refine lv_topi (fun x_2 ex_2 => ?_)
  replace hw := hw x_2 ex_2
  refine lv_istore (lv' := [(5, .int x_2), (0, .ref h), (1, .int k), (2, .int op), (3, .int ad), (4, .int off)]) hx hb d_Pm_load_14 hl (by decide) rfl (fun ls hl => ?_)
  refine lv_aload_n hx hb d_Pm_load_16 rfl (lv_at hl 1 rfl) ?_
  refine va_get (D := G.1) (ci := 1) (v := .ref m0) (C := R_Pm) (T := T_Pm) (N := 12) hx hb hts in_Pm hown hK hP 0 rfl rfl 0 (by decide) (hts _ fl_Pm_14) (fun _ h9 => h9) rfl d_Pm_load_17 ?_
  refine lv_iload_n hx hb d_Pm_load_20 rfl (lv_at hl 2 rfl) ?_
  have hPc := hP.sub (ws' := [(m0, .inr (0, [.int 12288, .ref m1, .ref m2, .ref m3, .int mC, .int mU])), (m1, .inl (G.2.1 0, 6, .inl mS)), (m2, .inl (G.2.1 0, 6, .inl mL)), (m3, .inl (G.2.1 2, 6, .inl mD))]) [1, 2, 3, 4] rfl
  refine pu_i (va_runV (As := [.int k]) (rest := []) ⟨hx, hb, hml, hown, hts⟩ (c_Ly_has l G m0 m1 m2 m3 6 12288 mC mU mS mL mD k) (cwV 1 hts (gi_V ml_Pm_67 im_Ly_has se_Ly_has ini_Ly co_Ly_has) rfl rfl rfl (by decide +kernel) ⟨Nat.le_of_ble_eq_true rfl, Nat.le_of_ble_eq_true rfl⟩) ⟨cp_blind, va_recv hK hPc (ci := 0) (q0 := 0) rfl rfl, cp_pre hcx hS hPc⟩ rfl rfl hl.1 rfl (lv_room (Nat.le_of_ble_eq_true rfl)) d_Pm_load_21 ⟨Nat.le_of_ble_eq_true rfl, Nat.le_of_ble_eq_true rfl⟩) hS hP (fun H locs hP hS => ?_)
  refine lv_if_eq (tgt := 32) hx hb d_Pm_load_24 (by decide) (fun c_3 => ?_) (fun c_3 => ?_)
  · replace hw := hw.1 c_3
    exact tr_throw hx hb hst hown (by decide +kernel) (by decide +kernel) (hcx.imp (fun V h => tw_ill_108 V h)) hS (hl.1.trans hml.symm) d_Pm_load_32 d_Pm_load_35 d_Pm_load_36 d_Pm_load_38 d_Pm_load_41 (hnt _) (Nat.le_of_ble_eq_true rfl) (Nat.le_of_ble_eq_true rfl) (Nat.le_of_ble_eq_true rfl) (Nat.le_of_ble_eq_true rfl) hlocks (fun t h1 h2 => ⟨0, hw, hP.kept fun k q hq => h2 q.1 (hP k q hq).lt⟩) hA (Nat.le_of_ble_eq_true rfl) (Nat.le_of_ble_eq_true rfl)
  · replace hw := hw.2 c_3
    refine lv_iload hx hb d_Pm_load_27 (lv_at hl 0 rfl) ?_
    refine lv_if_ne (tgt := 42) hx hb d_Pm_load_29 (by decide) (fun c_4 => ?_) (fun c_4 => ?_)
    · replace hw := hw.1 c_4
      refine lv_aload_n hx hb d_Pm_load_42 rfl (lv_at hl 1 rfl) ?_
      refine lv_aload_n hx hb d_Pm_load_43 rfl (lv_at hl 1 rfl) ?_
      refine va_get (D := G.1) (ci := 1) (v := .ref m0) (C := R_Pm) (T := T_Pm) (N := 12) hx hb hts in_Pm hown hK hP 0 rfl rfl 0 (by decide) (hts _ fl_Pm_14) (fun _ h9 => h9) rfl d_Pm_load_44 ?_
      refine lv_iload_n hx hb d_Pm_load_47 rfl (lv_at hl 2 rfl) ?_
      refine lv_iload_n hx hb d_Pm_load_48 rfl (lv_at hl 4 rfl) ?_
      have hPc := hP.sub (ws' := []) [] rfl
      refine pu_l (va_runS (As := [.int ad]) (rest := [.int k, .ref m0, .ref h]) ⟨hx, hb, hml, hown, hts⟩ (c_Pm_unsigned l G ad) (va_cwS 1 hts (gi_S ml_Pm_74 sm_Pm_unsigned ini_Pm co_Pm_unsigned) rfl rfl rfl (by decide +kernel) ⟨Nat.le_of_ble_eq_true rfl, Nat.le_of_ble_eq_true rfl⟩) ⟨cp_blind, cp_pre hcx hS hPc⟩ rfl rfl hl.1 rfl (lv_room (Nat.le_of_ble_eq_true rfl)) d_Pm_load_49 ⟨Nat.le_of_ble_eq_true rfl, Nat.le_of_ble_eq_true rfl⟩) hS hP (fun H locs hP hS => ?_)
      refine lv_iload hx hb d_Pm_load_52 (lv_at hl 5 rfl) ?_
      have hPc := hP.sub (ws' := []) [] rfl
      refine pu_l (va_runS (As := [.int off]) (rest := [.long (u32 ad), .int k, .ref m0, .ref h]) ⟨hx, hb, hml, hown, hts⟩ (c_Pm_unsigned l G off) (va_cwS 1 hts (gi_S ml_Pm_74 sm_Pm_unsigned ini_Pm co_Pm_unsigned) rfl rfl rfl (by decide +kernel) ⟨Nat.le_of_ble_eq_true rfl, Nat.le_of_ble_eq_true rfl⟩) ⟨cp_blind, cp_pre hcx hS hPc⟩ rfl rfl hl.1 rfl (lv_room (Nat.le_of_ble_eq_true rfl)) d_Pm_load_54 ⟨Nat.le_of_ble_eq_true rfl, Nat.le_of_ble_eq_true rfl⟩) hS hP (fun H locs hP hS => ?_)
      refine lv_ladd hx hb d_Pm_load_57 ?_
      refine lv_iload hx hb d_Pm_load_58 (lv_at hl 0 rfl) ?_
      refine lv_i2l (v := x_2.toInt64) hx hb d_Pm_load_60 rfl ?_
      refine lv_iconst (v := 4) hx hb d_Pm_load_61 (by decide) ?_
      obtain ⟨h_5, hw⟩ := hw
      have hPc := hP.sub (ws' := [(h, .inr (1, [.ref m0, .ref aml, .ref amb, .ref t0, .ref atl, .ref att, .ref ate, .ref b0, .ref asb, .ref r0, .ref asr, .int 0])), (m0, .inr (0, [.int 12288, .ref m1, .ref m2, .ref m3, .int mC, .int mU])), (m1, .inl (G.2.1 0, 6, .inl mS)), (m2, .inl (G.2.1 0, 6, .inl mL)), (m3, .inl (G.2.1 2, 6, .inl mD))]) [0, 1, 2, 3, 4] rfl
      have hDc := hD.sub (ws' := [(h, .inr (1, [.ref m0, .ref aml, .ref amb, .ref t0, .ref atl, .ref att, .ref ate, .ref b0, .ref asb, .ref r0, .ref asr, .int 0])), (m0, .inr (0, [.int 12288, .ref m1, .ref m2, .ref m3, .int mC, .int mU])), (m1, .inl (G.2.1 0, 6, .inl mS)), (m2, .inl (G.2.1 0, 6, .inl mL)), (m3, .inl (G.2.1 2, 6, .inl mD))]) [0, 1, 2, 3, 4] (by decide) rfl
      have hFc := va_free (wc := [(h, .inr (1, [.ref m0, .ref aml, .ref amb, .ref t0, .ref atl, .ref att, .ref ate, .ref b0, .ref asb, .ref r0, .ref asr, .int 0])), (m0, .inr (0, [.int 12288, .ref m1, .ref m2, .ref m3, .int mC, .int mU])), (m1, .inl (G.2.1 0, 6, .inl mS)), (m2, .inl (G.2.1 0, 6, .inl mL)), (m3, .inl (G.2.1 2, 6, .inl mD))]) hD hS hA [0, 1, 2, 3, 4] rfl
      refine tx_i (tr_runV (As := [.ref m0, .int k, .long ((u32 ad) + (u32 off)), .long x_2.toInt64, .int 4]) (rest := []) ⟨hx, hb, hml, hown, hts⟩ (c_Pm_placeOf l hst G h m0 aml amb t0 atl att ate b0 asb r0 asr m0 m1 m2 m3 6 0 12288 mC mU mS mL mD k ((u32 ad) + (u32 off)) x_2.toInt64 4 _ h_5) (cwV 5 hts (gi_V ml_Pm_113 im_Pm_placeOf se_Pm_placeOf ini_Pm co_Pm_placeOf) rfl rfl rfl (by decide +kernel) ⟨Nat.le_of_ble_eq_true rfl, Nat.le_of_ble_eq_true rfl⟩) ⟨cm_blind, va_recv hK hPc (ci := 1) (q0 := 0) rfl rfl, cm_pre hcx hS hPc hDc hFc⟩ rfl rfl hl.1 rfl (lv_room (Nat.le_of_ble_eq_true rfl)) d_Pm_load_62 ⟨Nat.le_of_ble_eq_true rfl, Nat.le_of_ble_eq_true rfl⟩) hS hP hD hA [0, 1, 2, 3, 4] rfl (fun _ => rfl) (fun _ => rfl) (fun E9 u9 hp q9 ce9 H locs hP hD hS h91 h92 h93 => ?_) (fun r9 u9 H locs hp hP hD hS => ?_)
      · obtain ⟨hN, rfl, rfl⟩ := hp
        exact tr_pass (hnt _) hlocks h91 h92 h93 (fun t ht => ⟨4, hw.2 hN, by have h9 := hP; rw [← ht] at h9; exact h9⟩) hS (Nat.le_of_ble_eq_true rfl) (Nat.le_of_ble_eq_true rfl)
      · obtain ⟨hN, e91, e92⟩ := hp; replace e91 := e91.symm; replace e92 := e92.symm; subst e91; subst e92
        replace hw := hw.1 hN
        have hP : va_P G.1 vwC [(h, .inr (1, [.ref m0, .ref aml, .ref amb, .ref t0, .ref atl, .ref att, .ref ate, .ref b0, .ref asb, .ref r0, .ref asr, .int 0])), (m0, .inr (0, [.int 12288, .ref m1, .ref m2, .ref m3, .int mC, .int mU])), (m1, .inl (G.2.1 0, 6, .inl mS)), (m2, .inl (G.2.1 0, 6, .inl mL)), (m3, .inl (G.2.1 2, 6, .inl mD)), (amb, .inl (G.2.1 1, 12288, .inl fmb))] H := hP
        have hD : va_D A [(h, .inr (1, [.ref m0, .ref aml, .ref amb, .ref t0, .ref atl, .ref att, .ref ate, .ref b0, .ref asb, .ref r0, .ref asr, .int 0])), (m0, .inr (0, [.int 12288, .ref m1, .ref m2, .ref m3, .int mC, .int mU])), (m1, .inl (G.2.1 0, 6, .inl mS)), (m2, .inl (G.2.1 0, 6, .inl mL)), (m3, .inl (G.2.1 2, 6, .inl mD)), (amb, .inl (G.2.1 1, 12288, .inl fmb))] := hD
        refine lv_topi (fun x_6 ex_6 => ?_)
        replace hw := hw x_6 ex_6
        refine lv_istore (lv' := [(6, .int x_6), (5, .int x_2), (0, .ref h), (1, .int k), (2, .int op), (3, .int ad), (4, .int off)]) hx hb d_Pm_load_65 hl (by decide) rfl (fun ls hl => ?_)
        refine lv_lconst (v := 0) hx hb d_Pm_load_67 (by decide) ?_
        refine lv_lstore (lv' := [(7, .long 0), (6, .int x_6), (5, .int x_2), (0, .ref h), (1, .int k), (2, .int op), (3, .int ad), (4, .int off)]) hx hb d_Pm_load_68 hl (by decide) rfl (fun ls hl => ?_)
        refine lv_iconst (v := 0) hx hb d_Pm_load_70 (by decide) ?_
        refine lv_istore (lv' := [(9, .int 0), (7, .long 0), (6, .int x_6), (5, .int x_2), (0, .ref h), (1, .int k), (2, .int op), (3, .int ad), (4, .int off)]) hx hb d_Pm_load_71 hl (by decide) rfl (fun ls hl => ?_)
        obtain ⟨n9, hw⟩ := hw
        exact l_Pm_load_73 G h m0 aml amb t0 atl att ate b0 asb r0 asr m1 m2 m3 A post postx op x_2 x_6 0 mC mU mS mL mD fmb hx hb hr hml hown hlocks hcx hA hst hnt n9 0 0 hw _ _ hP hD hS ls (lv_sub hl [4, 6, 3, 2, 1, 0] rfl)
    · replace hw := hw.2 c_4
      exact tr_throw hx hb hst hown (by decide +kernel) (by decide +kernel) (hcx.imp (fun V h => tw_ill_108 V h)) hS (hl.1.trans hml.symm) d_Pm_load_32 d_Pm_load_35 d_Pm_load_36 d_Pm_load_38 d_Pm_load_41 (hnt _) (Nat.le_of_ble_eq_true rfl) (Nat.le_of_ble_eq_true rfl) (Nat.le_of_ble_eq_true rfl) (Nat.le_of_ble_eq_true rfl) hlocks (fun t h1 h2 => ⟨0, hw, hP.kept fun k q hq => h2 q.1 (hP k q hq).lt⟩) hA (Nat.le_of_ble_eq_true rfl) (Nat.le_of_ble_eq_true rfl)
def wp_Pm_store (post : (Int32 × (Nat → Int32)) → Prop) (postx : String → (Int32 × (Nat → Int32)) → Prop) (trp : Int32) (mC : Int32) (mU : Int32) (mS : Nat → Int32) (mL : Nat → Int32) (mD : Nat → Int32) (fmb : Nat → Int32) (k : Int32) (op : Int32) (ad : Int32) (off : Int32) (vl : Int64) : Prop := (0 ≤ (54 : Int32).toInt) ∧ (∀ x_2 : Int32, x_2 = w_of op 54 9 wStore → (((ly_has mC k = 0 → (postx E_ill (0, fmb))) ∧ (¬ ly_has mC k = 0 → (((¬ x_2 = 0 → ((mC.toInt ≤ 6) ∧ (((lg_cmp (((u32 ad) + (u32 off)) + x_2.toInt64) (ly_ln mC k mL).toInt64 ≤ 0 → (∀ x_6 : Int32, x_6 = ly_st mC k mS + ((u32 ad) + (u32 off)).toInt32 → ((¬ x_6 < 0) ∧ ((¬ x_2 < 0) ∧ ((x_6.toNatClampNeg + x_2.toNatClampNeg ≤ 12288) ∧ ((12288 < 2147483648) ∧ (∀ u_11 : Nat → Int32, u_11 = put_b fmb x_6.toNatClampNeg x_2.toNatClampNeg vl → (post (0, u_11))))))))) ∧ (¬ lg_cmp (((u32 ad) + (u32 off)) + x_2.toInt64) (ly_ln mC k mL).toInt64 ≤ 0 → (postx E_uns (4, fmb))))))) ∧ (x_2 = 0 → (postx E_ill (0, fmb)))))))))
set_option maxHeartbeats 4000000 in
set_option maxRecDepth 100000 in
theorem t_Pm_store (l : Launch) (hst : l.stackTraces = false) (G : cxT) (h : Nat) (m0 : Nat) (aml : Nat) (amb : Nat) (t0 : Nat) (atl : Nat) (att : Nat) (ate : Nat) (b0 : Nat) (asb : Nat) (r0 : Nat) (asr : Nat) (m1 : Nat) (m2 : Nat) (m3 : Nat) (trp : Int32) (mC : Int32) (mU : Int32) (mS : Nat → Int32) (mL : Nat → Int32) (mD : Nat → Int32) (fmb : Nat → Int32) (k : Int32) (op : Int32) (ad : Int32) (off : Int32) (vl : Int64) (sz : Nat) (post : (Int32 × (Nat → Int32)) → Prop) (postx : String → (Int32 × (Nat → Int32)) → Prop) (hw : wp_Pm_store post postx trp mC mU mS mL mD fmb k op ad off vl) : tr_Met l y_Pm_store [.code y_Pm_store b_Pm_store 9 none] ({ frames := 8, cells := 1, slots := 6, locals := 140 } : Room) (cm G [.ref h, .int k, .int op, .int ad, .int off, .long vl] [(h, .inr (1, [.ref m0, .ref aml, .ref amb, .ref t0, .ref atl, .ref att, .ref ate, .ref b0, .ref asb, .ref r0, .ref asr, .int trp])), (m0, .inr (0, [.int 12288, .ref m1, .ref m2, .ref m3, .int mC, .int mU])), (m1, .inl (G.2.1 0, 6, .inl mS)), (m2, .inl (G.2.1 0, 6, .inl mL)), (m3, .inl (G.2.1 2, 6, .inl mD)), (amb, .inl (G.2.1 1, 12288, .inl fmb))] sz) (va_Qv post (fun u t => va_P G.1 vwC [(h, .inr (1, [.ref m0, .ref aml, .ref amb, .ref t0, .ref atl, .ref att, .ref ate, .ref b0, .ref asb, .ref r0, .ref asr, .int u.1])), (m0, .inr (0, [.int 12288, .ref m1, .ref m2, .ref m3, .int mC, .int mU])), (m1, .inl (G.2.1 0, 6, .inl mS)), (m2, .inl (G.2.1 0, 6, .inl mL)), (m3, .inl (G.2.1 2, 6, .inl mD)), (amb, .inl (G.2.1 1, 12288, .inl u.2))] t.heap) (va_A [(h, .inr (1, [.ref m0, .ref aml, .ref amb, .ref t0, .ref atl, .ref att, .ref ate, .ref b0, .ref asb, .ref r0, .ref asr, .int trp])), (m0, .inr (0, [.int 12288, .ref m1, .ref m2, .ref m3, .int mC, .int mU])), (m1, .inl (G.2.1 0, 6, .inl mS)), (m2, .inl (G.2.1 0, 6, .inl mL)), (m3, .inl (G.2.1 2, 6, .inl mD)), (amb, .inl (G.2.1 1, 12288, .inl fmb))] sz)) (fun E t => ∃ u : Int32 × (Nat → Int32), postx E u ∧ va_P G.1 vwC [(h, .inr (1, [.ref m0, .ref aml, .ref amb, .ref t0, .ref atl, .ref att, .ref ate, .ref b0, .ref asb, .ref r0, .ref asr, .int u.1])), (m0, .inr (0, [.int 12288, .ref m1, .ref m2, .ref m3, .int mC, .int mU])), (m1, .inl (G.2.1 0, 6, .inl mS)), (m2, .inl (G.2.1 0, 6, .inl mL)), (m3, .inl (G.2.1 2, 6, .inl mD)), (amb, .inl (G.2.1 1, 12288, .inl u.2))] t.heap) (va_A [(h, .inr (1, [.ref m0, .ref aml, .ref amb, .ref t0, .ref atl, .ref att, .ref ate, .ref b0, .ref asb, .ref r0, .ref asr, .int trp])), (m0, .inr (0, [.int 12288, .ref m1, .ref m2, .ref m3, .int mC, .int mU])), (m1, .inl (G.2.1 0, 6, .inl mS)), (m2, .inl (G.2.1 0, 6, .inl mL)), (m3, .inl (G.2.1 2, 6, .inl mD)), (amb, .inl (G.2.1 1, 12288, .inl fmb))] sz) 1 6 := by
  refine tr_ofW (cc := b_Pm_store) (maxL := 9) (ret := none) (by decide +kernel) rfl ?_
  intro p e s m args below meth c s₁ B hml hv
  obtain ⟨rfl, hsz, hcx, hP, hD0⟩ := hv
  have hx := B.exec
  have hb := B.bytes
  have hr := B.returns
  have hlocks := B.notSynchronized
  have hown : s.vm.findClass R_Pm = some m.cls := findClass_of_methodNamed B.named
  have hnt := tr_nt (ws := [.code y_Pm_store b_Pm_store 9 none]) (rm := ({ frames := 8, cells := 1, slots := 6, locals := 140 } : Room)) B rfl
  subst hsz
  have hD := hD0.self (sz := s.heap.size)
  generalize hAe : va_A [(h, .inr (1, [.ref m0, .ref aml, .ref amb, .ref t0, .ref atl, .ref att, .ref ate, .ref b0, .ref asb, .ref r0, .ref asr, .int trp])), (m0, .inr (0, [.int 12288, .ref m1, .ref m2, .ref m3, .int mC, .int mU])), (m1, .inl (G.2.1 0, 6, .inl mS)), (m2, .inl (G.2.1 0, 6, .inl mL)), (m3, .inl (G.2.1 2, 6, .inl mD)), (amb, .inl (G.2.1 1, 12288, .inl fmb))] s.heap.size = A at hD hcx ⊢
  have hA : ∀ q : Nat, s.heap.size ≤ q → A q := fun q h => by rw [← hAe]; exact Or.inr h
  have hS : va_S A s.heap s.heap [] := va_S.rf
  have hts := hcx.now.1 [.ref h, .int k, .int op, .int ad, .int off, .long vl].toArray
  have hK := hcx.now.2.1
  have hl := lv_entry ([.ref h, .int k, .int op, .int ad, .int off, .long vl]) (n := 9) (Nat.le_of_ble_eq_true rfl)
  rw [lg_entry_eq]
  generalize (lg_sl ([.ref h, .int k, .int op, .int ad, .int off, .long vl]) ++ List.replicate (9 - (lg_sl ([.ref h, .int k, .int op, .int ad, .int off, .long vl])).length) Slot.unset).toArray = ls at hl ⊢
  have hl : lv_has ls 9 [(0, .ref h), (1, .int k), (2, .int op), (3, .int ad), (4, .int off), (5, .long vl)] := hl
  unfold wp_Pm_store at hw
  refine lv_aload_n hx hb d_Pm_store_0 rfl (lv_at hl 0 rfl) ?_
  refine lv_iconst (v := 0) hx hb d_Pm_store_1 (by decide) ?_
  refine va_put (D := G.1) (ci := 1) (v := .int 0) (ty := (.int)) (C := R_Pm) (T := T_Pm) (N := 12) hx hb hts in_Pm ty_Pm tk_Pm nm_Pm hown hK hP hD hS 0 rfl rfl 11 (by decide) (hts _ fl_Pm_50) (fun _ h9 => h9) rfl (by decide +kernel) rfl rfl (Nat.le_of_ble_eq_true rfl) d_Pm_store_2 (fun H locs hP hD hS => ?_)
  have hP : va_P G.1 vwC [(h, .inr (1, [.ref m0, .ref aml, .ref amb, .ref t0, .ref atl, .ref att, .ref ate, .ref b0, .ref asb, .ref r0, .ref asr, .int 0])), (m0, .inr (0, [.int 12288, .ref m1, .ref m2, .ref m3, .int mC, .int mU])), (m1, .inl (G.2.1 0, 6, .inl mS)), (m2, .inl (G.2.1 0, 6, .inl mL)), (m3, .inl (G.2.1 2, 6, .inl mD)), (amb, .inl (G.2.1 1, 12288, .inl fmb))] H := hP
  have hD : va_D A [(h, .inr (1, [.ref m0, .ref aml, .ref amb, .ref t0, .ref atl, .ref att, .ref ate, .ref b0, .ref asb, .ref r0, .ref asr, .int 0])), (m0, .inr (0, [.int 12288, .ref m1, .ref m2, .ref m3, .int mC, .int mU])), (m1, .inl (G.2.1 0, 6, .inl mS)), (m2, .inl (G.2.1 0, 6, .inl mL)), (m3, .inl (G.2.1 2, 6, .inl mD)), (amb, .inl (G.2.1 1, 12288, .inl fmb))] := hD
  refine lv_iload_n hx hb d_Pm_store_5 rfl (lv_at hl 2 rfl) ?_
  refine lv_bipush (v := 54) hx hb d_Pm_store_6 (by decide) ?_
  refine va_gets (v := .ref (G.2.2 1)) hx hb hcx.now.2.2.2.2.2.1.1 hS hown (hts _ fl_Pm_123) (fun _ h9 => h9) d_Pm_store_8 ?_
  obtain ⟨h_1, hw⟩ := hw
  have hPc := hP.sub (ws' := []) [] rfl
  refine pu_i (va_runS (As := [.int op, .int 54, .ref (G.2.2 1)]) (rest := []) ⟨hx, hb, hml, hown, hts⟩ (c_Pm_widthOf_1 l G op 54 h_1) (va_cwS 3 hts (gi_S ml_Pm_102 sm_Pm_widthOf ini_Pm co_Pm_widthOf) rfl rfl rfl (by decide +kernel) ⟨Nat.le_of_ble_eq_true rfl, Nat.le_of_ble_eq_true rfl⟩) ⟨cp_blind, cp_pre hcx hS hPc⟩ rfl rfl hl.1 rfl (lv_room (Nat.le_of_ble_eq_true rfl)) d_Pm_store_11 ⟨Nat.le_of_ble_eq_true rfl, Nat.le_of_ble_eq_true rfl⟩) hS hP (fun H locs hP hS => ?_)
  refine lv_topi (fun x_2 ex_2 => ?_)
  replace hw := hw x_2 ex_2
  refine lv_istore (lv' := [(7, .int x_2), (0, .ref h), (1, .int k), (2, .int op), (3, .int ad), (4, .int off), (5, .long vl)]) hx hb d_Pm_store_14 hl (by decide) rfl (fun ls hl => ?_)
  refine lv_aload_n hx hb d_Pm_store_16 rfl (lv_at hl 1 rfl) ?_
  refine va_get (D := G.1) (ci := 1) (v := .ref m0) (C := R_Pm) (T := T_Pm) (N := 12) hx hb hts in_Pm hown hK hP 0 rfl rfl 0 (by decide) (hts _ fl_Pm_14) (fun _ h9 => h9) rfl d_Pm_store_17 ?_
  refine lv_iload_n hx hb d_Pm_store_20 rfl (lv_at hl 2 rfl) ?_
  have hPc := hP.sub (ws' := [(m0, .inr (0, [.int 12288, .ref m1, .ref m2, .ref m3, .int mC, .int mU])), (m1, .inl (G.2.1 0, 6, .inl mS)), (m2, .inl (G.2.1 0, 6, .inl mL)), (m3, .inl (G.2.1 2, 6, .inl mD))]) [1, 2, 3, 4] rfl
  refine pu_i (va_runV (As := [.int k]) (rest := []) ⟨hx, hb, hml, hown, hts⟩ (c_Ly_has l G m0 m1 m2 m3 6 12288 mC mU mS mL mD k) (cwV 1 hts (gi_V ml_Pm_67 im_Ly_has se_Ly_has ini_Ly co_Ly_has) rfl rfl rfl (by decide +kernel) ⟨Nat.le_of_ble_eq_true rfl, Nat.le_of_ble_eq_true rfl⟩) ⟨cp_blind, va_recv hK hPc (ci := 0) (q0 := 0) rfl rfl, cp_pre hcx hS hPc⟩ rfl rfl hl.1 rfl (lv_room (Nat.le_of_ble_eq_true rfl)) d_Pm_store_21 ⟨Nat.le_of_ble_eq_true rfl, Nat.le_of_ble_eq_true rfl⟩) hS hP (fun H locs hP hS => ?_)
  refine lv_if_eq (tgt := 32) hx hb d_Pm_store_24 (by decide) (fun c_3 => ?_) (fun c_3 => ?_)
  · replace hw := hw.1 c_3
    exact tr_throw hx hb hst hown (by decide +kernel) (by decide +kernel) (hcx.imp (fun V h => tw_ill_126 V h)) hS (hl.1.trans hml.symm) d_Pm_store_32 d_Pm_store_35 d_Pm_store_36 d_Pm_store_38 d_Pm_store_41 (hnt _) (Nat.le_of_ble_eq_true rfl) (Nat.le_of_ble_eq_true rfl) (Nat.le_of_ble_eq_true rfl) (Nat.le_of_ble_eq_true rfl) hlocks (fun t h1 h2 => ⟨(0, fmb), hw, hP.kept fun k q hq => h2 q.1 (hP k q hq).lt⟩) hA (Nat.le_of_ble_eq_true rfl) (Nat.le_of_ble_eq_true rfl)
  · replace hw := hw.2 c_3
    refine lv_iload hx hb d_Pm_store_27 (lv_at hl 0 rfl) ?_
    refine lv_if_ne (tgt := 42) hx hb d_Pm_store_29 (by decide) (fun c_4 => ?_) (fun c_4 => ?_)
    · replace hw := hw.1 c_4
      refine lv_aload_n hx hb d_Pm_store_42 rfl (lv_at hl 1 rfl) ?_
      refine lv_aload_n hx hb d_Pm_store_43 rfl (lv_at hl 1 rfl) ?_
      refine va_get (D := G.1) (ci := 1) (v := .ref m0) (C := R_Pm) (T := T_Pm) (N := 12) hx hb hts in_Pm hown hK hP 0 rfl rfl 0 (by decide) (hts _ fl_Pm_14) (fun _ h9 => h9) rfl d_Pm_store_44 ?_
      refine lv_iload_n hx hb d_Pm_store_47 rfl (lv_at hl 2 rfl) ?_
      refine lv_iload_n hx hb d_Pm_store_48 rfl (lv_at hl 4 rfl) ?_
      have hPc := hP.sub (ws' := []) [] rfl
      refine pu_l (va_runS (As := [.int ad]) (rest := [.int k, .ref m0, .ref h]) ⟨hx, hb, hml, hown, hts⟩ (c_Pm_unsigned l G ad) (va_cwS 1 hts (gi_S ml_Pm_74 sm_Pm_unsigned ini_Pm co_Pm_unsigned) rfl rfl rfl (by decide +kernel) ⟨Nat.le_of_ble_eq_true rfl, Nat.le_of_ble_eq_true rfl⟩) ⟨cp_blind, cp_pre hcx hS hPc⟩ rfl rfl hl.1 rfl (lv_room (Nat.le_of_ble_eq_true rfl)) d_Pm_store_49 ⟨Nat.le_of_ble_eq_true rfl, Nat.le_of_ble_eq_true rfl⟩) hS hP (fun H locs hP hS => ?_)
      refine lv_iload hx hb d_Pm_store_52 (lv_at hl 5 rfl) ?_
      have hPc := hP.sub (ws' := []) [] rfl
      refine pu_l (va_runS (As := [.int off]) (rest := [.long (u32 ad), .int k, .ref m0, .ref h]) ⟨hx, hb, hml, hown, hts⟩ (c_Pm_unsigned l G off) (va_cwS 1 hts (gi_S ml_Pm_74 sm_Pm_unsigned ini_Pm co_Pm_unsigned) rfl rfl rfl (by decide +kernel) ⟨Nat.le_of_ble_eq_true rfl, Nat.le_of_ble_eq_true rfl⟩) ⟨cp_blind, cp_pre hcx hS hPc⟩ rfl rfl hl.1 rfl (lv_room (Nat.le_of_ble_eq_true rfl)) d_Pm_store_54 ⟨Nat.le_of_ble_eq_true rfl, Nat.le_of_ble_eq_true rfl⟩) hS hP (fun H locs hP hS => ?_)
      refine lv_ladd hx hb d_Pm_store_57 ?_
      refine lv_iload hx hb d_Pm_store_58 (lv_at hl 0 rfl) ?_
      refine lv_i2l (v := x_2.toInt64) hx hb d_Pm_store_60 rfl ?_
      refine lv_iconst (v := 4) hx hb d_Pm_store_61 (by decide) ?_
      obtain ⟨h_5, hw⟩ := hw
      have hPc := hP.sub (ws' := [(h, .inr (1, [.ref m0, .ref aml, .ref amb, .ref t0, .ref atl, .ref att, .ref ate, .ref b0, .ref asb, .ref r0, .ref asr, .int 0])), (m0, .inr (0, [.int 12288, .ref m1, .ref m2, .ref m3, .int mC, .int mU])), (m1, .inl (G.2.1 0, 6, .inl mS)), (m2, .inl (G.2.1 0, 6, .inl mL)), (m3, .inl (G.2.1 2, 6, .inl mD))]) [0, 1, 2, 3, 4] rfl
      have hDc := hD.sub (ws' := [(h, .inr (1, [.ref m0, .ref aml, .ref amb, .ref t0, .ref atl, .ref att, .ref ate, .ref b0, .ref asb, .ref r0, .ref asr, .int 0])), (m0, .inr (0, [.int 12288, .ref m1, .ref m2, .ref m3, .int mC, .int mU])), (m1, .inl (G.2.1 0, 6, .inl mS)), (m2, .inl (G.2.1 0, 6, .inl mL)), (m3, .inl (G.2.1 2, 6, .inl mD))]) [0, 1, 2, 3, 4] (by decide) rfl
      have hFc := va_free (wc := [(h, .inr (1, [.ref m0, .ref aml, .ref amb, .ref t0, .ref atl, .ref att, .ref ate, .ref b0, .ref asb, .ref r0, .ref asr, .int 0])), (m0, .inr (0, [.int 12288, .ref m1, .ref m2, .ref m3, .int mC, .int mU])), (m1, .inl (G.2.1 0, 6, .inl mS)), (m2, .inl (G.2.1 0, 6, .inl mL)), (m3, .inl (G.2.1 2, 6, .inl mD))]) hD hS hA [0, 1, 2, 3, 4] rfl
      refine tx_i (tr_runV (As := [.ref m0, .int k, .long ((u32 ad) + (u32 off)), .long x_2.toInt64, .int 4]) (rest := []) ⟨hx, hb, hml, hown, hts⟩ (c_Pm_placeOf l hst G h m0 aml amb t0 atl att ate b0 asb r0 asr m0 m1 m2 m3 6 0 12288 mC mU mS mL mD k ((u32 ad) + (u32 off)) x_2.toInt64 4 _ h_5) (cwV 5 hts (gi_V ml_Pm_113 im_Pm_placeOf se_Pm_placeOf ini_Pm co_Pm_placeOf) rfl rfl rfl (by decide +kernel) ⟨Nat.le_of_ble_eq_true rfl, Nat.le_of_ble_eq_true rfl⟩) ⟨cm_blind, va_recv hK hPc (ci := 1) (q0 := 0) rfl rfl, cm_pre hcx hS hPc hDc hFc⟩ rfl rfl hl.1 rfl (lv_room (Nat.le_of_ble_eq_true rfl)) d_Pm_store_62 ⟨Nat.le_of_ble_eq_true rfl, Nat.le_of_ble_eq_true rfl⟩) hS hP hD hA [0, 1, 2, 3, 4] rfl (fun _ => rfl) (fun _ => rfl) (fun E9 u9 hp q9 ce9 H locs hP hD hS h91 h92 h93 => ?_) (fun r9 u9 H locs hp hP hD hS => ?_)
      · obtain ⟨hN, rfl, rfl⟩ := hp
        exact tr_pass (hnt _) hlocks h91 h92 h93 (fun t ht => ⟨(4, fmb), hw.2 hN, by have h9 := hP; rw [← ht] at h9; exact h9⟩) hS (Nat.le_of_ble_eq_true rfl) (Nat.le_of_ble_eq_true rfl)
      · obtain ⟨hN, e91, e92⟩ := hp; replace e91 := e91.symm; replace e92 := e92.symm; subst e91; subst e92
        replace hw := hw.1 hN
        have hP : va_P G.1 vwC [(h, .inr (1, [.ref m0, .ref aml, .ref amb, .ref t0, .ref atl, .ref att, .ref ate, .ref b0, .ref asb, .ref r0, .ref asr, .int 0])), (m0, .inr (0, [.int 12288, .ref m1, .ref m2, .ref m3, .int mC, .int mU])), (m1, .inl (G.2.1 0, 6, .inl mS)), (m2, .inl (G.2.1 0, 6, .inl mL)), (m3, .inl (G.2.1 2, 6, .inl mD)), (amb, .inl (G.2.1 1, 12288, .inl fmb))] H := hP
        have hD : va_D A [(h, .inr (1, [.ref m0, .ref aml, .ref amb, .ref t0, .ref atl, .ref att, .ref ate, .ref b0, .ref asb, .ref r0, .ref asr, .int 0])), (m0, .inr (0, [.int 12288, .ref m1, .ref m2, .ref m3, .int mC, .int mU])), (m1, .inl (G.2.1 0, 6, .inl mS)), (m2, .inl (G.2.1 0, 6, .inl mL)), (m3, .inl (G.2.1 2, 6, .inl mD)), (amb, .inl (G.2.1 1, 12288, .inl fmb))] := hD
        refine lv_topi (fun x_6 ex_6 => ?_)
        replace hw := hw x_6 ex_6
        refine lv_istore (lv' := [(8, .int x_6), (7, .int x_2), (0, .ref h), (1, .int k), (2, .int op), (3, .int ad), (4, .int off), (5, .long vl)]) hx hb d_Pm_store_65 hl (by decide) rfl (fun ls hl => ?_)
        refine lv_lload hx hb d_Pm_store_67 (lv_at hl 7 rfl) ?_
        refine lv_iload hx hb d_Pm_store_69 (lv_at hl 1 rfl) ?_
        refine lv_aload_n hx hb d_Pm_store_71 rfl (lv_at hl 2 rfl) ?_
        refine va_get (D := G.1) (ci := 1) (v := .ref amb) (C := R_Pm) (T := T_Pm) (N := 12) hx hb hts in_Pm hown hK hP 0 rfl rfl 2 (by decide) (hts _ fl_Pm_22) (fun _ h9 => h9) rfl d_Pm_store_72 ?_
        refine lv_iload hx hb d_Pm_store_75 (lv_at hl 0 rfl) ?_
        obtain ⟨h_7, hw⟩ := hw
        obtain ⟨h_8, hw⟩ := hw
        obtain ⟨h_9, hw⟩ := hw
        obtain ⟨h_10, hw⟩ := hw
        have hPc := hP.sub (ws' := [(amb, .inl (G.2.1 1, 12288, .inl fmb))]) [5] rfl
        have hDc := hD.sub (ws' := [(amb, .inl (G.2.1 1, 12288, .inl fmb))]) [5] (by decide) rfl
        have hFc := va_free (wc := [(amb, .inl (G.2.1 1, 12288, .inl fmb))]) hD hS hA [5] rfl
        refine ip_v (va_runS (As := [.long vl, .int x_2, .ref amb, .int x_6]) (rest := []) ⟨hx, hb, hml, hown, hts⟩ (c_Pm_putLowestBytes l G amb 12288 fmb vl x_2 x_6 _ h_7 h_8 h_9 h_10) (va_cwS 4 hts (gi_S ml_Pm_128 sm_Pm_putLowestBytes ini_Pm co_Pm_putLowestBytes) rfl rfl rfl (by decide +kernel) ⟨Nat.le_of_ble_eq_true rfl, Nat.le_of_ble_eq_true rfl⟩) ⟨cm_blind, cm_pre hcx hS hPc hDc hFc⟩ rfl rfl hl.1 rfl (lv_room (Nat.le_of_ble_eq_true rfl)) d_Pm_store_77 ⟨Nat.le_of_ble_eq_true rfl, Nat.le_of_ble_eq_true rfl⟩) hS hP hD hA [5] rfl (fun _ => rfl) (fun u9 H locs hp hP hD hS => ?_)
        replace hp := hp.symm; subst hp
        obtain ⟨u_11, eu_11⟩ : ∃ z : Nat → Int32, z = put_b fmb x_6.toNatClampNeg x_2.toNatClampNeg vl := ⟨_, rfl⟩
        replace hw := hw u_11 eu_11
        have hP : va_P G.1 vwC [(h, .inr (1, [.ref m0, .ref aml, .ref amb, .ref t0, .ref atl, .ref att, .ref ate, .ref b0, .ref asb, .ref r0, .ref asr, .int 0])), (m0, .inr (0, [.int 12288, .ref m1, .ref m2, .ref m3, .int mC, .int mU])), (m1, .inl (G.2.1 0, 6, .inl mS)), (m2, .inl (G.2.1 0, 6, .inl mL)), (m3, .inl (G.2.1 2, 6, .inl mD)), (amb, .inl (G.2.1 1, 12288, .inl (put_b fmb x_6.toNatClampNeg x_2.toNatClampNeg vl)))] H := hP
        have hD : va_D A [(h, .inr (1, [.ref m0, .ref aml, .ref amb, .ref t0, .ref atl, .ref att, .ref ate, .ref b0, .ref asb, .ref r0, .ref asr, .int 0])), (m0, .inr (0, [.int 12288, .ref m1, .ref m2, .ref m3, .int mC, .int mU])), (m1, .inl (G.2.1 0, 6, .inl mS)), (m2, .inl (G.2.1 0, 6, .inl mL)), (m3, .inl (G.2.1 2, 6, .inl mD)), (amb, .inl (G.2.1 1, 12288, .inl (put_b fmb x_6.toNatClampNeg x_2.toNatClampNeg vl)))] := hD
        have hP : va_P G.1 vwC [(h, .inr (1, [.ref m0, .ref aml, .ref amb, .ref t0, .ref atl, .ref att, .ref ate, .ref b0, .ref asb, .ref r0, .ref asr, .int 0])), (m0, .inr (0, [.int 12288, .ref m1, .ref m2, .ref m3, .int mC, .int mU])), (m1, .inl (G.2.1 0, 6, .inl mS)), (m2, .inl (G.2.1 0, 6, .inl mL)), (m3, .inl (G.2.1 2, 6, .inl mD)), (amb, .inl (G.2.1 1, 12288, .inl u_11))] H := by rw [eu_11]; exact hP
        have hD : va_D A [(h, .inr (1, [.ref m0, .ref aml, .ref amb, .ref t0, .ref atl, .ref att, .ref ate, .ref b0, .ref asb, .ref r0, .ref asr, .int 0])), (m0, .inr (0, [.int 12288, .ref m1, .ref m2, .ref m3, .int mC, .int mU])), (m1, .inl (G.2.1 0, 6, .inl mS)), (m2, .inl (G.2.1 0, 6, .inl mL)), (m3, .inl (G.2.1 2, 6, .inl mD)), (amb, .inl (G.2.1 1, 12288, .inl u_11))] := by rw [eu_11]; exact hD
        exact tr_ret (W.vret hx hb hr (fun t ht hW => ⟨⟨(0, u_11), rfl, hw, by have h9 := hP; rw [← ht] at h9; exact h9⟩, hS.F ht⟩) hS.2.2 d_Pm_store_80)
    · replace hw := hw.2 c_4
      exact tr_throw hx hb hst hown (by decide +kernel) (by decide +kernel) (hcx.imp (fun V h => tw_ill_126 V h)) hS (hl.1.trans hml.symm) d_Pm_store_32 d_Pm_store_35 d_Pm_store_36 d_Pm_store_38 d_Pm_store_41 (hnt _) (Nat.le_of_ble_eq_true rfl) (Nat.le_of_ble_eq_true rfl) (Nat.le_of_ble_eq_true rfl) (Nat.le_of_ble_eq_true rfl) hlocks (fun t h1 h2 => ⟨(0, fmb), hw, hP.kept fun k q hq => h2 q.1 (hP k q hq).lt⟩) hA (Nat.le_of_ble_eq_true rfl) (Nat.le_of_ble_eq_true rfl)
def wp_Pm_fill (post : (Int32 × (Nat → Int32)) → Prop) (postx : String → (Int32 × (Nat → Int32)) → Prop) (trp : Int32) (mC : Int32) (mU : Int32) (mS : Nat → Int32) (mL : Nat → Int32) (mD : Nat → Int32) (fmb : Nat → Int32) (k : Int32) (to : Int32) (vl : Int32) (cn : Int32) : Prop := ((¬ ly_has mC k = 0 → ((mC.toInt ≤ 6) ∧ (((lg_cmp ((u32 to) + (u32 cn)) (ly_ln mC k mL).toInt64 ≤ 0 → (∀ x_3 : Int32, x_3 = ly_st mC k mS + (u32 to).toInt32 → ((¬ x_3 < 0) ∧ ((x_3 ≤ (x_3 + cn)) ∧ (((x_3 + cn) ≤ nI 12288) ∧ ((12288 < 2147483648) ∧ ((vp_nar .byte vl.toInt8.toInt32 = vl.toInt8.toInt32) ∧ (∀ u_9 : Nat → Int32, u_9 = ar_fill fmb x_3.toNatClampNeg (x_3 + cn).toNatClampNeg vl.toInt8.toInt32 → (post (0, u_9)))))))))) ∧ (¬ lg_cmp ((u32 to) + (u32 cn)) (ly_ln mC k mL).toInt64 ≤ 0 → (postx E_uns (4, fmb))))))) ∧ (ly_has mC k = 0 → (postx E_ill (0, fmb))))
set_option maxHeartbeats 4000000 in
set_option maxRecDepth 100000 in
theorem t_Pm_fill (l : Launch) (hst : l.stackTraces = false) (G : cxT) (h : Nat) (m0 : Nat) (aml : Nat) (amb : Nat) (t0 : Nat) (atl : Nat) (att : Nat) (ate : Nat) (b0 : Nat) (asb : Nat) (r0 : Nat) (asr : Nat) (m1 : Nat) (m2 : Nat) (m3 : Nat) (trp : Int32) (mC : Int32) (mU : Int32) (mS : Nat → Int32) (mL : Nat → Int32) (mD : Nat → Int32) (fmb : Nat → Int32) (k : Int32) (to : Int32) (vl : Int32) (cn : Int32) (sz : Nat) (post : (Int32 × (Nat → Int32)) → Prop) (postx : String → (Int32 × (Nat → Int32)) → Prop) (hw : wp_Pm_fill post postx trp mC mU mS mL mD fmb k to vl cn) : tr_Met l y_Pm_fill [.code y_Pm_fill b_Pm_fill 6 none] ({ frames := 8, cells := 1, slots := 6, locals := 140 } : Room) (cm G [.ref h, .int k, .int to, .int vl, .int cn] [(h, .inr (1, [.ref m0, .ref aml, .ref amb, .ref t0, .ref atl, .ref att, .ref ate, .ref b0, .ref asb, .ref r0, .ref asr, .int trp])), (m0, .inr (0, [.int 12288, .ref m1, .ref m2, .ref m3, .int mC, .int mU])), (m1, .inl (G.2.1 0, 6, .inl mS)), (m2, .inl (G.2.1 0, 6, .inl mL)), (m3, .inl (G.2.1 2, 6, .inl mD)), (amb, .inl (G.2.1 1, 12288, .inl fmb))] sz) (va_Qv post (fun u t => va_P G.1 vwC [(h, .inr (1, [.ref m0, .ref aml, .ref amb, .ref t0, .ref atl, .ref att, .ref ate, .ref b0, .ref asb, .ref r0, .ref asr, .int u.1])), (m0, .inr (0, [.int 12288, .ref m1, .ref m2, .ref m3, .int mC, .int mU])), (m1, .inl (G.2.1 0, 6, .inl mS)), (m2, .inl (G.2.1 0, 6, .inl mL)), (m3, .inl (G.2.1 2, 6, .inl mD)), (amb, .inl (G.2.1 1, 12288, .inl u.2))] t.heap) (va_A [(h, .inr (1, [.ref m0, .ref aml, .ref amb, .ref t0, .ref atl, .ref att, .ref ate, .ref b0, .ref asb, .ref r0, .ref asr, .int trp])), (m0, .inr (0, [.int 12288, .ref m1, .ref m2, .ref m3, .int mC, .int mU])), (m1, .inl (G.2.1 0, 6, .inl mS)), (m2, .inl (G.2.1 0, 6, .inl mL)), (m3, .inl (G.2.1 2, 6, .inl mD)), (amb, .inl (G.2.1 1, 12288, .inl fmb))] sz)) (fun E t => ∃ u : Int32 × (Nat → Int32), postx E u ∧ va_P G.1 vwC [(h, .inr (1, [.ref m0, .ref aml, .ref amb, .ref t0, .ref atl, .ref att, .ref ate, .ref b0, .ref asb, .ref r0, .ref asr, .int u.1])), (m0, .inr (0, [.int 12288, .ref m1, .ref m2, .ref m3, .int mC, .int mU])), (m1, .inl (G.2.1 0, 6, .inl mS)), (m2, .inl (G.2.1 0, 6, .inl mL)), (m3, .inl (G.2.1 2, 6, .inl mD)), (amb, .inl (G.2.1 1, 12288, .inl u.2))] t.heap) (va_A [(h, .inr (1, [.ref m0, .ref aml, .ref amb, .ref t0, .ref atl, .ref att, .ref ate, .ref b0, .ref asb, .ref r0, .ref asr, .int trp])), (m0, .inr (0, [.int 12288, .ref m1, .ref m2, .ref m3, .int mC, .int mU])), (m1, .inl (G.2.1 0, 6, .inl mS)), (m2, .inl (G.2.1 0, 6, .inl mL)), (m3, .inl (G.2.1 2, 6, .inl mD)), (amb, .inl (G.2.1 1, 12288, .inl fmb))] sz) 1 6 := by
  refine tr_ofW (cc := b_Pm_fill) (maxL := 6) (ret := none) (by decide +kernel) rfl ?_
  intro p e s m args below meth c s₁ B hml hv
  obtain ⟨rfl, hsz, hcx, hP, hD0⟩ := hv
  have hx := B.exec
  have hb := B.bytes
  have hr := B.returns
  have hlocks := B.notSynchronized
  have hown : s.vm.findClass R_Pm = some m.cls := findClass_of_methodNamed B.named
  have hnt := tr_nt (ws := [.code y_Pm_fill b_Pm_fill 6 none]) (rm := ({ frames := 8, cells := 1, slots := 6, locals := 140 } : Room)) B rfl
  subst hsz
  have hD := hD0.self (sz := s.heap.size)
  generalize hAe : va_A [(h, .inr (1, [.ref m0, .ref aml, .ref amb, .ref t0, .ref atl, .ref att, .ref ate, .ref b0, .ref asb, .ref r0, .ref asr, .int trp])), (m0, .inr (0, [.int 12288, .ref m1, .ref m2, .ref m3, .int mC, .int mU])), (m1, .inl (G.2.1 0, 6, .inl mS)), (m2, .inl (G.2.1 0, 6, .inl mL)), (m3, .inl (G.2.1 2, 6, .inl mD)), (amb, .inl (G.2.1 1, 12288, .inl fmb))] s.heap.size = A at hD hcx ⊢
  have hA : ∀ q : Nat, s.heap.size ≤ q → A q := fun q h => by rw [← hAe]; exact Or.inr h
  have hS : va_S A s.heap s.heap [] := va_S.rf
  have hts := hcx.now.1 [.ref h, .int k, .int to, .int vl, .int cn].toArray
  have hK := hcx.now.2.1
  have hl := lv_entry ([.ref h, .int k, .int to, .int vl, .int cn]) (n := 6) (Nat.le_of_ble_eq_true rfl)
  rw [lg_entry_eq]
  generalize (lg_sl ([.ref h, .int k, .int to, .int vl, .int cn]) ++ List.replicate (6 - (lg_sl ([.ref h, .int k, .int to, .int vl, .int cn])).length) Slot.unset).toArray = ls at hl ⊢
  have hl : lv_has ls 6 [(0, .ref h), (1, .int k), (2, .int to), (3, .int vl), (4, .int cn)] := hl
  unfold wp_Pm_fill at hw
  refine lv_aload_n hx hb d_Pm_fill_0 rfl (lv_at hl 0 rfl) ?_
  refine lv_iconst (v := 0) hx hb d_Pm_fill_1 (by decide) ?_
  refine va_put (D := G.1) (ci := 1) (v := .int 0) (ty := (.int)) (C := R_Pm) (T := T_Pm) (N := 12) hx hb hts in_Pm ty_Pm tk_Pm nm_Pm hown hK hP hD hS 0 rfl rfl 11 (by decide) (hts _ fl_Pm_50) (fun _ h9 => h9) rfl (by decide +kernel) rfl rfl (Nat.le_of_ble_eq_true rfl) d_Pm_fill_2 (fun H locs hP hD hS => ?_)
  have hP : va_P G.1 vwC [(h, .inr (1, [.ref m0, .ref aml, .ref amb, .ref t0, .ref atl, .ref att, .ref ate, .ref b0, .ref asb, .ref r0, .ref asr, .int 0])), (m0, .inr (0, [.int 12288, .ref m1, .ref m2, .ref m3, .int mC, .int mU])), (m1, .inl (G.2.1 0, 6, .inl mS)), (m2, .inl (G.2.1 0, 6, .inl mL)), (m3, .inl (G.2.1 2, 6, .inl mD)), (amb, .inl (G.2.1 1, 12288, .inl fmb))] H := hP
  have hD : va_D A [(h, .inr (1, [.ref m0, .ref aml, .ref amb, .ref t0, .ref atl, .ref att, .ref ate, .ref b0, .ref asb, .ref r0, .ref asr, .int 0])), (m0, .inr (0, [.int 12288, .ref m1, .ref m2, .ref m3, .int mC, .int mU])), (m1, .inl (G.2.1 0, 6, .inl mS)), (m2, .inl (G.2.1 0, 6, .inl mL)), (m3, .inl (G.2.1 2, 6, .inl mD)), (amb, .inl (G.2.1 1, 12288, .inl fmb))] := hD
  refine lv_aload_n hx hb d_Pm_fill_5 rfl (lv_at hl 0 rfl) ?_
  refine va_get (D := G.1) (ci := 1) (v := .ref m0) (C := R_Pm) (T := T_Pm) (N := 12) hx hb hts in_Pm hown hK hP 0 rfl rfl 0 (by decide) (hts _ fl_Pm_14) (fun _ h9 => h9) rfl d_Pm_fill_6 ?_
  refine lv_iload_n hx hb d_Pm_fill_9 rfl (lv_at hl 1 rfl) ?_
  have hPc := hP.sub (ws' := [(m0, .inr (0, [.int 12288, .ref m1, .ref m2, .ref m3, .int mC, .int mU])), (m1, .inl (G.2.1 0, 6, .inl mS)), (m2, .inl (G.2.1 0, 6, .inl mL)), (m3, .inl (G.2.1 2, 6, .inl mD))]) [1, 2, 3, 4] rfl
  refine pu_i (va_runV (As := [.int k]) (rest := []) ⟨hx, hb, hml, hown, hts⟩ (c_Ly_has l G m0 m1 m2 m3 6 12288 mC mU mS mL mD k) (cwV 1 hts (gi_V ml_Pm_67 im_Ly_has se_Ly_has ini_Ly co_Ly_has) rfl rfl rfl (by decide +kernel) ⟨Nat.le_of_ble_eq_true rfl, Nat.le_of_ble_eq_true rfl⟩) ⟨cp_blind, va_recv hK hPc (ci := 0) (q0 := 0) rfl rfl, cp_pre hcx hS hPc⟩ rfl rfl hl.1 rfl (lv_room (Nat.le_of_ble_eq_true rfl)) d_Pm_fill_10 ⟨Nat.le_of_ble_eq_true rfl, Nat.le_of_ble_eq_true rfl⟩) hS hP (fun H locs hP hS => ?_)
  refine lv_if_ne (tgt := 26) hx hb d_Pm_fill_13 (by decide) (fun c_1 => ?_) (fun c_1 => ?_)
  · replace hw := hw.1 c_1
    refine lv_aload_n hx hb d_Pm_fill_26 rfl (lv_at hl 0 rfl) ?_
    refine lv_aload_n hx hb d_Pm_fill_27 rfl (lv_at hl 0 rfl) ?_
    refine va_get (D := G.1) (ci := 1) (v := .ref m0) (C := R_Pm) (T := T_Pm) (N := 12) hx hb hts in_Pm hown hK hP 0 rfl rfl 0 (by decide) (hts _ fl_Pm_14) (fun _ h9 => h9) rfl d_Pm_fill_28 ?_
    refine lv_iload_n hx hb d_Pm_fill_31 rfl (lv_at hl 1 rfl) ?_
    refine lv_iload_n hx hb d_Pm_fill_32 rfl (lv_at hl 2 rfl) ?_
    have hPc := hP.sub (ws' := []) [] rfl
    refine pu_l (va_runS (As := [.int to]) (rest := [.int k, .ref m0, .ref h]) ⟨hx, hb, hml, hown, hts⟩ (c_Pm_unsigned l G to) (va_cwS 1 hts (gi_S ml_Pm_74 sm_Pm_unsigned ini_Pm co_Pm_unsigned) rfl rfl rfl (by decide +kernel) ⟨Nat.le_of_ble_eq_true rfl, Nat.le_of_ble_eq_true rfl⟩) ⟨cp_blind, cp_pre hcx hS hPc⟩ rfl rfl hl.1 rfl (lv_room (Nat.le_of_ble_eq_true rfl)) d_Pm_fill_33 ⟨Nat.le_of_ble_eq_true rfl, Nat.le_of_ble_eq_true rfl⟩) hS hP (fun H locs hP hS => ?_)
    refine lv_iload hx hb d_Pm_fill_36 (lv_at hl 4 rfl) ?_
    have hPc := hP.sub (ws' := []) [] rfl
    refine pu_l (va_runS (As := [.int cn]) (rest := [.long (u32 to), .int k, .ref m0, .ref h]) ⟨hx, hb, hml, hown, hts⟩ (c_Pm_unsigned l G cn) (va_cwS 1 hts (gi_S ml_Pm_74 sm_Pm_unsigned ini_Pm co_Pm_unsigned) rfl rfl rfl (by decide +kernel) ⟨Nat.le_of_ble_eq_true rfl, Nat.le_of_ble_eq_true rfl⟩) ⟨cp_blind, cp_pre hcx hS hPc⟩ rfl rfl hl.1 rfl (lv_room (Nat.le_of_ble_eq_true rfl)) d_Pm_fill_38 ⟨Nat.le_of_ble_eq_true rfl, Nat.le_of_ble_eq_true rfl⟩) hS hP (fun H locs hP hS => ?_)
    refine lv_iconst (v := 4) hx hb d_Pm_fill_41 (by decide) ?_
    obtain ⟨h_2, hw⟩ := hw
    have hPc := hP.sub (ws' := [(h, .inr (1, [.ref m0, .ref aml, .ref amb, .ref t0, .ref atl, .ref att, .ref ate, .ref b0, .ref asb, .ref r0, .ref asr, .int 0])), (m0, .inr (0, [.int 12288, .ref m1, .ref m2, .ref m3, .int mC, .int mU])), (m1, .inl (G.2.1 0, 6, .inl mS)), (m2, .inl (G.2.1 0, 6, .inl mL)), (m3, .inl (G.2.1 2, 6, .inl mD))]) [0, 1, 2, 3, 4] rfl
    have hDc := hD.sub (ws' := [(h, .inr (1, [.ref m0, .ref aml, .ref amb, .ref t0, .ref atl, .ref att, .ref ate, .ref b0, .ref asb, .ref r0, .ref asr, .int 0])), (m0, .inr (0, [.int 12288, .ref m1, .ref m2, .ref m3, .int mC, .int mU])), (m1, .inl (G.2.1 0, 6, .inl mS)), (m2, .inl (G.2.1 0, 6, .inl mL)), (m3, .inl (G.2.1 2, 6, .inl mD))]) [0, 1, 2, 3, 4] (by decide) rfl
    have hFc := va_free (wc := [(h, .inr (1, [.ref m0, .ref aml, .ref amb, .ref t0, .ref atl, .ref att, .ref ate, .ref b0, .ref asb, .ref r0, .ref asr, .int 0])), (m0, .inr (0, [.int 12288, .ref m1, .ref m2, .ref m3, .int mC, .int mU])), (m1, .inl (G.2.1 0, 6, .inl mS)), (m2, .inl (G.2.1 0, 6, .inl mL)), (m3, .inl (G.2.1 2, 6, .inl mD))]) hD hS hA [0, 1, 2, 3, 4] rfl
    refine tx_i (tr_runV (As := [.ref m0, .int k, .long (u32 to), .long (u32 cn), .int 4]) (rest := []) ⟨hx, hb, hml, hown, hts⟩ (c_Pm_placeOf l hst G h m0 aml amb t0 atl att ate b0 asb r0 asr m0 m1 m2 m3 6 0 12288 mC mU mS mL mD k (u32 to) (u32 cn) 4 _ h_2) (cwV 5 hts (gi_V ml_Pm_113 im_Pm_placeOf se_Pm_placeOf ini_Pm co_Pm_placeOf) rfl rfl rfl (by decide +kernel) ⟨Nat.le_of_ble_eq_true rfl, Nat.le_of_ble_eq_true rfl⟩) ⟨cm_blind, va_recv hK hPc (ci := 1) (q0 := 0) rfl rfl, cm_pre hcx hS hPc hDc hFc⟩ rfl rfl hl.1 rfl (lv_room (Nat.le_of_ble_eq_true rfl)) d_Pm_fill_42 ⟨Nat.le_of_ble_eq_true rfl, Nat.le_of_ble_eq_true rfl⟩) hS hP hD hA [0, 1, 2, 3, 4] rfl (fun _ => rfl) (fun _ => rfl) (fun E9 u9 hp q9 ce9 H locs hP hD hS h91 h92 h93 => ?_) (fun r9 u9 H locs hp hP hD hS => ?_)
    · obtain ⟨hN, rfl, rfl⟩ := hp
      exact tr_pass (hnt _) hlocks h91 h92 h93 (fun t ht => ⟨(4, fmb), hw.2 hN, by have h9 := hP; rw [← ht] at h9; exact h9⟩) hS (Nat.le_of_ble_eq_true rfl) (Nat.le_of_ble_eq_true rfl)
    · obtain ⟨hN, e91, e92⟩ := hp; replace e91 := e91.symm; replace e92 := e92.symm; subst e91; subst e92
      replace hw := hw.1 hN
      have hP : va_P G.1 vwC [(h, .inr (1, [.ref m0, .ref aml, .ref amb, .ref t0, .ref atl, .ref att, .ref ate, .ref b0, .ref asb, .ref r0, .ref asr, .int 0])), (m0, .inr (0, [.int 12288, .ref m1, .ref m2, .ref m3, .int mC, .int mU])), (m1, .inl (G.2.1 0, 6, .inl mS)), (m2, .inl (G.2.1 0, 6, .inl mL)), (m3, .inl (G.2.1 2, 6, .inl mD)), (amb, .inl (G.2.1 1, 12288, .inl fmb))] H := hP
      have hD : va_D A [(h, .inr (1, [.ref m0, .ref aml, .ref amb, .ref t0, .ref atl, .ref att, .ref ate, .ref b0, .ref asb, .ref r0, .ref asr, .int 0])), (m0, .inr (0, [.int 12288, .ref m1, .ref m2, .ref m3, .int mC, .int mU])), (m1, .inl (G.2.1 0, 6, .inl mS)), (m2, .inl (G.2.1 0, 6, .inl mL)), (m3, .inl (G.2.1 2, 6, .inl mD)), (amb, .inl (G.2.1 1, 12288, .inl fmb))] := hD
      refine lv_topi (fun x_3 ex_3 => ?_)
      replace hw := hw x_3 ex_3
      refine lv_istore (lv' := [(5, .int x_3), (0, .ref h), (1, .int k), (2, .int to), (3, .int vl), (4, .int cn)]) hx hb d_Pm_fill_45 hl (by decide) rfl (fun ls hl => ?_)
      refine lv_aload_n hx hb d_Pm_fill_47 rfl (lv_at hl 1 rfl) ?_
      refine va_get (D := G.1) (ci := 1) (v := .ref amb) (C := R_Pm) (T := T_Pm) (N := 12) hx hb hts in_Pm hown hK hP 0 rfl rfl 2 (by decide) (hts _ fl_Pm_22) (fun _ h9 => h9) rfl d_Pm_fill_48 ?_
      refine lv_iload hx hb d_Pm_fill_51 (lv_at hl 0 rfl) ?_
      refine lv_iload hx hb d_Pm_fill_53 (lv_at hl 0 rfl) ?_
      refine lv_iload hx hb d_Pm_fill_55 (lv_at hl 5 rfl) ?_
      refine lv_iadd hx hb d_Pm_fill_57 ?_
      refine lv_iload_n hx hb d_Pm_fill_58 rfl (lv_at hl 4 rfl) ?_
      refine lv_i2b (v := vl.toInt8.toInt32) hx hb d_Pm_fill_59 rfl ?_
      obtain ⟨h_4, hw⟩ := hw
      obtain ⟨h_5, hw⟩ := hw
      obtain ⟨h_6, hw⟩ := hw
      obtain ⟨h_7, hw⟩ := hw
      obtain ⟨h_8, hw⟩ := hw
      have hPc := hP.sub (ws' := [(amb, .inl (G.2.1 1, 12288, .inl fmb))]) [5] rfl
      have hDc := hD.sub (ws' := [(amb, .inl (G.2.1 1, 12288, .inl fmb))]) [5] (by decide) rfl
      have hFc := va_free (wc := [(amb, .inl (G.2.1 1, 12288, .inl fmb))]) hD hS hA [5] rfl
      refine ip_v (va_runS (As := [.ref amb, .int x_3, .int (x_3 + cn), .int vl.toInt8.toInt32]) (rest := []) ⟨hx, hb, hml, hown, hts⟩ (c_Ar_fillB l G amb 12288 fmb x_3 (x_3 + cn) vl.toInt8.toInt32 _ h_4 h_5 h_6 h_7 h_8) (va_cwS 4 hts (gi_S ml_Pm_90 sm_Ar_fillB ini_Ar co_Ar_fillB) rfl rfl rfl (by decide +kernel) ⟨Nat.le_of_ble_eq_true rfl, Nat.le_of_ble_eq_true rfl⟩) ⟨cm_blind, cm_pre hcx hS hPc hDc hFc⟩ rfl rfl hl.1 rfl (lv_room (Nat.le_of_ble_eq_true rfl)) d_Pm_fill_60 ⟨Nat.le_of_ble_eq_true rfl, Nat.le_of_ble_eq_true rfl⟩) hS hP hD hA [5] rfl (fun _ => rfl) (fun u9 H locs hp hP hD hS => ?_)
      replace hp := hp.symm; subst hp
      obtain ⟨u_9, eu_9⟩ : ∃ z : Nat → Int32, z = ar_fill fmb x_3.toNatClampNeg (x_3 + cn).toNatClampNeg vl.toInt8.toInt32 := ⟨_, rfl⟩
      replace hw := hw u_9 eu_9
      have hP : va_P G.1 vwC [(h, .inr (1, [.ref m0, .ref aml, .ref amb, .ref t0, .ref atl, .ref att, .ref ate, .ref b0, .ref asb, .ref r0, .ref asr, .int 0])), (m0, .inr (0, [.int 12288, .ref m1, .ref m2, .ref m3, .int mC, .int mU])), (m1, .inl (G.2.1 0, 6, .inl mS)), (m2, .inl (G.2.1 0, 6, .inl mL)), (m3, .inl (G.2.1 2, 6, .inl mD)), (amb, .inl (G.2.1 1, 12288, .inl (ar_fill fmb x_3.toNatClampNeg (x_3 + cn).toNatClampNeg vl.toInt8.toInt32)))] H := hP
      have hD : va_D A [(h, .inr (1, [.ref m0, .ref aml, .ref amb, .ref t0, .ref atl, .ref att, .ref ate, .ref b0, .ref asb, .ref r0, .ref asr, .int 0])), (m0, .inr (0, [.int 12288, .ref m1, .ref m2, .ref m3, .int mC, .int mU])), (m1, .inl (G.2.1 0, 6, .inl mS)), (m2, .inl (G.2.1 0, 6, .inl mL)), (m3, .inl (G.2.1 2, 6, .inl mD)), (amb, .inl (G.2.1 1, 12288, .inl (ar_fill fmb x_3.toNatClampNeg (x_3 + cn).toNatClampNeg vl.toInt8.toInt32)))] := hD
      have hP : va_P G.1 vwC [(h, .inr (1, [.ref m0, .ref aml, .ref amb, .ref t0, .ref atl, .ref att, .ref ate, .ref b0, .ref asb, .ref r0, .ref asr, .int 0])), (m0, .inr (0, [.int 12288, .ref m1, .ref m2, .ref m3, .int mC, .int mU])), (m1, .inl (G.2.1 0, 6, .inl mS)), (m2, .inl (G.2.1 0, 6, .inl mL)), (m3, .inl (G.2.1 2, 6, .inl mD)), (amb, .inl (G.2.1 1, 12288, .inl u_9))] H := by rw [eu_9]; exact hP
      have hD : va_D A [(h, .inr (1, [.ref m0, .ref aml, .ref amb, .ref t0, .ref atl, .ref att, .ref ate, .ref b0, .ref asb, .ref r0, .ref asr, .int 0])), (m0, .inr (0, [.int 12288, .ref m1, .ref m2, .ref m3, .int mC, .int mU])), (m1, .inl (G.2.1 0, 6, .inl mS)), (m2, .inl (G.2.1 0, 6, .inl mL)), (m3, .inl (G.2.1 2, 6, .inl mD)), (amb, .inl (G.2.1 1, 12288, .inl u_9))] := by rw [eu_9]; exact hD
      exact tr_ret (W.vret hx hb hr (fun t ht hW => ⟨⟨(0, u_9), rfl, hw, by have h9 := hP; rw [← ht] at h9; exact h9⟩, hS.F ht⟩) hS.2.2 d_Pm_fill_63)
  · replace hw := hw.2 c_1
    exact tr_throw hx hb hst hown (by decide +kernel) (by decide +kernel) (hcx.imp (fun V h => tw_ill_132 V h)) hS (hl.1.trans hml.symm) d_Pm_fill_16 d_Pm_fill_19 d_Pm_fill_20 d_Pm_fill_22 d_Pm_fill_25 (hnt _) (Nat.le_of_ble_eq_true rfl) (Nat.le_of_ble_eq_true rfl) (Nat.le_of_ble_eq_true rfl) (Nat.le_of_ble_eq_true rfl) hlocks (fun t h1 h2 => ⟨(0, fmb), hw, hP.kept fun k q hq => h2 q.1 (hP k q hq).lt⟩) hA (Nat.le_of_ble_eq_true rfl) (Nat.le_of_ble_eq_true rfl)
def wp_Pm_copy (post : (Int32 × (Nat → Int32)) → Prop) (postx : String → (Int32 × (Nat → Int32)) → Prop) (trp : Int32) (mC : Int32) (mU : Int32) (mS : Nat → Int32) (mL : Nat → Int32) (mD : Nat → Int32) (fmb : Nat → Int32) (k : Int32) (to : Int32) (fr : Int32) (cn : Int32) : Prop := ((¬ ly_has mC k = 0 → ((mC.toInt ≤ 6) ∧ (((lg_cmp ((u32 fr) + (u32 cn)) (ly_ln mC k mL).toInt64 ≤ 0 → (∀ x_3 : Int32, x_3 = ly_st mC k mS + (u32 fr).toInt32 → ((mC.toInt ≤ 6) ∧ (((lg_cmp ((u32 to) + (u32 cn)) (ly_ln mC k mL).toInt64 ≤ 0 → (∀ x_5 : Int32, x_5 = ly_st mC k mS + (u32 to).toInt32 → ((¬ x_3 < 0) ∧ (¬ x_5 < 0) ∧ (¬ cn < 0) ∧ (x_3.toNatClampNeg + cn.toNatClampNeg ≤ 12288) ∧ (x_5.toNatClampNeg + cn.toNatClampNeg ≤ 12288) ∧ (∀ i, i < cn.toNatClampNeg → fits .byte (.int (fmb (x_3.toNatClampNeg + i))) = true) ∧ ∀ a_12 : Nat → Int32, a_12 = va_cpy fmb fmb x_3.toNatClampNeg x_5.toNatClampNeg cn.toNatClampNeg → (post (0, a_12))))) ∧ (¬ lg_cmp ((u32 to) + (u32 cn)) (ly_ln mC k mL).toInt64 ≤ 0 → (postx E_uns (4, fmb)))))))) ∧ (¬ lg_cmp ((u32 fr) + (u32 cn)) (ly_ln mC k mL).toInt64 ≤ 0 → (postx E_uns (4, fmb))))))) ∧ (ly_has mC k = 0 → (postx E_ill (0, fmb))))
set_option maxHeartbeats 4000000 in
set_option maxRecDepth 100000 in
theorem t_Pm_copy (l : Launch) (hst : l.stackTraces = false) (G : cxT) (h : Nat) (m0 : Nat) (aml : Nat) (amb : Nat) (t0 : Nat) (atl : Nat) (att : Nat) (ate : Nat) (b0 : Nat) (asb : Nat) (r0 : Nat) (asr : Nat) (m1 : Nat) (m2 : Nat) (m3 : Nat) (trp : Int32) (mC : Int32) (mU : Int32) (mS : Nat → Int32) (mL : Nat → Int32) (mD : Nat → Int32) (fmb : Nat → Int32) (k : Int32) (to : Int32) (fr : Int32) (cn : Int32) (sz : Nat) (post : (Int32 × (Nat → Int32)) → Prop) (postx : String → (Int32 × (Nat → Int32)) → Prop) (hw : wp_Pm_copy post postx trp mC mU mS mL mD fmb k to fr cn) : tr_Met l y_Pm_copy [.code y_Pm_copy b_Pm_copy 7 none] ({ frames := 8, cells := 2, slots := 12, locals := 140 } : Room) (cm G [.ref h, .int k, .int to, .int fr, .int cn] [(h, .inr (1, [.ref m0, .ref aml, .ref amb, .ref t0, .ref atl, .ref att, .ref ate, .ref b0, .ref asb, .ref r0, .ref asr, .int trp])), (m0, .inr (0, [.int 12288, .ref m1, .ref m2, .ref m3, .int mC, .int mU])), (m1, .inl (G.2.1 0, 6, .inl mS)), (m2, .inl (G.2.1 0, 6, .inl mL)), (m3, .inl (G.2.1 2, 6, .inl mD)), (amb, .inl (G.2.1 1, 12288, .inl fmb))] sz) (va_Qv post (fun u t => va_P G.1 vwC [(h, .inr (1, [.ref m0, .ref aml, .ref amb, .ref t0, .ref atl, .ref att, .ref ate, .ref b0, .ref asb, .ref r0, .ref asr, .int u.1])), (m0, .inr (0, [.int 12288, .ref m1, .ref m2, .ref m3, .int mC, .int mU])), (m1, .inl (G.2.1 0, 6, .inl mS)), (m2, .inl (G.2.1 0, 6, .inl mL)), (m3, .inl (G.2.1 2, 6, .inl mD)), (amb, .inl (G.2.1 1, 12288, .inl u.2))] t.heap) (va_A [(h, .inr (1, [.ref m0, .ref aml, .ref amb, .ref t0, .ref atl, .ref att, .ref ate, .ref b0, .ref asb, .ref r0, .ref asr, .int trp])), (m0, .inr (0, [.int 12288, .ref m1, .ref m2, .ref m3, .int mC, .int mU])), (m1, .inl (G.2.1 0, 6, .inl mS)), (m2, .inl (G.2.1 0, 6, .inl mL)), (m3, .inl (G.2.1 2, 6, .inl mD)), (amb, .inl (G.2.1 1, 12288, .inl fmb))] sz)) (fun E t => ∃ u : Int32 × (Nat → Int32), postx E u ∧ va_P G.1 vwC [(h, .inr (1, [.ref m0, .ref aml, .ref amb, .ref t0, .ref atl, .ref att, .ref ate, .ref b0, .ref asb, .ref r0, .ref asr, .int u.1])), (m0, .inr (0, [.int 12288, .ref m1, .ref m2, .ref m3, .int mC, .int mU])), (m1, .inl (G.2.1 0, 6, .inl mS)), (m2, .inl (G.2.1 0, 6, .inl mL)), (m3, .inl (G.2.1 2, 6, .inl mD)), (amb, .inl (G.2.1 1, 12288, .inl u.2))] t.heap) (va_A [(h, .inr (1, [.ref m0, .ref aml, .ref amb, .ref t0, .ref atl, .ref att, .ref ate, .ref b0, .ref asb, .ref r0, .ref asr, .int trp])), (m0, .inr (0, [.int 12288, .ref m1, .ref m2, .ref m3, .int mC, .int mU])), (m1, .inl (G.2.1 0, 6, .inl mS)), (m2, .inl (G.2.1 0, 6, .inl mL)), (m3, .inl (G.2.1 2, 6, .inl mD)), (amb, .inl (G.2.1 1, 12288, .inl fmb))] sz) 2 12 := by
  refine tr_ofW (cc := b_Pm_copy) (maxL := 7) (ret := none) (by decide +kernel) rfl ?_
  intro p e s m args below meth c s₁ B hml hv
  obtain ⟨rfl, hsz, hcx, hP, hD0⟩ := hv
  have hx := B.exec
  have hb := B.bytes
  have hr := B.returns
  have hlocks := B.notSynchronized
  have hown : s.vm.findClass R_Pm = some m.cls := findClass_of_methodNamed B.named
  have hnt := tr_nt (ws := [.code y_Pm_copy b_Pm_copy 7 none]) (rm := ({ frames := 8, cells := 2, slots := 12, locals := 140 } : Room)) B rfl
  subst hsz
  have hD := hD0.self (sz := s.heap.size)
  generalize hAe : va_A [(h, .inr (1, [.ref m0, .ref aml, .ref amb, .ref t0, .ref atl, .ref att, .ref ate, .ref b0, .ref asb, .ref r0, .ref asr, .int trp])), (m0, .inr (0, [.int 12288, .ref m1, .ref m2, .ref m3, .int mC, .int mU])), (m1, .inl (G.2.1 0, 6, .inl mS)), (m2, .inl (G.2.1 0, 6, .inl mL)), (m3, .inl (G.2.1 2, 6, .inl mD)), (amb, .inl (G.2.1 1, 12288, .inl fmb))] s.heap.size = A at hD hcx ⊢
  have hA : ∀ q : Nat, s.heap.size ≤ q → A q := fun q h => by rw [← hAe]; exact Or.inr h
  have hS : va_S A s.heap s.heap [] := va_S.rf
  have hts := hcx.now.1 [.ref h, .int k, .int to, .int fr, .int cn].toArray
  have hK := hcx.now.2.1
  have hl := lv_entry ([.ref h, .int k, .int to, .int fr, .int cn]) (n := 7) (Nat.le_of_ble_eq_true rfl)
  rw [lg_entry_eq]
  generalize (lg_sl ([.ref h, .int k, .int to, .int fr, .int cn]) ++ List.replicate (7 - (lg_sl ([.ref h, .int k, .int to, .int fr, .int cn])).length) Slot.unset).toArray = ls at hl ⊢
  have hl : lv_has ls 7 [(0, .ref h), (1, .int k), (2, .int to), (3, .int fr), (4, .int cn)] := hl
  unfold wp_Pm_copy at hw
  refine lv_aload_n hx hb d_Pm_copy_0 rfl (lv_at hl 0 rfl) ?_
  refine lv_iconst (v := 0) hx hb d_Pm_copy_1 (by decide) ?_
  refine va_put (D := G.1) (ci := 1) (v := .int 0) (ty := (.int)) (C := R_Pm) (T := T_Pm) (N := 12) hx hb hts in_Pm ty_Pm tk_Pm nm_Pm hown hK hP hD hS 0 rfl rfl 11 (by decide) (hts _ fl_Pm_50) (fun _ h9 => h9) rfl (by decide +kernel) rfl rfl (Nat.le_of_ble_eq_true rfl) d_Pm_copy_2 (fun H locs hP hD hS => ?_)
  have hP : va_P G.1 vwC [(h, .inr (1, [.ref m0, .ref aml, .ref amb, .ref t0, .ref atl, .ref att, .ref ate, .ref b0, .ref asb, .ref r0, .ref asr, .int 0])), (m0, .inr (0, [.int 12288, .ref m1, .ref m2, .ref m3, .int mC, .int mU])), (m1, .inl (G.2.1 0, 6, .inl mS)), (m2, .inl (G.2.1 0, 6, .inl mL)), (m3, .inl (G.2.1 2, 6, .inl mD)), (amb, .inl (G.2.1 1, 12288, .inl fmb))] H := hP
  have hD : va_D A [(h, .inr (1, [.ref m0, .ref aml, .ref amb, .ref t0, .ref atl, .ref att, .ref ate, .ref b0, .ref asb, .ref r0, .ref asr, .int 0])), (m0, .inr (0, [.int 12288, .ref m1, .ref m2, .ref m3, .int mC, .int mU])), (m1, .inl (G.2.1 0, 6, .inl mS)), (m2, .inl (G.2.1 0, 6, .inl mL)), (m3, .inl (G.2.1 2, 6, .inl mD)), (amb, .inl (G.2.1 1, 12288, .inl fmb))] := hD
  refine lv_aload_n hx hb d_Pm_copy_5 rfl (lv_at hl 0 rfl) ?_
  refine va_get (D := G.1) (ci := 1) (v := .ref m0) (C := R_Pm) (T := T_Pm) (N := 12) hx hb hts in_Pm hown hK hP 0 rfl rfl 0 (by decide) (hts _ fl_Pm_14) (fun _ h9 => h9) rfl d_Pm_copy_6 ?_
  refine lv_iload_n hx hb d_Pm_copy_9 rfl (lv_at hl 1 rfl) ?_
  have hPc := hP.sub (ws' := [(m0, .inr (0, [.int 12288, .ref m1, .ref m2, .ref m3, .int mC, .int mU])), (m1, .inl (G.2.1 0, 6, .inl mS)), (m2, .inl (G.2.1 0, 6, .inl mL)), (m3, .inl (G.2.1 2, 6, .inl mD))]) [1, 2, 3, 4] rfl
  refine pu_i (va_runV (As := [.int k]) (rest := []) ⟨hx, hb, hml, hown, hts⟩ (c_Ly_has l G m0 m1 m2 m3 6 12288 mC mU mS mL mD k) (cwV 1 hts (gi_V ml_Pm_67 im_Ly_has se_Ly_has ini_Ly co_Ly_has) rfl rfl rfl (by decide +kernel) ⟨Nat.le_of_ble_eq_true rfl, Nat.le_of_ble_eq_true rfl⟩) ⟨cp_blind, va_recv hK hPc (ci := 0) (q0 := 0) rfl rfl, cp_pre hcx hS hPc⟩ rfl rfl hl.1 rfl (lv_room (Nat.le_of_ble_eq_true rfl)) d_Pm_copy_10 ⟨Nat.le_of_ble_eq_true rfl, Nat.le_of_ble_eq_true rfl⟩) hS hP (fun H locs hP hS => ?_)
  refine lv_if_ne (tgt := 26) hx hb d_Pm_copy_13 (by decide) (fun c_1 => ?_) (fun c_1 => ?_)
  · replace hw := hw.1 c_1
    refine lv_aload_n hx hb d_Pm_copy_26 rfl (lv_at hl 0 rfl) ?_
    refine lv_aload_n hx hb d_Pm_copy_27 rfl (lv_at hl 0 rfl) ?_
    refine va_get (D := G.1) (ci := 1) (v := .ref m0) (C := R_Pm) (T := T_Pm) (N := 12) hx hb hts in_Pm hown hK hP 0 rfl rfl 0 (by decide) (hts _ fl_Pm_14) (fun _ h9 => h9) rfl d_Pm_copy_28 ?_
    refine lv_iload_n hx hb d_Pm_copy_31 rfl (lv_at hl 1 rfl) ?_
    refine lv_iload_n hx hb d_Pm_copy_32 rfl (lv_at hl 3 rfl) ?_
    have hPc := hP.sub (ws' := []) [] rfl
    refine pu_l (va_runS (As := [.int fr]) (rest := [.int k, .ref m0, .ref h]) ⟨hx, hb, hml, hown, hts⟩ (c_Pm_unsigned l G fr) (va_cwS 1 hts (gi_S ml_Pm_74 sm_Pm_unsigned ini_Pm co_Pm_unsigned) rfl rfl rfl (by decide +kernel) ⟨Nat.le_of_ble_eq_true rfl, Nat.le_of_ble_eq_true rfl⟩) ⟨cp_blind, cp_pre hcx hS hPc⟩ rfl rfl hl.1 rfl (lv_room (Nat.le_of_ble_eq_true rfl)) d_Pm_copy_33 ⟨Nat.le_of_ble_eq_true rfl, Nat.le_of_ble_eq_true rfl⟩) hS hP (fun H locs hP hS => ?_)
    refine lv_iload hx hb d_Pm_copy_36 (lv_at hl 4 rfl) ?_
    have hPc := hP.sub (ws' := []) [] rfl
    refine pu_l (va_runS (As := [.int cn]) (rest := [.long (u32 fr), .int k, .ref m0, .ref h]) ⟨hx, hb, hml, hown, hts⟩ (c_Pm_unsigned l G cn) (va_cwS 1 hts (gi_S ml_Pm_74 sm_Pm_unsigned ini_Pm co_Pm_unsigned) rfl rfl rfl (by decide +kernel) ⟨Nat.le_of_ble_eq_true rfl, Nat.le_of_ble_eq_true rfl⟩) ⟨cp_blind, cp_pre hcx hS hPc⟩ rfl rfl hl.1 rfl (lv_room (Nat.le_of_ble_eq_true rfl)) d_Pm_copy_38 ⟨Nat.le_of_ble_eq_true rfl, Nat.le_of_ble_eq_true rfl⟩) hS hP (fun H locs hP hS => ?_)
    refine lv_iconst (v := 4) hx hb d_Pm_copy_41 (by decide) ?_
    obtain ⟨h_2, hw⟩ := hw
    have hPc := hP.sub (ws' := [(h, .inr (1, [.ref m0, .ref aml, .ref amb, .ref t0, .ref atl, .ref att, .ref ate, .ref b0, .ref asb, .ref r0, .ref asr, .int 0])), (m0, .inr (0, [.int 12288, .ref m1, .ref m2, .ref m3, .int mC, .int mU])), (m1, .inl (G.2.1 0, 6, .inl mS)), (m2, .inl (G.2.1 0, 6, .inl mL)), (m3, .inl (G.2.1 2, 6, .inl mD))]) [0, 1, 2, 3, 4] rfl
    have hDc := hD.sub (ws' := [(h, .inr (1, [.ref m0, .ref aml, .ref amb, .ref t0, .ref atl, .ref att, .ref ate, .ref b0, .ref asb, .ref r0, .ref asr, .int 0])), (m0, .inr (0, [.int 12288, .ref m1, .ref m2, .ref m3, .int mC, .int mU])), (m1, .inl (G.2.1 0, 6, .inl mS)), (m2, .inl (G.2.1 0, 6, .inl mL)), (m3, .inl (G.2.1 2, 6, .inl mD))]) [0, 1, 2, 3, 4] (by decide) rfl
    have hFc := va_free (wc := [(h, .inr (1, [.ref m0, .ref aml, .ref amb, .ref t0, .ref atl, .ref att, .ref ate, .ref b0, .ref asb, .ref r0, .ref asr, .int 0])), (m0, .inr (0, [.int 12288, .ref m1, .ref m2, .ref m3, .int mC, .int mU])), (m1, .inl (G.2.1 0, 6, .inl mS)), (m2, .inl (G.2.1 0, 6, .inl mL)), (m3, .inl (G.2.1 2, 6, .inl mD))]) hD hS hA [0, 1, 2, 3, 4] rfl
    refine tx_i (tr_runV (As := [.ref m0, .int k, .long (u32 fr), .long (u32 cn), .int 4]) (rest := []) ⟨hx, hb, hml, hown, hts⟩ (c_Pm_placeOf l hst G h m0 aml amb t0 atl att ate b0 asb r0 asr m0 m1 m2 m3 6 0 12288 mC mU mS mL mD k (u32 fr) (u32 cn) 4 _ h_2) (cwV 5 hts (gi_V ml_Pm_113 im_Pm_placeOf se_Pm_placeOf ini_Pm co_Pm_placeOf) rfl rfl rfl (by decide +kernel) ⟨Nat.le_of_ble_eq_true rfl, Nat.le_of_ble_eq_true rfl⟩) ⟨cm_blind, va_recv hK hPc (ci := 1) (q0 := 0) rfl rfl, cm_pre hcx hS hPc hDc hFc⟩ rfl rfl hl.1 rfl (lv_room (Nat.le_of_ble_eq_true rfl)) d_Pm_copy_42 ⟨Nat.le_of_ble_eq_true rfl, Nat.le_of_ble_eq_true rfl⟩) hS hP hD hA [0, 1, 2, 3, 4] rfl (fun _ => rfl) (fun _ => rfl) (fun E9 u9 hp q9 ce9 H locs hP hD hS h91 h92 h93 => ?_) (fun r9 u9 H locs hp hP hD hS => ?_)
    · obtain ⟨hN, rfl, rfl⟩ := hp
      exact tr_pass (hnt _) hlocks h91 h92 h93 (fun t ht => ⟨(4, fmb), hw.2 hN, by have h9 := hP; rw [← ht] at h9; exact h9⟩) hS (Nat.le_of_ble_eq_true rfl) (Nat.le_of_ble_eq_true rfl)
    · obtain ⟨hN, e91, e92⟩ := hp; replace e91 := e91.symm; replace e92 := e92.symm; subst e91; subst e92
      replace hw := hw.1 hN
      have hP : va_P G.1 vwC [(h, .inr (1, [.ref m0, .ref aml, .ref amb, .ref t0, .ref atl, .ref att, .ref ate, .ref b0, .ref asb, .ref r0, .ref asr, .int 0])), (m0, .inr (0, [.int 12288, .ref m1, .ref m2, .ref m3, .int mC, .int mU])), (m1, .inl (G.2.1 0, 6, .inl mS)), (m2, .inl (G.2.1 0, 6, .inl mL)), (m3, .inl (G.2.1 2, 6, .inl mD)), (amb, .inl (G.2.1 1, 12288, .inl fmb))] H := hP
      have hD : va_D A [(h, .inr (1, [.ref m0, .ref aml, .ref amb, .ref t0, .ref atl, .ref att, .ref ate, .ref b0, .ref asb, .ref r0, .ref asr, .int 0])), (m0, .inr (0, [.int 12288, .ref m1, .ref m2, .ref m3, .int mC, .int mU])), (m1, .inl (G.2.1 0, 6, .inl mS)), (m2, .inl (G.2.1 0, 6, .inl mL)), (m3, .inl (G.2.1 2, 6, .inl mD)), (amb, .inl (G.2.1 1, 12288, .inl fmb))] := hD
      refine lv_topi (fun x_3 ex_3 => ?_)
      replace hw := hw x_3 ex_3
      refine lv_istore (lv' := [(5, .int x_3), (0, .ref h), (1, .int k), (2, .int to), (3, .int fr), (4, .int cn)]) hx hb d_Pm_copy_45 hl (by decide) rfl (fun ls hl => ?_)
      refine lv_aload_n hx hb d_Pm_copy_47 rfl (lv_at hl 1 rfl) ?_
      refine lv_aload_n hx hb d_Pm_copy_48 rfl (lv_at hl 1 rfl) ?_
      refine va_get (D := G.1) (ci := 1) (v := .ref m0) (C := R_Pm) (T := T_Pm) (N := 12) hx hb hts in_Pm hown hK hP 0 rfl rfl 0 (by decide) (hts _ fl_Pm_14) (fun _ h9 => h9) rfl d_Pm_copy_49 ?_
      refine lv_iload_n hx hb d_Pm_copy_52 rfl (lv_at hl 2 rfl) ?_
      refine lv_iload_n hx hb d_Pm_copy_53 rfl (lv_at hl 3 rfl) ?_
      have hPc := hP.sub (ws' := []) [] rfl
      refine pu_l (va_runS (As := [.int to]) (rest := [.int k, .ref m0, .ref h]) ⟨hx, hb, hml, hown, hts⟩ (c_Pm_unsigned l G to) (va_cwS 1 hts (gi_S ml_Pm_74 sm_Pm_unsigned ini_Pm co_Pm_unsigned) rfl rfl rfl (by decide +kernel) ⟨Nat.le_of_ble_eq_true rfl, Nat.le_of_ble_eq_true rfl⟩) ⟨cp_blind, cp_pre hcx hS hPc⟩ rfl rfl hl.1 rfl (lv_room (Nat.le_of_ble_eq_true rfl)) d_Pm_copy_54 ⟨Nat.le_of_ble_eq_true rfl, Nat.le_of_ble_eq_true rfl⟩) hS hP (fun H locs hP hS => ?_)
      refine lv_iload hx hb d_Pm_copy_57 (lv_at hl 5 rfl) ?_
      have hPc := hP.sub (ws' := []) [] rfl
      refine pu_l (va_runS (As := [.int cn]) (rest := [.long (u32 to), .int k, .ref m0, .ref h]) ⟨hx, hb, hml, hown, hts⟩ (c_Pm_unsigned l G cn) (va_cwS 1 hts (gi_S ml_Pm_74 sm_Pm_unsigned ini_Pm co_Pm_unsigned) rfl rfl rfl (by decide +kernel) ⟨Nat.le_of_ble_eq_true rfl, Nat.le_of_ble_eq_true rfl⟩) ⟨cp_blind, cp_pre hcx hS hPc⟩ rfl rfl hl.1 rfl (lv_room (Nat.le_of_ble_eq_true rfl)) d_Pm_copy_59 ⟨Nat.le_of_ble_eq_true rfl, Nat.le_of_ble_eq_true rfl⟩) hS hP (fun H locs hP hS => ?_)
      refine lv_iconst (v := 4) hx hb d_Pm_copy_62 (by decide) ?_
      obtain ⟨h_4, hw⟩ := hw
      have hPc := hP.sub (ws' := [(h, .inr (1, [.ref m0, .ref aml, .ref amb, .ref t0, .ref atl, .ref att, .ref ate, .ref b0, .ref asb, .ref r0, .ref asr, .int 0])), (m0, .inr (0, [.int 12288, .ref m1, .ref m2, .ref m3, .int mC, .int mU])), (m1, .inl (G.2.1 0, 6, .inl mS)), (m2, .inl (G.2.1 0, 6, .inl mL)), (m3, .inl (G.2.1 2, 6, .inl mD))]) [0, 1, 2, 3, 4] rfl
      have hDc := hD.sub (ws' := [(h, .inr (1, [.ref m0, .ref aml, .ref amb, .ref t0, .ref atl, .ref att, .ref ate, .ref b0, .ref asb, .ref r0, .ref asr, .int 0])), (m0, .inr (0, [.int 12288, .ref m1, .ref m2, .ref m3, .int mC, .int mU])), (m1, .inl (G.2.1 0, 6, .inl mS)), (m2, .inl (G.2.1 0, 6, .inl mL)), (m3, .inl (G.2.1 2, 6, .inl mD))]) [0, 1, 2, 3, 4] (by decide) rfl
      have hFc := va_free (wc := [(h, .inr (1, [.ref m0, .ref aml, .ref amb, .ref t0, .ref atl, .ref att, .ref ate, .ref b0, .ref asb, .ref r0, .ref asr, .int 0])), (m0, .inr (0, [.int 12288, .ref m1, .ref m2, .ref m3, .int mC, .int mU])), (m1, .inl (G.2.1 0, 6, .inl mS)), (m2, .inl (G.2.1 0, 6, .inl mL)), (m3, .inl (G.2.1 2, 6, .inl mD))]) hD hS hA [0, 1, 2, 3, 4] rfl
      refine tx_i (tr_runV (As := [.ref m0, .int k, .long (u32 to), .long (u32 cn), .int 4]) (rest := []) ⟨hx, hb, hml, hown, hts⟩ (c_Pm_placeOf l hst G h m0 aml amb t0 atl att ate b0 asb r0 asr m0 m1 m2 m3 6 0 12288 mC mU mS mL mD k (u32 to) (u32 cn) 4 _ h_4) (cwV 5 hts (gi_V ml_Pm_113 im_Pm_placeOf se_Pm_placeOf ini_Pm co_Pm_placeOf) rfl rfl rfl (by decide +kernel) ⟨Nat.le_of_ble_eq_true rfl, Nat.le_of_ble_eq_true rfl⟩) ⟨cm_blind, va_recv hK hPc (ci := 1) (q0 := 0) rfl rfl, cm_pre hcx hS hPc hDc hFc⟩ rfl rfl hl.1 rfl (lv_room (Nat.le_of_ble_eq_true rfl)) d_Pm_copy_63 ⟨Nat.le_of_ble_eq_true rfl, Nat.le_of_ble_eq_true rfl⟩) hS hP hD hA [0, 1, 2, 3, 4] rfl (fun _ => rfl) (fun _ => rfl) (fun E9 u9 hp q9 ce9 H locs hP hD hS h91 h92 h93 => ?_) (fun r9 u9 H locs hp hP hD hS => ?_)
      · obtain ⟨hN, rfl, rfl⟩ := hp
        exact tr_pass (hnt _) hlocks h91 h92 h93 (fun t ht => ⟨(4, fmb), hw.2 hN, by have h9 := hP; rw [← ht] at h9; exact h9⟩) hS (Nat.le_of_ble_eq_true rfl) (Nat.le_of_ble_eq_true rfl)
      · obtain ⟨hN, e91, e92⟩ := hp; replace e91 := e91.symm; replace e92 := e92.symm; subst e91; subst e92
        replace hw := hw.1 hN
        have hP : va_P G.1 vwC [(h, .inr (1, [.ref m0, .ref aml, .ref amb, .ref t0, .ref atl, .ref att, .ref ate, .ref b0, .ref asb, .ref r0, .ref asr, .int 0])), (m0, .inr (0, [.int 12288, .ref m1, .ref m2, .ref m3, .int mC, .int mU])), (m1, .inl (G.2.1 0, 6, .inl mS)), (m2, .inl (G.2.1 0, 6, .inl mL)), (m3, .inl (G.2.1 2, 6, .inl mD)), (amb, .inl (G.2.1 1, 12288, .inl fmb))] H := hP
        have hD : va_D A [(h, .inr (1, [.ref m0, .ref aml, .ref amb, .ref t0, .ref atl, .ref att, .ref ate, .ref b0, .ref asb, .ref r0, .ref asr, .int 0])), (m0, .inr (0, [.int 12288, .ref m1, .ref m2, .ref m3, .int mC, .int mU])), (m1, .inl (G.2.1 0, 6, .inl mS)), (m2, .inl (G.2.1 0, 6, .inl mL)), (m3, .inl (G.2.1 2, 6, .inl mD)), (amb, .inl (G.2.1 1, 12288, .inl fmb))] := hD
        refine lv_topi (fun x_5 ex_5 => ?_)
        replace hw := hw x_5 ex_5
        refine lv_istore (lv' := [(6, .int x_5), (5, .int x_3), (0, .ref h), (1, .int k), (2, .int to), (3, .int fr), (4, .int cn)]) hx hb d_Pm_copy_66 hl (by decide) rfl (fun ls hl => ?_)
        refine lv_aload_n hx hb d_Pm_copy_68 rfl (lv_at hl 2 rfl) ?_
        refine va_get (D := G.1) (ci := 1) (v := .ref amb) (C := R_Pm) (T := T_Pm) (N := 12) hx hb hts in_Pm hown hK hP 0 rfl rfl 2 (by decide) (hts _ fl_Pm_22) (fun _ h9 => h9) rfl d_Pm_copy_69 ?_
        refine lv_iload hx hb d_Pm_copy_72 (lv_at hl 1 rfl) ?_
        refine lv_aload_n hx hb d_Pm_copy_74 rfl (lv_at hl 2 rfl) ?_
        refine va_get (D := G.1) (ci := 1) (v := .ref amb) (C := R_Pm) (T := T_Pm) (N := 12) hx hb hts in_Pm hown hK hP 0 rfl rfl 2 (by decide) (hts _ fl_Pm_22) (fun _ h9 => h9) rfl d_Pm_copy_75 ?_
        refine lv_iload hx hb d_Pm_copy_78 (lv_at hl 0 rfl) ?_
        refine lv_iload hx hb d_Pm_copy_80 (lv_at hl 6 rfl) ?_
        obtain ⟨h_6, h_7, h_8, h_9, h_10, h_11, hw⟩ := hw
        obtain ⟨a_12, ea_12⟩ : ∃ z, z = va_cpy fmb fmb x_3.toNatClampNeg x_5.toNatClampNeg cn.toNatClampNeg := ⟨_, rfl⟩
        replace hw := hw a_12 ea_12
        refine va_copyi (ty := .byte) hx hb (hml.trans hl.1.symm) hown (hts _ ml_Pm_84) (hts _ nt_arraycopy) (hts _ sm_arraycopy) (hts _ ini_System) hK hP hD hS 5 5 1 1 rfl rfl rfl rfl rfl h_6 h_7 h_8 h_9 h_10 h_11 (Nat.le_of_ble_eq_true rfl) (Nat.le_of_ble_eq_true rfl) d_Pm_copy_82 (fun H locs hP hD hS => ?_)
        rw [← ea_12] at hP hD
        have hP : va_P G.1 vwC [(h, .inr (1, [.ref m0, .ref aml, .ref amb, .ref t0, .ref atl, .ref att, .ref ate, .ref b0, .ref asb, .ref r0, .ref asr, .int 0])), (m0, .inr (0, [.int 12288, .ref m1, .ref m2, .ref m3, .int mC, .int mU])), (m1, .inl (G.2.1 0, 6, .inl mS)), (m2, .inl (G.2.1 0, 6, .inl mL)), (m3, .inl (G.2.1 2, 6, .inl mD)), (amb, .inl (G.2.1 1, 12288, .inl a_12))] H := hP
        have hD : va_D A [(h, .inr (1, [.ref m0, .ref aml, .ref amb, .ref t0, .ref atl, .ref att, .ref ate, .ref b0, .ref asb, .ref r0, .ref asr, .int 0])), (m0, .inr (0, [.int 12288, .ref m1, .ref m2, .ref m3, .int mC, .int mU])), (m1, .inl (G.2.1 0, 6, .inl mS)), (m2, .inl (G.2.1 0, 6, .inl mL)), (m3, .inl (G.2.1 2, 6, .inl mD)), (amb, .inl (G.2.1 1, 12288, .inl a_12))] := hD
        exact tr_ret (W.vret hx hb hr (fun t ht hW => ⟨⟨(0, a_12), rfl, hw, by have h9 := hP; rw [← ht] at h9; exact h9⟩, hS.F ht⟩) hS.2.2 d_Pm_copy_85)
  · replace hw := hw.2 c_1
    exact tr_throw hx hb hst hown (by decide +kernel) (by decide +kernel) (hcx.imp (fun V h => tw_ill_132 V h)) hS (hl.1.trans hml.symm) d_Pm_copy_16 d_Pm_copy_19 d_Pm_copy_20 d_Pm_copy_22 d_Pm_copy_25 (hnt _) (Nat.le_of_ble_eq_true rfl) (Nat.le_of_ble_eq_true rfl) (Nat.le_of_ble_eq_true rfl) (Nat.le_of_ble_eq_true rfl) hlocks (fun t h1 h2 => ⟨(0, fmb), hw, hP.kept fun k q hq => h2 q.1 (hP k q hq).lt⟩) hA (Nat.le_of_ble_eq_true rfl) (Nat.le_of_ble_eq_true rfl)
def wp_Pm_init (post : (Int32 × (Nat → Int32)) → Prop) (postx : String → (Int32 × (Nat → Int32)) → Prop) (trp : Int32) (mC : Int32) (mU : Int32) (mS : Nat → Int32) (mL : Nat → Int32) (mD : Nat → Int32) (bC : Int32) (bU : Int32) (bS : Nat → Int32) (bL : Nat → Int32) (bD : Nat → Int32) (fmb : Nat → Int32) (fsb : Nat → Int32) (k : Int32) (sg : Int32) (to : Int32) (fr : Int32) (cn : Int32) : Prop := ((ly_has mC k = 0 → (postx E_ill (0, fmb))) ∧ (¬ ly_has mC k = 0 → (((¬ ly_has bC sg = 0 → ((bC.toInt ≤ 24) ∧ (((lg_cmp ((u32 fr) + (u32 cn)) (ly_ln bC sg bL).toInt64 ≤ 0 → (∀ x_4 : Int32, x_4 = ly_st bC sg bS + (u32 fr).toInt32 → ((mC.toInt ≤ 6) ∧ (((lg_cmp ((u32 to) + (u32 cn)) (ly_ln mC k mL).toInt64 ≤ 0 → (∀ x_6 : Int32, x_6 = ly_st mC k mS + (u32 to).toInt32 → ((¬ x_4 < 0) ∧ (¬ x_6 < 0) ∧ (¬ cn < 0) ∧ (x_4.toNatClampNeg + cn.toNatClampNeg ≤ 600) ∧ (x_6.toNatClampNeg + cn.toNatClampNeg ≤ 12288) ∧ (∀ i, i < cn.toNatClampNeg → fits .byte (.int (fsb (x_4.toNatClampNeg + i))) = true) ∧ ∀ a_13 : Nat → Int32, a_13 = va_cpy fsb fmb x_4.toNatClampNeg x_6.toNatClampNeg cn.toNatClampNeg → (post (0, a_13))))) ∧ (¬ lg_cmp ((u32 to) + (u32 cn)) (ly_ln mC k mL).toInt64 ≤ 0 → (postx E_uns (4, fmb)))))))) ∧ (¬ lg_cmp ((u32 fr) + (u32 cn)) (ly_ln bC sg bL).toInt64 ≤ 0 → (postx E_uns (4, fmb))))))) ∧ (ly_has bC sg = 0 → (postx E_ill (0, fmb)))))))
set_option maxHeartbeats 4000000 in
set_option maxRecDepth 100000 in
theorem t_Pm_init (l : Launch) (hst : l.stackTraces = false) (G : cxT) (h : Nat) (m0 : Nat) (aml : Nat) (amb : Nat) (t0 : Nat) (atl : Nat) (att : Nat) (ate : Nat) (b0 : Nat) (asb : Nat) (r0 : Nat) (asr : Nat) (m1 : Nat) (m2 : Nat) (m3 : Nat) (b1 : Nat) (b2 : Nat) (b3 : Nat) (trp : Int32) (mC : Int32) (mU : Int32) (mS : Nat → Int32) (mL : Nat → Int32) (mD : Nat → Int32) (bC : Int32) (bU : Int32) (bS : Nat → Int32) (bL : Nat → Int32) (bD : Nat → Int32) (fmb : Nat → Int32) (fsb : Nat → Int32) (k : Int32) (sg : Int32) (to : Int32) (fr : Int32) (cn : Int32) (sz : Nat) (post : (Int32 × (Nat → Int32)) → Prop) (postx : String → (Int32 × (Nat → Int32)) → Prop) (hw : wp_Pm_init post postx trp mC mU mS mL mD bC bU bS bL bD fmb fsb k sg to fr cn) : tr_Met l y_Pm_init [.code y_Pm_init b_Pm_init 8 none] ({ frames := 8, cells := 2, slots := 12, locals := 140 } : Room) (cm G [.ref h, .int k, .int sg, .int to, .int fr, .int cn] [(h, .inr (1, [.ref m0, .ref aml, .ref amb, .ref t0, .ref atl, .ref att, .ref ate, .ref b0, .ref asb, .ref r0, .ref asr, .int trp])), (m0, .inr (0, [.int 12288, .ref m1, .ref m2, .ref m3, .int mC, .int mU])), (m1, .inl (G.2.1 0, 6, .inl mS)), (m2, .inl (G.2.1 0, 6, .inl mL)), (m3, .inl (G.2.1 2, 6, .inl mD)), (b0, .inr (0, [.int 600, .ref b1, .ref b2, .ref b3, .int bC, .int bU])), (b1, .inl (G.2.1 0, 24, .inl bS)), (b2, .inl (G.2.1 0, 24, .inl bL)), (b3, .inl (G.2.1 2, 24, .inl bD)), (amb, .inl (G.2.1 1, 12288, .inl fmb)), (asb, .inl (G.2.1 1, 600, .inl fsb))] sz) (va_Qv post (fun u t => va_P G.1 vwC [(h, .inr (1, [.ref m0, .ref aml, .ref amb, .ref t0, .ref atl, .ref att, .ref ate, .ref b0, .ref asb, .ref r0, .ref asr, .int u.1])), (m0, .inr (0, [.int 12288, .ref m1, .ref m2, .ref m3, .int mC, .int mU])), (m1, .inl (G.2.1 0, 6, .inl mS)), (m2, .inl (G.2.1 0, 6, .inl mL)), (m3, .inl (G.2.1 2, 6, .inl mD)), (b0, .inr (0, [.int 600, .ref b1, .ref b2, .ref b3, .int bC, .int bU])), (b1, .inl (G.2.1 0, 24, .inl bS)), (b2, .inl (G.2.1 0, 24, .inl bL)), (b3, .inl (G.2.1 2, 24, .inl bD)), (amb, .inl (G.2.1 1, 12288, .inl u.2)), (asb, .inl (G.2.1 1, 600, .inl fsb))] t.heap) (va_A [(h, .inr (1, [.ref m0, .ref aml, .ref amb, .ref t0, .ref atl, .ref att, .ref ate, .ref b0, .ref asb, .ref r0, .ref asr, .int trp])), (m0, .inr (0, [.int 12288, .ref m1, .ref m2, .ref m3, .int mC, .int mU])), (m1, .inl (G.2.1 0, 6, .inl mS)), (m2, .inl (G.2.1 0, 6, .inl mL)), (m3, .inl (G.2.1 2, 6, .inl mD)), (b0, .inr (0, [.int 600, .ref b1, .ref b2, .ref b3, .int bC, .int bU])), (b1, .inl (G.2.1 0, 24, .inl bS)), (b2, .inl (G.2.1 0, 24, .inl bL)), (b3, .inl (G.2.1 2, 24, .inl bD)), (amb, .inl (G.2.1 1, 12288, .inl fmb)), (asb, .inl (G.2.1 1, 600, .inl fsb))] sz)) (fun E t => ∃ u : Int32 × (Nat → Int32), postx E u ∧ va_P G.1 vwC [(h, .inr (1, [.ref m0, .ref aml, .ref amb, .ref t0, .ref atl, .ref att, .ref ate, .ref b0, .ref asb, .ref r0, .ref asr, .int u.1])), (m0, .inr (0, [.int 12288, .ref m1, .ref m2, .ref m3, .int mC, .int mU])), (m1, .inl (G.2.1 0, 6, .inl mS)), (m2, .inl (G.2.1 0, 6, .inl mL)), (m3, .inl (G.2.1 2, 6, .inl mD)), (b0, .inr (0, [.int 600, .ref b1, .ref b2, .ref b3, .int bC, .int bU])), (b1, .inl (G.2.1 0, 24, .inl bS)), (b2, .inl (G.2.1 0, 24, .inl bL)), (b3, .inl (G.2.1 2, 24, .inl bD)), (amb, .inl (G.2.1 1, 12288, .inl u.2)), (asb, .inl (G.2.1 1, 600, .inl fsb))] t.heap) (va_A [(h, .inr (1, [.ref m0, .ref aml, .ref amb, .ref t0, .ref atl, .ref att, .ref ate, .ref b0, .ref asb, .ref r0, .ref asr, .int trp])), (m0, .inr (0, [.int 12288, .ref m1, .ref m2, .ref m3, .int mC, .int mU])), (m1, .inl (G.2.1 0, 6, .inl mS)), (m2, .inl (G.2.1 0, 6, .inl mL)), (m3, .inl (G.2.1 2, 6, .inl mD)), (b0, .inr (0, [.int 600, .ref b1, .ref b2, .ref b3, .int bC, .int bU])), (b1, .inl (G.2.1 0, 24, .inl bS)), (b2, .inl (G.2.1 0, 24, .inl bL)), (b3, .inl (G.2.1 2, 24, .inl bD)), (amb, .inl (G.2.1 1, 12288, .inl fmb)), (asb, .inl (G.2.1 1, 600, .inl fsb))] sz) 2 12 := by
  refine tr_ofW (cc := b_Pm_init) (maxL := 8) (ret := none) (by decide +kernel) rfl ?_
  intro p e s m args below meth c s₁ B hml hv
  obtain ⟨rfl, hsz, hcx, hP, hD0⟩ := hv
  have hx := B.exec
  have hb := B.bytes
  have hr := B.returns
  have hlocks := B.notSynchronized
  have hown : s.vm.findClass R_Pm = some m.cls := findClass_of_methodNamed B.named
  have hnt := tr_nt (ws := [.code y_Pm_init b_Pm_init 8 none]) (rm := ({ frames := 8, cells := 2, slots := 12, locals := 140 } : Room)) B rfl
  subst hsz
  have hD := hD0.self (sz := s.heap.size)
  generalize hAe : va_A [(h, .inr (1, [.ref m0, .ref aml, .ref amb, .ref t0, .ref atl, .ref att, .ref ate, .ref b0, .ref asb, .ref r0, .ref asr, .int trp])), (m0, .inr (0, [.int 12288, .ref m1, .ref m2, .ref m3, .int mC, .int mU])), (m1, .inl (G.2.1 0, 6, .inl mS)), (m2, .inl (G.2.1 0, 6, .inl mL)), (m3, .inl (G.2.1 2, 6, .inl mD)), (b0, .inr (0, [.int 600, .ref b1, .ref b2, .ref b3, .int bC, .int bU])), (b1, .inl (G.2.1 0, 24, .inl bS)), (b2, .inl (G.2.1 0, 24, .inl bL)), (b3, .inl (G.2.1 2, 24, .inl bD)), (amb, .inl (G.2.1 1, 12288, .inl fmb)), (asb, .inl (G.2.1 1, 600, .inl fsb))] s.heap.size = A at hD hcx ⊢
  have hA : ∀ q : Nat, s.heap.size ≤ q → A q := fun q h => by rw [← hAe]; exact Or.inr h
  have hS : va_S A s.heap s.heap [] := va_S.rf
  have hts := hcx.now.1 [.ref h, .int k, .int sg, .int to, .int fr, .int cn].toArray
  have hK := hcx.now.2.1
  have hl := lv_entry ([.ref h, .int k, .int sg, .int to, .int fr, .int cn]) (n := 8) (Nat.le_of_ble_eq_true rfl)
  rw [lg_entry_eq]
  generalize (lg_sl ([.ref h, .int k, .int sg, .int to, .int fr, .int cn]) ++ List.replicate (8 - (lg_sl ([.ref h, .int k, .int sg, .int to, .int fr, .int cn])).length) Slot.unset).toArray = ls at hl ⊢
  have hl : lv_has ls 8 [(0, .ref h), (1, .int k), (2, .int sg), (3, .int to), (4, .int fr), (5, .int cn)] := hl
  unfold wp_Pm_init at hw
  refine lv_aload_n hx hb d_Pm_init_0 rfl (lv_at hl 0 rfl) ?_
  refine lv_iconst (v := 0) hx hb d_Pm_init_1 (by decide) ?_
  refine va_put (D := G.1) (ci := 1) (v := .int 0) (ty := (.int)) (C := R_Pm) (T := T_Pm) (N := 12) hx hb hts in_Pm ty_Pm tk_Pm nm_Pm hown hK hP hD hS 0 rfl rfl 11 (by decide) (hts _ fl_Pm_50) (fun _ h9 => h9) rfl (by decide +kernel) rfl rfl (Nat.le_of_ble_eq_true rfl) d_Pm_init_2 (fun H locs hP hD hS => ?_)
  have hP : va_P G.1 vwC [(h, .inr (1, [.ref m0, .ref aml, .ref amb, .ref t0, .ref atl, .ref att, .ref ate, .ref b0, .ref asb, .ref r0, .ref asr, .int 0])), (m0, .inr (0, [.int 12288, .ref m1, .ref m2, .ref m3, .int mC, .int mU])), (m1, .inl (G.2.1 0, 6, .inl mS)), (m2, .inl (G.2.1 0, 6, .inl mL)), (m3, .inl (G.2.1 2, 6, .inl mD)), (b0, .inr (0, [.int 600, .ref b1, .ref b2, .ref b3, .int bC, .int bU])), (b1, .inl (G.2.1 0, 24, .inl bS)), (b2, .inl (G.2.1 0, 24, .inl bL)), (b3, .inl (G.2.1 2, 24, .inl bD)), (amb, .inl (G.2.1 1, 12288, .inl fmb)), (asb, .inl (G.2.1 1, 600, .inl fsb))] H := hP
  have hD : va_D A [(h, .inr (1, [.ref m0, .ref aml, .ref amb, .ref t0, .ref atl, .ref att, .ref ate, .ref b0, .ref asb, .ref r0, .ref asr, .int 0])), (m0, .inr (0, [.int 12288, .ref m1, .ref m2, .ref m3, .int mC, .int mU])), (m1, .inl (G.2.1 0, 6, .inl mS)), (m2, .inl (G.2.1 0, 6, .inl mL)), (m3, .inl (G.2.1 2, 6, .inl mD)), (b0, .inr (0, [.int 600, .ref b1, .ref b2, .ref b3, .int bC, .int bU])), (b1, .inl (G.2.1 0, 24, .inl bS)), (b2, .inl (G.2.1 0, 24, .inl bL)), (b3, .inl (G.2.1 2, 24, .inl bD)), (amb, .inl (G.2.1 1, 12288, .inl fmb)), (asb, .inl (G.2.1 1, 600, .inl fsb))] := hD
  refine lv_aload_n hx hb d_Pm_init_5 rfl (lv_at hl 0 rfl) ?_
  refine va_get (D := G.1) (ci := 1) (v := .ref m0) (C := R_Pm) (T := T_Pm) (N := 12) hx hb hts in_Pm hown hK hP 0 rfl rfl 0 (by decide) (hts _ fl_Pm_14) (fun _ h9 => h9) rfl d_Pm_init_6 ?_
  refine lv_iload_n hx hb d_Pm_init_9 rfl (lv_at hl 1 rfl) ?_
  have hPc := hP.sub (ws' := [(m0, .inr (0, [.int 12288, .ref m1, .ref m2, .ref m3, .int mC, .int mU])), (m1, .inl (G.2.1 0, 6, .inl mS)), (m2, .inl (G.2.1 0, 6, .inl mL)), (m3, .inl (G.2.1 2, 6, .inl mD))]) [1, 2, 3, 4] rfl
  refine pu_i (va_runV (As := [.int k]) (rest := []) ⟨hx, hb, hml, hown, hts⟩ (c_Ly_has l G m0 m1 m2 m3 6 12288 mC mU mS mL mD k) (cwV 1 hts (gi_V ml_Pm_67 im_Ly_has se_Ly_has ini_Ly co_Ly_has) rfl rfl rfl (by decide +kernel) ⟨Nat.le_of_ble_eq_true rfl, Nat.le_of_ble_eq_true rfl⟩) ⟨cp_blind, va_recv hK hPc (ci := 0) (q0 := 0) rfl rfl, cp_pre hcx hS hPc⟩ rfl rfl hl.1 rfl (lv_room (Nat.le_of_ble_eq_true rfl)) d_Pm_init_10 ⟨Nat.le_of_ble_eq_true rfl, Nat.le_of_ble_eq_true rfl⟩) hS hP (fun H locs hP hS => ?_)
  refine lv_if_eq (tgt := 27) hx hb d_Pm_init_13 (by decide) (fun c_1 => ?_) (fun c_1 => ?_)
  · replace hw := hw.1 c_1
    exact tr_throw hx hb hst hown (by decide +kernel) (by decide +kernel) (hcx.imp (fun V h => tw_ill_134 V h)) hS (hl.1.trans hml.symm) d_Pm_init_27 d_Pm_init_30 d_Pm_init_31 d_Pm_init_33 d_Pm_init_36 (hnt _) (Nat.le_of_ble_eq_true rfl) (Nat.le_of_ble_eq_true rfl) (Nat.le_of_ble_eq_true rfl) (Nat.le_of_ble_eq_true rfl) hlocks (fun t h1 h2 => ⟨(0, fmb), hw, hP.kept fun k q hq => h2 q.1 (hP k q hq).lt⟩) hA (Nat.le_of_ble_eq_true rfl) (Nat.le_of_ble_eq_true rfl)
  · replace hw := hw.2 c_1
    refine lv_aload_n hx hb d_Pm_init_16 rfl (lv_at hl 0 rfl) ?_
    refine va_get (D := G.1) (ci := 1) (v := .ref b0) (C := R_Pm) (T := T_Pm) (N := 12) hx hb hts in_Pm hown hK hP 0 rfl rfl 7 (by decide) (hts _ fl_Pm_38) (fun _ h9 => h9) rfl d_Pm_init_17 ?_
    refine lv_iload_n hx hb d_Pm_init_20 rfl (lv_at hl 2 rfl) ?_
    have hPc := hP.sub (ws' := [(b0, .inr (0, [.int 600, .ref b1, .ref b2, .ref b3, .int bC, .int bU])), (b1, .inl (G.2.1 0, 24, .inl bS)), (b2, .inl (G.2.1 0, 24, .inl bL)), (b3, .inl (G.2.1 2, 24, .inl bD))]) [5, 6, 7, 8] rfl
    refine pu_i (va_runV (As := [.int sg]) (rest := []) ⟨hx, hb, hml, hown, hts⟩ (c_Ly_has l G b0 b1 b2 b3 24 600 bC bU bS bL bD sg) (cwV 1 hts (gi_V ml_Pm_67 im_Ly_has se_Ly_has ini_Ly co_Ly_has) rfl rfl rfl (by decide +kernel) ⟨Nat.le_of_ble_eq_true rfl, Nat.le_of_ble_eq_true rfl⟩) ⟨cp_blind, va_recv hK hPc (ci := 0) (q0 := 0) rfl rfl, cp_pre hcx hS hPc⟩ rfl rfl hl.1 rfl (lv_room (Nat.le_of_ble_eq_true rfl)) d_Pm_init_21 ⟨Nat.le_of_ble_eq_true rfl, Nat.le_of_ble_eq_true rfl⟩) hS hP (fun H locs hP hS => ?_)
    refine lv_if_ne (tgt := 37) hx hb d_Pm_init_24 (by decide) (fun c_2 => ?_) (fun c_2 => ?_)
    · replace hw := hw.1 c_2
      refine lv_aload_n hx hb d_Pm_init_37 rfl (lv_at hl 0 rfl) ?_
      refine lv_aload_n hx hb d_Pm_init_38 rfl (lv_at hl 0 rfl) ?_
      refine va_get (D := G.1) (ci := 1) (v := .ref b0) (C := R_Pm) (T := T_Pm) (N := 12) hx hb hts in_Pm hown hK hP 0 rfl rfl 7 (by decide) (hts _ fl_Pm_38) (fun _ h9 => h9) rfl d_Pm_init_39 ?_
      refine lv_iload_n hx hb d_Pm_init_42 rfl (lv_at hl 2 rfl) ?_
      refine lv_iload hx hb d_Pm_init_43 (lv_at hl 4 rfl) ?_
      have hPc := hP.sub (ws' := []) [] rfl
      refine pu_l (va_runS (As := [.int fr]) (rest := [.int sg, .ref b0, .ref h]) ⟨hx, hb, hml, hown, hts⟩ (c_Pm_unsigned l G fr) (va_cwS 1 hts (gi_S ml_Pm_74 sm_Pm_unsigned ini_Pm co_Pm_unsigned) rfl rfl rfl (by decide +kernel) ⟨Nat.le_of_ble_eq_true rfl, Nat.le_of_ble_eq_true rfl⟩) ⟨cp_blind, cp_pre hcx hS hPc⟩ rfl rfl hl.1 rfl (lv_room (Nat.le_of_ble_eq_true rfl)) d_Pm_init_45 ⟨Nat.le_of_ble_eq_true rfl, Nat.le_of_ble_eq_true rfl⟩) hS hP (fun H locs hP hS => ?_)
      refine lv_iload hx hb d_Pm_init_48 (lv_at hl 5 rfl) ?_
      have hPc := hP.sub (ws' := []) [] rfl
      refine pu_l (va_runS (As := [.int cn]) (rest := [.long (u32 fr), .int sg, .ref b0, .ref h]) ⟨hx, hb, hml, hown, hts⟩ (c_Pm_unsigned l G cn) (va_cwS 1 hts (gi_S ml_Pm_74 sm_Pm_unsigned ini_Pm co_Pm_unsigned) rfl rfl rfl (by decide +kernel) ⟨Nat.le_of_ble_eq_true rfl, Nat.le_of_ble_eq_true rfl⟩) ⟨cp_blind, cp_pre hcx hS hPc⟩ rfl rfl hl.1 rfl (lv_room (Nat.le_of_ble_eq_true rfl)) d_Pm_init_50 ⟨Nat.le_of_ble_eq_true rfl, Nat.le_of_ble_eq_true rfl⟩) hS hP (fun H locs hP hS => ?_)
      refine lv_iconst (v := 4) hx hb d_Pm_init_53 (by decide) ?_
      obtain ⟨h_3, hw⟩ := hw
      have hPc := hP.sub (ws' := [(h, .inr (1, [.ref m0, .ref aml, .ref amb, .ref t0, .ref atl, .ref att, .ref ate, .ref b0, .ref asb, .ref r0, .ref asr, .int 0])), (b0, .inr (0, [.int 600, .ref b1, .ref b2, .ref b3, .int bC, .int bU])), (b1, .inl (G.2.1 0, 24, .inl bS)), (b2, .inl (G.2.1 0, 24, .inl bL)), (b3, .inl (G.2.1 2, 24, .inl bD))]) [0, 5, 6, 7, 8] rfl
      have hDc := hD.sub (ws' := [(h, .inr (1, [.ref m0, .ref aml, .ref amb, .ref t0, .ref atl, .ref att, .ref ate, .ref b0, .ref asb, .ref r0, .ref asr, .int 0])), (b0, .inr (0, [.int 600, .ref b1, .ref b2, .ref b3, .int bC, .int bU])), (b1, .inl (G.2.1 0, 24, .inl bS)), (b2, .inl (G.2.1 0, 24, .inl bL)), (b3, .inl (G.2.1 2, 24, .inl bD))]) [0, 5, 6, 7, 8] (by decide) rfl
      have hFc := va_free (wc := [(h, .inr (1, [.ref m0, .ref aml, .ref amb, .ref t0, .ref atl, .ref att, .ref ate, .ref b0, .ref asb, .ref r0, .ref asr, .int 0])), (b0, .inr (0, [.int 600, .ref b1, .ref b2, .ref b3, .int bC, .int bU])), (b1, .inl (G.2.1 0, 24, .inl bS)), (b2, .inl (G.2.1 0, 24, .inl bL)), (b3, .inl (G.2.1 2, 24, .inl bD))]) hD hS hA [0, 5, 6, 7, 8] rfl
      refine tx_i (tr_runV (As := [.ref b0, .int sg, .long (u32 fr), .long (u32 cn), .int 4]) (rest := []) ⟨hx, hb, hml, hown, hts⟩ (c_Pm_placeOf l hst G h m0 aml amb t0 atl att ate b0 asb r0 asr b0 b1 b2 b3 24 0 600 bC bU bS bL bD sg (u32 fr) (u32 cn) 4 _ h_3) (cwV 5 hts (gi_V ml_Pm_113 im_Pm_placeOf se_Pm_placeOf ini_Pm co_Pm_placeOf) rfl rfl rfl (by decide +kernel) ⟨Nat.le_of_ble_eq_true rfl, Nat.le_of_ble_eq_true rfl⟩) ⟨cm_blind, va_recv hK hPc (ci := 1) (q0 := 0) rfl rfl, cm_pre hcx hS hPc hDc hFc⟩ rfl rfl hl.1 rfl (lv_room (Nat.le_of_ble_eq_true rfl)) d_Pm_init_54 ⟨Nat.le_of_ble_eq_true rfl, Nat.le_of_ble_eq_true rfl⟩) hS hP hD hA [0, 5, 6, 7, 8] rfl (fun _ => rfl) (fun _ => rfl) (fun E9 u9 hp q9 ce9 H locs hP hD hS h91 h92 h93 => ?_) (fun r9 u9 H locs hp hP hD hS => ?_)
      · obtain ⟨hN, rfl, rfl⟩ := hp
        exact tr_pass (hnt _) hlocks h91 h92 h93 (fun t ht => ⟨(4, fmb), hw.2 hN, by have h9 := hP; rw [← ht] at h9; exact h9⟩) hS (Nat.le_of_ble_eq_true rfl) (Nat.le_of_ble_eq_true rfl)
      · obtain ⟨hN, e91, e92⟩ := hp; replace e91 := e91.symm; replace e92 := e92.symm; subst e91; subst e92
        replace hw := hw.1 hN
        have hP : va_P G.1 vwC [(h, .inr (1, [.ref m0, .ref aml, .ref amb, .ref t0, .ref atl, .ref att, .ref ate, .ref b0, .ref asb, .ref r0, .ref asr, .int 0])), (m0, .inr (0, [.int 12288, .ref m1, .ref m2, .ref m3, .int mC, .int mU])), (m1, .inl (G.2.1 0, 6, .inl mS)), (m2, .inl (G.2.1 0, 6, .inl mL)), (m3, .inl (G.2.1 2, 6, .inl mD)), (b0, .inr (0, [.int 600, .ref b1, .ref b2, .ref b3, .int bC, .int bU])), (b1, .inl (G.2.1 0, 24, .inl bS)), (b2, .inl (G.2.1 0, 24, .inl bL)), (b3, .inl (G.2.1 2, 24, .inl bD)), (amb, .inl (G.2.1 1, 12288, .inl fmb)), (asb, .inl (G.2.1 1, 600, .inl fsb))] H := hP
        have hD : va_D A [(h, .inr (1, [.ref m0, .ref aml, .ref amb, .ref t0, .ref atl, .ref att, .ref ate, .ref b0, .ref asb, .ref r0, .ref asr, .int 0])), (m0, .inr (0, [.int 12288, .ref m1, .ref m2, .ref m3, .int mC, .int mU])), (m1, .inl (G.2.1 0, 6, .inl mS)), (m2, .inl (G.2.1 0, 6, .inl mL)), (m3, .inl (G.2.1 2, 6, .inl mD)), (b0, .inr (0, [.int 600, .ref b1, .ref b2, .ref b3, .int bC, .int bU])), (b1, .inl (G.2.1 0, 24, .inl bS)), (b2, .inl (G.2.1 0, 24, .inl bL)), (b3, .inl (G.2.1 2, 24, .inl bD)), (amb, .inl (G.2.1 1, 12288, .inl fmb)), (asb, .inl (G.2.1 1, 600, .inl fsb))] := hD
        refine lv_topi (fun x_4 ex_4 => ?_)
        replace hw := hw x_4 ex_4
        refine lv_istore (lv' := [(6, .int x_4), (0, .ref h), (1, .int k), (2, .int sg), (3, .int to), (4, .int fr), (5, .int cn)]) hx hb d_Pm_init_57 hl (by decide) rfl (fun ls hl => ?_)
        refine lv_aload_n hx hb d_Pm_init_59 rfl (lv_at hl 1 rfl) ?_
        refine lv_aload_n hx hb d_Pm_init_60 rfl (lv_at hl 1 rfl) ?_
        refine va_get (D := G.1) (ci := 1) (v := .ref m0) (C := R_Pm) (T := T_Pm) (N := 12) hx hb hts in_Pm hown hK hP 0 rfl rfl 0 (by decide) (hts _ fl_Pm_14) (fun _ h9 => h9) rfl d_Pm_init_61 ?_
        refine lv_iload_n hx hb d_Pm_init_64 rfl (lv_at hl 2 rfl) ?_
        refine lv_iload_n hx hb d_Pm_init_65 rfl (lv_at hl 4 rfl) ?_
        have hPc := hP.sub (ws' := []) [] rfl
        refine pu_l (va_runS (As := [.int to]) (rest := [.int k, .ref m0, .ref h]) ⟨hx, hb, hml, hown, hts⟩ (c_Pm_unsigned l G to) (va_cwS 1 hts (gi_S ml_Pm_74 sm_Pm_unsigned ini_Pm co_Pm_unsigned) rfl rfl rfl (by decide +kernel) ⟨Nat.le_of_ble_eq_true rfl, Nat.le_of_ble_eq_true rfl⟩) ⟨cp_blind, cp_pre hcx hS hPc⟩ rfl rfl hl.1 rfl (lv_room (Nat.le_of_ble_eq_true rfl)) d_Pm_init_66 ⟨Nat.le_of_ble_eq_true rfl, Nat.le_of_ble_eq_true rfl⟩) hS hP (fun H locs hP hS => ?_)
        refine lv_iload hx hb d_Pm_init_69 (lv_at hl 6 rfl) ?_
        have hPc := hP.sub (ws' := []) [] rfl
        refine pu_l (va_runS (As := [.int cn]) (rest := [.long (u32 to), .int k, .ref m0, .ref h]) ⟨hx, hb, hml, hown, hts⟩ (c_Pm_unsigned l G cn) (va_cwS 1 hts (gi_S ml_Pm_74 sm_Pm_unsigned ini_Pm co_Pm_unsigned) rfl rfl rfl (by decide +kernel) ⟨Nat.le_of_ble_eq_true rfl, Nat.le_of_ble_eq_true rfl⟩) ⟨cp_blind, cp_pre hcx hS hPc⟩ rfl rfl hl.1 rfl (lv_room (Nat.le_of_ble_eq_true rfl)) d_Pm_init_71 ⟨Nat.le_of_ble_eq_true rfl, Nat.le_of_ble_eq_true rfl⟩) hS hP (fun H locs hP hS => ?_)
        refine lv_iconst (v := 4) hx hb d_Pm_init_74 (by decide) ?_
        obtain ⟨h_5, hw⟩ := hw
        have hPc := hP.sub (ws' := [(h, .inr (1, [.ref m0, .ref aml, .ref amb, .ref t0, .ref atl, .ref att, .ref ate, .ref b0, .ref asb, .ref r0, .ref asr, .int 0])), (m0, .inr (0, [.int 12288, .ref m1, .ref m2, .ref m3, .int mC, .int mU])), (m1, .inl (G.2.1 0, 6, .inl mS)), (m2, .inl (G.2.1 0, 6, .inl mL)), (m3, .inl (G.2.1 2, 6, .inl mD))]) [0, 1, 2, 3, 4] rfl
        have hDc := hD.sub (ws' := [(h, .inr (1, [.ref m0, .ref aml, .ref amb, .ref t0, .ref atl, .ref att, .ref ate, .ref b0, .ref asb, .ref r0, .ref asr, .int 0])), (m0, .inr (0, [.int 12288, .ref m1, .ref m2, .ref m3, .int mC, .int mU])), (m1, .inl (G.2.1 0, 6, .inl mS)), (m2, .inl (G.2.1 0, 6, .inl mL)), (m3, .inl (G.2.1 2, 6, .inl mD))]) [0, 1, 2, 3, 4] (by decide) rfl
        have hFc := va_free (wc := [(h, .inr (1, [.ref m0, .ref aml, .ref amb, .ref t0, .ref atl, .ref att, .ref ate, .ref b0, .ref asb, .ref r0, .ref asr, .int 0])), (m0, .inr (0, [.int 12288, .ref m1, .ref m2, .ref m3, .int mC, .int mU])), (m1, .inl (G.2.1 0, 6, .inl mS)), (m2, .inl (G.2.1 0, 6, .inl mL)), (m3, .inl (G.2.1 2, 6, .inl mD))]) hD hS hA [0, 1, 2, 3, 4] rfl
        refine tx_i (tr_runV (As := [.ref m0, .int k, .long (u32 to), .long (u32 cn), .int 4]) (rest := []) ⟨hx, hb, hml, hown, hts⟩ (c_Pm_placeOf l hst G h m0 aml amb t0 atl att ate b0 asb r0 asr m0 m1 m2 m3 6 0 12288 mC mU mS mL mD k (u32 to) (u32 cn) 4 _ h_5) (cwV 5 hts (gi_V ml_Pm_113 im_Pm_placeOf se_Pm_placeOf ini_Pm co_Pm_placeOf) rfl rfl rfl (by decide +kernel) ⟨Nat.le_of_ble_eq_true rfl, Nat.le_of_ble_eq_true rfl⟩) ⟨cm_blind, va_recv hK hPc (ci := 1) (q0 := 0) rfl rfl, cm_pre hcx hS hPc hDc hFc⟩ rfl rfl hl.1 rfl (lv_room (Nat.le_of_ble_eq_true rfl)) d_Pm_init_75 ⟨Nat.le_of_ble_eq_true rfl, Nat.le_of_ble_eq_true rfl⟩) hS hP hD hA [0, 1, 2, 3, 4] rfl (fun _ => rfl) (fun _ => rfl) (fun E9 u9 hp q9 ce9 H locs hP hD hS h91 h92 h93 => ?_) (fun r9 u9 H locs hp hP hD hS => ?_)
        · obtain ⟨hN, rfl, rfl⟩ := hp
          exact tr_pass (hnt _) hlocks h91 h92 h93 (fun t ht => ⟨(4, fmb), hw.2 hN, by have h9 := hP; rw [← ht] at h9; exact h9⟩) hS (Nat.le_of_ble_eq_true rfl) (Nat.le_of_ble_eq_true rfl)
        · obtain ⟨hN, e91, e92⟩ := hp; replace e91 := e91.symm; replace e92 := e92.symm; subst e91; subst e92
          replace hw := hw.1 hN
          have hP : va_P G.1 vwC [(h, .inr (1, [.ref m0, .ref aml, .ref amb, .ref t0, .ref atl, .ref att, .ref ate, .ref b0, .ref asb, .ref r0, .ref asr, .int 0])), (m0, .inr (0, [.int 12288, .ref m1, .ref m2, .ref m3, .int mC, .int mU])), (m1, .inl (G.2.1 0, 6, .inl mS)), (m2, .inl (G.2.1 0, 6, .inl mL)), (m3, .inl (G.2.1 2, 6, .inl mD)), (b0, .inr (0, [.int 600, .ref b1, .ref b2, .ref b3, .int bC, .int bU])), (b1, .inl (G.2.1 0, 24, .inl bS)), (b2, .inl (G.2.1 0, 24, .inl bL)), (b3, .inl (G.2.1 2, 24, .inl bD)), (amb, .inl (G.2.1 1, 12288, .inl fmb)), (asb, .inl (G.2.1 1, 600, .inl fsb))] H := hP
          have hD : va_D A [(h, .inr (1, [.ref m0, .ref aml, .ref amb, .ref t0, .ref atl, .ref att, .ref ate, .ref b0, .ref asb, .ref r0, .ref asr, .int 0])), (m0, .inr (0, [.int 12288, .ref m1, .ref m2, .ref m3, .int mC, .int mU])), (m1, .inl (G.2.1 0, 6, .inl mS)), (m2, .inl (G.2.1 0, 6, .inl mL)), (m3, .inl (G.2.1 2, 6, .inl mD)), (b0, .inr (0, [.int 600, .ref b1, .ref b2, .ref b3, .int bC, .int bU])), (b1, .inl (G.2.1 0, 24, .inl bS)), (b2, .inl (G.2.1 0, 24, .inl bL)), (b3, .inl (G.2.1 2, 24, .inl bD)), (amb, .inl (G.2.1 1, 12288, .inl fmb)), (asb, .inl (G.2.1 1, 600, .inl fsb))] := hD
          refine lv_topi (fun x_6 ex_6 => ?_)
          replace hw := hw x_6 ex_6
          refine lv_istore (lv' := [(7, .int x_6), (6, .int x_4), (0, .ref h), (1, .int k), (2, .int sg), (3, .int to), (4, .int fr), (5, .int cn)]) hx hb d_Pm_init_78 hl (by decide) rfl (fun ls hl => ?_)
          refine lv_aload_n hx hb d_Pm_init_80 rfl (lv_at hl 2 rfl) ?_
          refine va_get (D := G.1) (ci := 1) (v := .ref asb) (C := R_Pm) (T := T_Pm) (N := 12) hx hb hts in_Pm hown hK hP 0 rfl rfl 8 (by decide) (hts _ fl_Pm_41) (fun _ h9 => h9) rfl d_Pm_init_81 ?_
          refine lv_iload hx hb d_Pm_init_84 (lv_at hl 1 rfl) ?_
          refine lv_aload_n hx hb d_Pm_init_86 rfl (lv_at hl 2 rfl) ?_
          refine va_get (D := G.1) (ci := 1) (v := .ref amb) (C := R_Pm) (T := T_Pm) (N := 12) hx hb hts in_Pm hown hK hP 0 rfl rfl 2 (by decide) (hts _ fl_Pm_22) (fun _ h9 => h9) rfl d_Pm_init_87 ?_
          refine lv_iload hx hb d_Pm_init_90 (lv_at hl 0 rfl) ?_
          refine lv_iload hx hb d_Pm_init_92 (lv_at hl 7 rfl) ?_
          obtain ⟨h_7, h_8, h_9, h_10, h_11, h_12, hw⟩ := hw
          obtain ⟨a_13, ea_13⟩ : ∃ z, z = va_cpy fsb fmb x_4.toNatClampNeg x_6.toNatClampNeg cn.toNatClampNeg := ⟨_, rfl⟩
          replace hw := hw a_13 ea_13
          refine va_copyi (ty := .byte) hx hb (hml.trans hl.1.symm) hown (hts _ ml_Pm_84) (hts _ nt_arraycopy) (hts _ sm_arraycopy) (hts _ ini_System) hK hP hD hS 10 9 1 1 rfl rfl rfl rfl rfl h_7 h_8 h_9 h_10 h_11 h_12 (Nat.le_of_ble_eq_true rfl) (Nat.le_of_ble_eq_true rfl) d_Pm_init_94 (fun H locs hP hD hS => ?_)
          rw [← ea_13] at hP hD
          have hP : va_P G.1 vwC [(h, .inr (1, [.ref m0, .ref aml, .ref amb, .ref t0, .ref atl, .ref att, .ref ate, .ref b0, .ref asb, .ref r0, .ref asr, .int 0])), (m0, .inr (0, [.int 12288, .ref m1, .ref m2, .ref m3, .int mC, .int mU])), (m1, .inl (G.2.1 0, 6, .inl mS)), (m2, .inl (G.2.1 0, 6, .inl mL)), (m3, .inl (G.2.1 2, 6, .inl mD)), (b0, .inr (0, [.int 600, .ref b1, .ref b2, .ref b3, .int bC, .int bU])), (b1, .inl (G.2.1 0, 24, .inl bS)), (b2, .inl (G.2.1 0, 24, .inl bL)), (b3, .inl (G.2.1 2, 24, .inl bD)), (amb, .inl (G.2.1 1, 12288, .inl a_13)), (asb, .inl (G.2.1 1, 600, .inl fsb))] H := hP
          have hD : va_D A [(h, .inr (1, [.ref m0, .ref aml, .ref amb, .ref t0, .ref atl, .ref att, .ref ate, .ref b0, .ref asb, .ref r0, .ref asr, .int 0])), (m0, .inr (0, [.int 12288, .ref m1, .ref m2, .ref m3, .int mC, .int mU])), (m1, .inl (G.2.1 0, 6, .inl mS)), (m2, .inl (G.2.1 0, 6, .inl mL)), (m3, .inl (G.2.1 2, 6, .inl mD)), (b0, .inr (0, [.int 600, .ref b1, .ref b2, .ref b3, .int bC, .int bU])), (b1, .inl (G.2.1 0, 24, .inl bS)), (b2, .inl (G.2.1 0, 24, .inl bL)), (b3, .inl (G.2.1 2, 24, .inl bD)), (amb, .inl (G.2.1 1, 12288, .inl a_13)), (asb, .inl (G.2.1 1, 600, .inl fsb))] := hD
          exact tr_ret (W.vret hx hb hr (fun t ht hW => ⟨⟨(0, a_13), rfl, hw, by have h9 := hP; rw [← ht] at h9; exact h9⟩, hS.F ht⟩) hS.2.2 d_Pm_init_97)
    · replace hw := hw.2 c_2
      exact tr_throw hx hb hst hown (by decide +kernel) (by decide +kernel) (hcx.imp (fun V h => tw_ill_134 V h)) hS (hl.1.trans hml.symm) d_Pm_init_27 d_Pm_init_30 d_Pm_init_31 d_Pm_init_33 d_Pm_init_36 (hnt _) (Nat.le_of_ble_eq_true rfl) (Nat.le_of_ble_eq_true rfl) (Nat.le_of_ble_eq_true rfl) (Nat.le_of_ble_eq_true rfl) hlocks (fun t h1 h2 => ⟨(0, fmb), hw, hP.kept fun k q hq => h2 q.1 (hP k q hq).lt⟩) hA (Nat.le_of_ble_eq_true rfl) (Nat.le_of_ble_eq_true rfl)
end
section
def wp_Pm_drop (post : ((Nat → Int32) × (Nat → Int32) × (Nat → Int32) × (Nat → Int32)) → Prop) (postx : String → ((Nat → Int32) × (Nat → Int32) × (Nat → Int32) × (Nat → Int32)) → Prop) (trp : Int32) (bC : Int32) (bU : Int32) (bS : Nat → Int32) (bL : Nat → Int32) (bD : Nat → Int32) (rC : Int32) (rU : Int32) (rS : Nat → Int32) (rL : Nat → Int32) (rD : Nat → Int32) (sg : Int32) (rf : Int32) : Prop := ((rf = 0 → (((¬ ly_has bC sg = 0 → ((bC.toInt ≤ 24) ∧ ((¬ ly_has bC sg = 0) ∧ (∀ u_5 : Nat → Int32, u_5 = upd bL sg.toNatClampNeg 0 → (∀ u_6 : Nat → Int32, u_6 = upd bD sg.toNatClampNeg 1 → (post (u_5, u_6, rL, rD))))))) ∧ (ly_has bC sg = 0 → (postx E_ill (bL, bD, rL, rD)))))) ∧ (¬ rf = 0 → (((¬ ly_has rC sg = 0 → ((rC.toInt ≤ 24) ∧ ((¬ ly_has rC sg = 0) ∧ (∀ u_10 : Nat → Int32, u_10 = upd rL sg.toNatClampNeg 0 → (∀ u_11 : Nat → Int32, u_11 = upd rD sg.toNatClampNeg 1 → (post (bL, bD, u_10, u_11))))))) ∧ (ly_has rC sg = 0 → (postx E_ill (bL, bD, rL, rD)))))))
set_option maxHeartbeats 4000000 in
set_option maxRecDepth 100000 in
theorem t_Pm_drop (l : Launch) (hst : l.stackTraces = false) (G : cxT) (h : Nat) (m0 : Nat) (aml : Nat) (amb : Nat) (t0 : Nat) (atl : Nat) (att : Nat) (ate : Nat) (b0 : Nat) (asb : Nat) (r0 : Nat) (asr : Nat) (b1 : Nat) (b2 : Nat) (b3 : Nat) (r1 : Nat) (r2 : Nat) (r3 : Nat) (trp : Int32) (bC : Int32) (bU : Int32) (bS : Nat → Int32) (bL : Nat → Int32) (bD : Nat → Int32) (rC : Int32) (rU : Int32) (rS : Nat → Int32) (rL : Nat → Int32) (rD : Nat → Int32) (sg : Int32) (rf : Int32) (sz : Nat) (post : ((Nat → Int32) × (Nat → Int32) × (Nat → Int32) × (Nat → Int32)) → Prop) (postx : String → ((Nat → Int32) × (Nat → Int32) × (Nat → Int32) × (Nat → Int32)) → Prop) (hw : wp_Pm_drop post postx trp bC bU bS bL bD rC rU rS rL rD sg rf) : tr_Met l y_Pm_drop [.code y_Pm_drop b_Pm_drop 4 none] ({ frames := 8, cells := 1, slots := 6, locals := 140 } : Room) (cm G [.ref h, .int sg, .int rf] [(h, .inr (1, [.ref m0, .ref aml, .ref amb, .ref t0, .ref atl, .ref att, .ref ate, .ref b0, .ref asb, .ref r0, .ref asr, .int trp])), (b0, .inr (0, [.int 600, .ref b1, .ref b2, .ref b3, .int bC, .int bU])), (b1, .inl (G.2.1 0, 24, .inl bS)), (b2, .inl (G.2.1 0, 24, .inl bL)), (b3, .inl (G.2.1 2, 24, .inl bD)), (r0, .inr (0, [.int 200, .ref r1, .ref r2, .ref r3, .int rC, .int rU])), (r1, .inl (G.2.1 0, 24, .inl rS)), (r2, .inl (G.2.1 0, 24, .inl rL)), (r3, .inl (G.2.1 2, 24, .inl rD))] sz) (va_Qv post (fun u t => va_P G.1 vwC [(h, .inr (1, [.ref m0, .ref aml, .ref amb, .ref t0, .ref atl, .ref att, .ref ate, .ref b0, .ref asb, .ref r0, .ref asr, .int trp])), (b0, .inr (0, [.int 600, .ref b1, .ref b2, .ref b3, .int bC, .int bU])), (b1, .inl (G.2.1 0, 24, .inl bS)), (b2, .inl (G.2.1 0, 24, .inl u.1)), (b3, .inl (G.2.1 2, 24, .inl u.2.1)), (r0, .inr (0, [.int 200, .ref r1, .ref r2, .ref r3, .int rC, .int rU])), (r1, .inl (G.2.1 0, 24, .inl rS)), (r2, .inl (G.2.1 0, 24, .inl u.2.2.1)), (r3, .inl (G.2.1 2, 24, .inl u.2.2.2))] t.heap) (va_A [(h, .inr (1, [.ref m0, .ref aml, .ref amb, .ref t0, .ref atl, .ref att, .ref ate, .ref b0, .ref asb, .ref r0, .ref asr, .int trp])), (b0, .inr (0, [.int 600, .ref b1, .ref b2, .ref b3, .int bC, .int bU])), (b1, .inl (G.2.1 0, 24, .inl bS)), (b2, .inl (G.2.1 0, 24, .inl bL)), (b3, .inl (G.2.1 2, 24, .inl bD)), (r0, .inr (0, [.int 200, .ref r1, .ref r2, .ref r3, .int rC, .int rU])), (r1, .inl (G.2.1 0, 24, .inl rS)), (r2, .inl (G.2.1 0, 24, .inl rL)), (r3, .inl (G.2.1 2, 24, .inl rD))] sz)) (fun E t => ∃ u : (Nat → Int32) × (Nat → Int32) × (Nat → Int32) × (Nat → Int32), postx E u ∧ va_P G.1 vwC [(h, .inr (1, [.ref m0, .ref aml, .ref amb, .ref t0, .ref atl, .ref att, .ref ate, .ref b0, .ref asb, .ref r0, .ref asr, .int trp])), (b0, .inr (0, [.int 600, .ref b1, .ref b2, .ref b3, .int bC, .int bU])), (b1, .inl (G.2.1 0, 24, .inl bS)), (b2, .inl (G.2.1 0, 24, .inl u.1)), (b3, .inl (G.2.1 2, 24, .inl u.2.1)), (r0, .inr (0, [.int 200, .ref r1, .ref r2, .ref r3, .int rC, .int rU])), (r1, .inl (G.2.1 0, 24, .inl rS)), (r2, .inl (G.2.1 0, 24, .inl u.2.2.1)), (r3, .inl (G.2.1 2, 24, .inl u.2.2.2))] t.heap) (va_A [(h, .inr (1, [.ref m0, .ref aml, .ref amb, .ref t0, .ref atl, .ref att, .ref ate, .ref b0, .ref asb, .ref r0, .ref asr, .int trp])), (b0, .inr (0, [.int 600, .ref b1, .ref b2, .ref b3, .int bC, .int bU])), (b1, .inl (G.2.1 0, 24, .inl bS)), (b2, .inl (G.2.1 0, 24, .inl bL)), (b3, .inl (G.2.1 2, 24, .inl bD)), (r0, .inr (0, [.int 200, .ref r1, .ref r2, .ref r3, .int rC, .int rU])), (r1, .inl (G.2.1 0, 24, .inl rS)), (r2, .inl (G.2.1 0, 24, .inl rL)), (r3, .inl (G.2.1 2, 24, .inl rD))] sz) 1 6 := by
  refine tr_ofW (cc := b_Pm_drop) (maxL := 4) (ret := none) (by decide +kernel) rfl ?_
  intro p e s m args below meth c s₁ B hml hv
  obtain ⟨rfl, hsz, hcx, hP, hD0⟩ := hv
  have hx := B.exec
  have hb := B.bytes
  have hr := B.returns
  have hlocks := B.notSynchronized
  have hown : s.vm.findClass R_Pm = some m.cls := findClass_of_methodNamed B.named
  have hnt := tr_nt (ws := [.code y_Pm_drop b_Pm_drop 4 none]) (rm := ({ frames := 8, cells := 1, slots := 6, locals := 140 } : Room)) B rfl
  subst hsz
  have hD := hD0.self (sz := s.heap.size)
  generalize hAe : va_A [(h, .inr (1, [.ref m0, .ref aml, .ref amb, .ref t0, .ref atl, .ref att, .ref ate, .ref b0, .ref asb, .ref r0, .ref asr, .int trp])), (b0, .inr (0, [.int 600, .ref b1, .ref b2, .ref b3, .int bC, .int bU])), (b1, .inl (G.2.1 0, 24, .inl bS)), (b2, .inl (G.2.1 0, 24, .inl bL)), (b3, .inl (G.2.1 2, 24, .inl bD)), (r0, .inr (0, [.int 200, .ref r1, .ref r2, .ref r3, .int rC, .int rU])), (r1, .inl (G.2.1 0, 24, .inl rS)), (r2, .inl (G.2.1 0, 24, .inl rL)), (r3, .inl (G.2.1 2, 24, .inl rD))] s.heap.size = A at hD hcx ⊢
  have hA : ∀ q : Nat, s.heap.size ≤ q → A q := fun q h => by rw [← hAe]; exact Or.inr h
  have hS : va_S A s.heap s.heap [] := va_S.rf
  have hts := hcx.now.1 [.ref h, .int sg, .int rf].toArray
  have hK := hcx.now.2.1
  have hl := lv_entry ([.ref h, .int sg, .int rf]) (n := 4) (Nat.le_of_ble_eq_true rfl)
  rw [lg_entry_eq]
  generalize (lg_sl ([.ref h, .int sg, .int rf]) ++ List.replicate (4 - (lg_sl ([.ref h, .int sg, .int rf])).length) Slot.unset).toArray = ls at hl ⊢
  have hl : lv_has ls 4 [(0, .ref h), (1, .int sg), (2, .int rf)] := hl
  unfold wp_Pm_drop at hw
  refine lv_iload_n hx hb d_Pm_drop_0 rfl (lv_at hl 2 rfl) ?_
  refine lv_if_eq (tgt := 11) hx hb d_Pm_drop_1 (by decide) (fun c_1 => ?_) (fun c_1 => ?_)
  · replace hw := hw.1 c_1
    refine lv_aload_n hx hb d_Pm_drop_11 rfl (lv_at hl 0 rfl) ?_
    refine va_get (D := G.1) (ci := 1) (v := .ref b0) (C := R_Pm) (T := T_Pm) (N := 12) hx hb hts in_Pm hown hK hP 0 rfl rfl 7 (by decide) (hts _ fl_Pm_38) (fun _ h9 => h9) rfl d_Pm_drop_12 ?_
    refine lv_astore_n (lv' := [(3, .ref b0), (0, .ref h), (1, .int sg), (2, .int rf)]) hx hb d_Pm_drop_15 rfl hl (by decide) rfl (fun ls hl => ?_)
    refine lv_aload_n hx hb d_Pm_drop_16 rfl (lv_at hl 0 rfl) ?_
    refine lv_iload_n hx hb d_Pm_drop_17 rfl (lv_at hl 2 rfl) ?_
    have hPc := hP.sub (ws' := [(b0, .inr (0, [.int 600, .ref b1, .ref b2, .ref b3, .int bC, .int bU])), (b1, .inl (G.2.1 0, 24, .inl bS)), (b2, .inl (G.2.1 0, 24, .inl bL)), (b3, .inl (G.2.1 2, 24, .inl bD))]) [1, 2, 3, 4] rfl
    refine pu_i (va_runV (As := [.int sg]) (rest := []) ⟨hx, hb, hml, hown, hts⟩ (c_Ly_has l G b0 b1 b2 b3 24 600 bC bU bS bL bD sg) (cwV 1 hts (gi_V ml_Pm_67 im_Ly_has se_Ly_has ini_Ly co_Ly_has) rfl rfl rfl (by decide +kernel) ⟨Nat.le_of_ble_eq_true rfl, Nat.le_of_ble_eq_true rfl⟩) ⟨cp_blind, va_recv hK hPc (ci := 0) (q0 := 0) rfl rfl, cp_pre hcx hS hPc⟩ rfl rfl hl.1 rfl (lv_room (Nat.le_of_ble_eq_true rfl)) d_Pm_drop_18 ⟨Nat.le_of_ble_eq_true rfl, Nat.le_of_ble_eq_true rfl⟩) hS hP (fun H locs hP hS => ?_)
    refine lv_if_ne (tgt := 34) hx hb d_Pm_drop_21 (by decide) (fun c_2 => ?_) (fun c_2 => ?_)
    · replace hw := hw.1 c_2
      refine lv_aload_n hx hb d_Pm_drop_34 rfl (lv_at hl 0 rfl) ?_
      refine lv_iload_n hx hb d_Pm_drop_35 rfl (lv_at hl 2 rfl) ?_
      obtain ⟨h_3, hw⟩ := hw
      obtain ⟨h_4, hw⟩ := hw
      have hPc := hP.sub (ws' := [(b0, .inr (0, [.int 600, .ref b1, .ref b2, .ref b3, .int bC, .int bU])), (b1, .inl (G.2.1 0, 24, .inl bS)), (b2, .inl (G.2.1 0, 24, .inl bL)), (b3, .inl (G.2.1 2, 24, .inl bD))]) [1, 2, 3, 4] rfl
      have hDc := hD.sub (ws' := [(b0, .inr (0, [.int 600, .ref b1, .ref b2, .ref b3, .int bC, .int bU])), (b1, .inl (G.2.1 0, 24, .inl bS)), (b2, .inl (G.2.1 0, 24, .inl bL)), (b3, .inl (G.2.1 2, 24, .inl bD))]) [1, 2, 3, 4] (by decide) rfl
      have hFc := va_free (wc := [(b0, .inr (0, [.int 600, .ref b1, .ref b2, .ref b3, .int bC, .int bU])), (b1, .inl (G.2.1 0, 24, .inl bS)), (b2, .inl (G.2.1 0, 24, .inl bL)), (b3, .inl (G.2.1 2, 24, .inl bD))]) hD hS hA [1, 2, 3, 4] rfl
      refine ip_v (va_runV (As := [.int sg]) (rest := []) ⟨hx, hb, hml, hown, hts⟩ (c_Ly_giveUp l G b0 b1 b2 b3 24 600 bC bU bS bL bD sg _ h_3 h_4) (cwV 1 hts (gi_V ml_Pm_146 im_Ly_giveUp se_Ly_giveUp ini_Ly co_Ly_giveUp) rfl rfl rfl (by decide +kernel) ⟨Nat.le_of_ble_eq_true rfl, Nat.le_of_ble_eq_true rfl⟩) ⟨cm_blind, va_recv hK hPc (ci := 0) (q0 := 0) rfl rfl, cm_pre hcx hS hPc hDc hFc⟩ rfl rfl hl.1 rfl (lv_room (Nat.le_of_ble_eq_true rfl)) d_Pm_drop_36 ⟨Nat.le_of_ble_eq_true rfl, Nat.le_of_ble_eq_true rfl⟩) hS hP hD hA [1, 2, 3, 4] rfl (fun _ => rfl) (fun u9 H locs hp hP hD hS => ?_)
      replace hp := hp.symm; subst hp
      obtain ⟨u_5, eu_5⟩ : ∃ z : Nat → Int32, z = upd bL sg.toNatClampNeg 0 := ⟨_, rfl⟩
      replace hw := hw u_5 eu_5
      obtain ⟨u_6, eu_6⟩ : ∃ z : Nat → Int32, z = upd bD sg.toNatClampNeg 1 := ⟨_, rfl⟩
      replace hw := hw u_6 eu_6
      have hP : va_P G.1 vwC [(h, .inr (1, [.ref m0, .ref aml, .ref amb, .ref t0, .ref atl, .ref att, .ref ate, .ref b0, .ref asb, .ref r0, .ref asr, .int trp])), (b0, .inr (0, [.int 600, .ref b1, .ref b2, .ref b3, .int bC, .int bU])), (b1, .inl (G.2.1 0, 24, .inl bS)), (b2, .inl (G.2.1 0, 24, .inl (upd bL sg.toNatClampNeg 0))), (b3, .inl (G.2.1 2, 24, .inl (upd bD sg.toNatClampNeg 1))), (r0, .inr (0, [.int 200, .ref r1, .ref r2, .ref r3, .int rC, .int rU])), (r1, .inl (G.2.1 0, 24, .inl rS)), (r2, .inl (G.2.1 0, 24, .inl rL)), (r3, .inl (G.2.1 2, 24, .inl rD))] H := hP
      have hD : va_D A [(h, .inr (1, [.ref m0, .ref aml, .ref amb, .ref t0, .ref atl, .ref att, .ref ate, .ref b0, .ref asb, .ref r0, .ref asr, .int trp])), (b0, .inr (0, [.int 600, .ref b1, .ref b2, .ref b3, .int bC, .int bU])), (b1, .inl (G.2.1 0, 24, .inl bS)), (b2, .inl (G.2.1 0, 24, .inl (upd bL sg.toNatClampNeg 0))), (b3, .inl (G.2.1 2, 24, .inl (upd bD sg.toNatClampNeg 1))), (r0, .inr (0, [.int 200, .ref r1, .ref r2, .ref r3, .int rC, .int rU])), (r1, .inl (G.2.1 0, 24, .inl rS)), (r2, .inl (G.2.1 0, 24, .inl rL)), (r3, .inl (G.2.1 2, 24, .inl rD))] := hD
      have hP : va_P G.1 vwC [(h, .inr (1, [.ref m0, .ref aml, .ref amb, .ref t0, .ref atl, .ref att, .ref ate, .ref b0, .ref asb, .ref r0, .ref asr, .int trp])), (b0, .inr (0, [.int 600, .ref b1, .ref b2, .ref b3, .int bC, .int bU])), (b1, .inl (G.2.1 0, 24, .inl bS)), (b2, .inl (G.2.1 0, 24, .inl u_5)), (b3, .inl (G.2.1 2, 24, .inl u_6)), (r0, .inr (0, [.int 200, .ref r1, .ref r2, .ref r3, .int rC, .int rU])), (r1, .inl (G.2.1 0, 24, .inl rS)), (r2, .inl (G.2.1 0, 24, .inl rL)), (r3, .inl (G.2.1 2, 24, .inl rD))] H := by rw [eu_5]; rw [eu_6]; exact hP
      have hD : va_D A [(h, .inr (1, [.ref m0, .ref aml, .ref amb, .ref t0, .ref atl, .ref att, .ref ate, .ref b0, .ref asb, .ref r0, .ref asr, .int trp])), (b0, .inr (0, [.int 600, .ref b1, .ref b2, .ref b3, .int bC, .int bU])), (b1, .inl (G.2.1 0, 24, .inl bS)), (b2, .inl (G.2.1 0, 24, .inl u_5)), (b3, .inl (G.2.1 2, 24, .inl u_6)), (r0, .inr (0, [.int 200, .ref r1, .ref r2, .ref r3, .int rC, .int rU])), (r1, .inl (G.2.1 0, 24, .inl rS)), (r2, .inl (G.2.1 0, 24, .inl rL)), (r3, .inl (G.2.1 2, 24, .inl rD))] := by rw [eu_5]; rw [eu_6]; exact hD
      refine W.widen (k := 1) (n := 6) (Nat.le_of_ble_eq_true rfl) (Nat.le_of_ble_eq_true rfl) ?_
      exact tr_ret (W.vret hx hb hr (fun t ht hW => ⟨⟨(u_5, u_6, rL, rD), rfl, hw, by have h9 := hP; rw [← ht] at h9; exact h9⟩, hS.F ht⟩) hS.2.2 d_Pm_drop_39)
    · replace hw := hw.2 c_2
      exact tr_throw hx hb hst hown (by decide +kernel) (by decide +kernel) (hcx.imp (fun V h => tw_ill_144 V h)) hS (hl.1.trans hml.symm) d_Pm_drop_24 d_Pm_drop_27 d_Pm_drop_28 d_Pm_drop_30 d_Pm_drop_33 (hnt _) (Nat.le_of_ble_eq_true rfl) (Nat.le_of_ble_eq_true rfl) (Nat.le_of_ble_eq_true rfl) (Nat.le_of_ble_eq_true rfl) hlocks (fun t h1 h2 => ⟨(bL, bD, rL, rD), hw, hP.kept fun k q hq => h2 q.1 (hP k q hq).lt⟩) hA (Nat.le_of_ble_eq_true rfl) (Nat.le_of_ble_eq_true rfl)
  · replace hw := hw.2 c_1
    refine lv_aload_n hx hb d_Pm_drop_4 rfl (lv_at hl 0 rfl) ?_
    refine va_get (D := G.1) (ci := 1) (v := .ref r0) (C := R_Pm) (T := T_Pm) (N := 12) hx hb hts in_Pm hown hK hP 0 rfl rfl 9 (by decide) (hts _ fl_Pm_44) (fun _ h9 => h9) rfl d_Pm_drop_5 ?_
    refine lv_goto (tgt := 15) hx hb d_Pm_drop_8 (by decide) ?_
    refine lv_astore_n (lv' := [(3, .ref r0), (0, .ref h), (1, .int sg), (2, .int rf)]) hx hb d_Pm_drop_15 rfl hl (by decide) rfl (fun ls hl => ?_)
    refine lv_aload_n hx hb d_Pm_drop_16 rfl (lv_at hl 0 rfl) ?_
    refine lv_iload_n hx hb d_Pm_drop_17 rfl (lv_at hl 2 rfl) ?_
    have hPc := hP.sub (ws' := [(r0, .inr (0, [.int 200, .ref r1, .ref r2, .ref r3, .int rC, .int rU])), (r1, .inl (G.2.1 0, 24, .inl rS)), (r2, .inl (G.2.1 0, 24, .inl rL)), (r3, .inl (G.2.1 2, 24, .inl rD))]) [5, 6, 7, 8] rfl
    refine pu_i (va_runV (As := [.int sg]) (rest := []) ⟨hx, hb, hml, hown, hts⟩ (c_Ly_has l G r0 r1 r2 r3 24 200 rC rU rS rL rD sg) (cwV 1 hts (gi_V ml_Pm_67 im_Ly_has se_Ly_has ini_Ly co_Ly_has) rfl rfl rfl (by decide +kernel) ⟨Nat.le_of_ble_eq_true rfl, Nat.le_of_ble_eq_true rfl⟩) ⟨cp_blind, va_recv hK hPc (ci := 0) (q0 := 0) rfl rfl, cp_pre hcx hS hPc⟩ rfl rfl hl.1 rfl (lv_room (Nat.le_of_ble_eq_true rfl)) d_Pm_drop_18 ⟨Nat.le_of_ble_eq_true rfl, Nat.le_of_ble_eq_true rfl⟩) hS hP (fun H locs hP hS => ?_)
    refine lv_if_ne (tgt := 34) hx hb d_Pm_drop_21 (by decide) (fun c_7 => ?_) (fun c_7 => ?_)
    · replace hw := hw.1 c_7
      refine lv_aload_n hx hb d_Pm_drop_34 rfl (lv_at hl 0 rfl) ?_
      refine lv_iload_n hx hb d_Pm_drop_35 rfl (lv_at hl 2 rfl) ?_
      obtain ⟨h_8, hw⟩ := hw
      obtain ⟨h_9, hw⟩ := hw
      have hPc := hP.sub (ws' := [(r0, .inr (0, [.int 200, .ref r1, .ref r2, .ref r3, .int rC, .int rU])), (r1, .inl (G.2.1 0, 24, .inl rS)), (r2, .inl (G.2.1 0, 24, .inl rL)), (r3, .inl (G.2.1 2, 24, .inl rD))]) [5, 6, 7, 8] rfl
      have hDc := hD.sub (ws' := [(r0, .inr (0, [.int 200, .ref r1, .ref r2, .ref r3, .int rC, .int rU])), (r1, .inl (G.2.1 0, 24, .inl rS)), (r2, .inl (G.2.1 0, 24, .inl rL)), (r3, .inl (G.2.1 2, 24, .inl rD))]) [5, 6, 7, 8] (by decide) rfl
      have hFc := va_free (wc := [(r0, .inr (0, [.int 200, .ref r1, .ref r2, .ref r3, .int rC, .int rU])), (r1, .inl (G.2.1 0, 24, .inl rS)), (r2, .inl (G.2.1 0, 24, .inl rL)), (r3, .inl (G.2.1 2, 24, .inl rD))]) hD hS hA [5, 6, 7, 8] rfl
      refine ip_v (va_runV (As := [.int sg]) (rest := []) ⟨hx, hb, hml, hown, hts⟩ (c_Ly_giveUp l G r0 r1 r2 r3 24 200 rC rU rS rL rD sg _ h_8 h_9) (cwV 1 hts (gi_V ml_Pm_146 im_Ly_giveUp se_Ly_giveUp ini_Ly co_Ly_giveUp) rfl rfl rfl (by decide +kernel) ⟨Nat.le_of_ble_eq_true rfl, Nat.le_of_ble_eq_true rfl⟩) ⟨cm_blind, va_recv hK hPc (ci := 0) (q0 := 0) rfl rfl, cm_pre hcx hS hPc hDc hFc⟩ rfl rfl hl.1 rfl (lv_room (Nat.le_of_ble_eq_true rfl)) d_Pm_drop_36 ⟨Nat.le_of_ble_eq_true rfl, Nat.le_of_ble_eq_true rfl⟩) hS hP hD hA [5, 6, 7, 8] rfl (fun _ => rfl) (fun u9 H locs hp hP hD hS => ?_)
      replace hp := hp.symm; subst hp
      obtain ⟨u_10, eu_10⟩ : ∃ z : Nat → Int32, z = upd rL sg.toNatClampNeg 0 := ⟨_, rfl⟩
      replace hw := hw u_10 eu_10
      obtain ⟨u_11, eu_11⟩ : ∃ z : Nat → Int32, z = upd rD sg.toNatClampNeg 1 := ⟨_, rfl⟩
      replace hw := hw u_11 eu_11
      have hP : va_P G.1 vwC [(h, .inr (1, [.ref m0, .ref aml, .ref amb, .ref t0, .ref atl, .ref att, .ref ate, .ref b0, .ref asb, .ref r0, .ref asr, .int trp])), (b0, .inr (0, [.int 600, .ref b1, .ref b2, .ref b3, .int bC, .int bU])), (b1, .inl (G.2.1 0, 24, .inl bS)), (b2, .inl (G.2.1 0, 24, .inl bL)), (b3, .inl (G.2.1 2, 24, .inl bD)), (r0, .inr (0, [.int 200, .ref r1, .ref r2, .ref r3, .int rC, .int rU])), (r1, .inl (G.2.1 0, 24, .inl rS)), (r2, .inl (G.2.1 0, 24, .inl (upd rL sg.toNatClampNeg 0))), (r3, .inl (G.2.1 2, 24, .inl (upd rD sg.toNatClampNeg 1)))] H := hP
      have hD : va_D A [(h, .inr (1, [.ref m0, .ref aml, .ref amb, .ref t0, .ref atl, .ref att, .ref ate, .ref b0, .ref asb, .ref r0, .ref asr, .int trp])), (b0, .inr (0, [.int 600, .ref b1, .ref b2, .ref b3, .int bC, .int bU])), (b1, .inl (G.2.1 0, 24, .inl bS)), (b2, .inl (G.2.1 0, 24, .inl bL)), (b3, .inl (G.2.1 2, 24, .inl bD)), (r0, .inr (0, [.int 200, .ref r1, .ref r2, .ref r3, .int rC, .int rU])), (r1, .inl (G.2.1 0, 24, .inl rS)), (r2, .inl (G.2.1 0, 24, .inl (upd rL sg.toNatClampNeg 0))), (r3, .inl (G.2.1 2, 24, .inl (upd rD sg.toNatClampNeg 1)))] := hD
      have hP : va_P G.1 vwC [(h, .inr (1, [.ref m0, .ref aml, .ref amb, .ref t0, .ref atl, .ref att, .ref ate, .ref b0, .ref asb, .ref r0, .ref asr, .int trp])), (b0, .inr (0, [.int 600, .ref b1, .ref b2, .ref b3, .int bC, .int bU])), (b1, .inl (G.2.1 0, 24, .inl bS)), (b2, .inl (G.2.1 0, 24, .inl bL)), (b3, .inl (G.2.1 2, 24, .inl bD)), (r0, .inr (0, [.int 200, .ref r1, .ref r2, .ref r3, .int rC, .int rU])), (r1, .inl (G.2.1 0, 24, .inl rS)), (r2, .inl (G.2.1 0, 24, .inl u_10)), (r3, .inl (G.2.1 2, 24, .inl u_11))] H := by rw [eu_10]; rw [eu_11]; exact hP
      have hD : va_D A [(h, .inr (1, [.ref m0, .ref aml, .ref amb, .ref t0, .ref atl, .ref att, .ref ate, .ref b0, .ref asb, .ref r0, .ref asr, .int trp])), (b0, .inr (0, [.int 600, .ref b1, .ref b2, .ref b3, .int bC, .int bU])), (b1, .inl (G.2.1 0, 24, .inl bS)), (b2, .inl (G.2.1 0, 24, .inl bL)), (b3, .inl (G.2.1 2, 24, .inl bD)), (r0, .inr (0, [.int 200, .ref r1, .ref r2, .ref r3, .int rC, .int rU])), (r1, .inl (G.2.1 0, 24, .inl rS)), (r2, .inl (G.2.1 0, 24, .inl u_10)), (r3, .inl (G.2.1 2, 24, .inl u_11))] := by rw [eu_10]; rw [eu_11]; exact hD
      refine W.widen (k := 1) (n := 6) (Nat.le_of_ble_eq_true rfl) (Nat.le_of_ble_eq_true rfl) ?_
      exact tr_ret (W.vret hx hb hr (fun t ht hW => ⟨⟨(bL, bD, u_10, u_11), rfl, hw, by have h9 := hP; rw [← ht] at h9; exact h9⟩, hS.F ht⟩) hS.2.2 d_Pm_drop_39)
    · replace hw := hw.2 c_7
      exact tr_throw hx hb hst hown (by decide +kernel) (by decide +kernel) (hcx.imp (fun V h => tw_ill_144 V h)) hS (hl.1.trans hml.symm) d_Pm_drop_24 d_Pm_drop_27 d_Pm_drop_28 d_Pm_drop_30 d_Pm_drop_33 (hnt _) (Nat.le_of_ble_eq_true rfl) (Nat.le_of_ble_eq_true rfl) (Nat.le_of_ble_eq_true rfl) (Nat.le_of_ble_eq_true rfl) hlocks (fun t h1 h2 => ⟨(bL, bD, rL, rD), hw, hP.kept fun k q hq => h2 q.1 (hP k q hq).lt⟩) hA (Nat.le_of_ble_eq_true rfl) (Nat.le_of_ble_eq_true rfl)
def wp_Pm_get (post : Int32 → Int32 → Prop) (postx : String → Int32 → Prop) (trp : Int32) (tC : Int32) (tU : Int32) (tS : Nat → Int32) (tL : Nat → Int32) (tD : Nat → Int32) (fte : Nat → Int32) (k : Int32) (ix : Int32) : Prop := ((¬ ly_has tC k = 0 → ((tC.toInt ≤ 6) ∧ (((lg_cmp ((u32 ix) + 1) (ly_ln tC k tL).toInt64 ≤ 0 → ((vp_in (ly_st tC k tS + (u32 ix).toInt32) 200) ∧ (post (fte (ly_st tC k tS + (u32 ix).toInt32).toNatClampNeg) 0))) ∧ (¬ lg_cmp ((u32 ix) + 1) (ly_ln tC k tL).toInt64 ≤ 0 → (postx E_uns 5)))))) ∧ (ly_has tC k = 0 → (postx E_ill 0)))
set_option maxHeartbeats 4000000 in
set_option maxRecDepth 100000 in
theorem t_Pm_get (l : Launch) (hst : l.stackTraces = false) (G : cxT) (h : Nat) (m0 : Nat) (aml : Nat) (amb : Nat) (t0 : Nat) (atl : Nat) (att : Nat) (ate : Nat) (b0 : Nat) (asb : Nat) (r0 : Nat) (asr : Nat) (t1 : Nat) (t2 : Nat) (t3 : Nat) (trp : Int32) (tC : Int32) (tU : Int32) (tS : Nat → Int32) (tL : Nat → Int32) (tD : Nat → Int32) (fte : Nat → Int32) (k : Int32) (ix : Int32) (sz : Nat) (post : Int32 → Int32 → Prop) (postx : String → Int32 → Prop) (hw : wp_Pm_get post postx trp tC tU tS tL tD fte k ix) : tr_Met l y_Pm_get [.code y_Pm_get b_Pm_get 3 (some .int)] ({ frames := 8, cells := 1, slots := 6, locals := 140 } : Room) (cm G [.ref h, .int k, .int ix] [(h, .inr (1, [.ref m0, .ref aml, .ref amb, .ref t0, .ref atl, .ref att, .ref ate, .ref b0, .ref asb, .ref r0, .ref asr, .int trp])), (t0, .inr (0, [.int 200, .ref t1, .ref t2, .ref t3, .int tC, .int tU])), (t1, .inl (G.2.1 0, 6, .inl tS)), (t2, .inl (G.2.1 0, 6, .inl tL)), (t3, .inl (G.2.1 2, 6, .inl tD)), (ate, .inl (G.2.1 0, 200, .inl fte))] sz) (va_Qi post (fun u t => va_P G.1 vwC [(h, .inr (1, [.ref m0, .ref aml, .ref amb, .ref t0, .ref atl, .ref att, .ref ate, .ref b0, .ref asb, .ref r0, .ref asr, .int u])), (t0, .inr (0, [.int 200, .ref t1, .ref t2, .ref t3, .int tC, .int tU])), (t1, .inl (G.2.1 0, 6, .inl tS)), (t2, .inl (G.2.1 0, 6, .inl tL)), (t3, .inl (G.2.1 2, 6, .inl tD)), (ate, .inl (G.2.1 0, 200, .inl fte))] t.heap) (va_A [(h, .inr (1, [.ref m0, .ref aml, .ref amb, .ref t0, .ref atl, .ref att, .ref ate, .ref b0, .ref asb, .ref r0, .ref asr, .int trp])), (t0, .inr (0, [.int 200, .ref t1, .ref t2, .ref t3, .int tC, .int tU])), (t1, .inl (G.2.1 0, 6, .inl tS)), (t2, .inl (G.2.1 0, 6, .inl tL)), (t3, .inl (G.2.1 2, 6, .inl tD)), (ate, .inl (G.2.1 0, 200, .inl fte))] sz)) (fun E t => ∃ u : Int32, postx E u ∧ va_P G.1 vwC [(h, .inr (1, [.ref m0, .ref aml, .ref amb, .ref t0, .ref atl, .ref att, .ref ate, .ref b0, .ref asb, .ref r0, .ref asr, .int u])), (t0, .inr (0, [.int 200, .ref t1, .ref t2, .ref t3, .int tC, .int tU])), (t1, .inl (G.2.1 0, 6, .inl tS)), (t2, .inl (G.2.1 0, 6, .inl tL)), (t3, .inl (G.2.1 2, 6, .inl tD)), (ate, .inl (G.2.1 0, 200, .inl fte))] t.heap) (va_A [(h, .inr (1, [.ref m0, .ref aml, .ref amb, .ref t0, .ref atl, .ref att, .ref ate, .ref b0, .ref asb, .ref r0, .ref asr, .int trp])), (t0, .inr (0, [.int 200, .ref t1, .ref t2, .ref t3, .int tC, .int tU])), (t1, .inl (G.2.1 0, 6, .inl tS)), (t2, .inl (G.2.1 0, 6, .inl tL)), (t3, .inl (G.2.1 2, 6, .inl tD)), (ate, .inl (G.2.1 0, 200, .inl fte))] sz) 1 6 := by
  refine tr_ofW (cc := b_Pm_get) (maxL := 3) (ret := (some .int)) (by decide +kernel) rfl ?_
  intro p e s m args below meth c s₁ B hml hv
  obtain ⟨rfl, hsz, hcx, hP, hD0⟩ := hv
  have hx := B.exec
  have hb := B.bytes
  have hr := B.returns
  have hlocks := B.notSynchronized
  have hown : s.vm.findClass R_Pm = some m.cls := findClass_of_methodNamed B.named
  have hnt := tr_nt (ws := [.code y_Pm_get b_Pm_get 3 (some .int)]) (rm := ({ frames := 8, cells := 1, slots := 6, locals := 140 } : Room)) B rfl
  subst hsz
  have hD := hD0.self (sz := s.heap.size)
  generalize hAe : va_A [(h, .inr (1, [.ref m0, .ref aml, .ref amb, .ref t0, .ref atl, .ref att, .ref ate, .ref b0, .ref asb, .ref r0, .ref asr, .int trp])), (t0, .inr (0, [.int 200, .ref t1, .ref t2, .ref t3, .int tC, .int tU])), (t1, .inl (G.2.1 0, 6, .inl tS)), (t2, .inl (G.2.1 0, 6, .inl tL)), (t3, .inl (G.2.1 2, 6, .inl tD)), (ate, .inl (G.2.1 0, 200, .inl fte))] s.heap.size = A at hD hcx ⊢
  have hA : ∀ q : Nat, s.heap.size ≤ q → A q := fun q h => by rw [← hAe]; exact Or.inr h
  have hS : va_S A s.heap s.heap [] := va_S.rf
  have hts := hcx.now.1 [.ref h, .int k, .int ix].toArray
  have hK := hcx.now.2.1
  have hl := lv_entry ([.ref h, .int k, .int ix]) (n := 3) (Nat.le_of_ble_eq_true rfl)
  rw [lg_entry_eq]
  generalize (lg_sl ([.ref h, .int k, .int ix]) ++ List.replicate (3 - (lg_sl ([.ref h, .int k, .int ix])).length) Slot.unset).toArray = ls at hl ⊢
  have hl : lv_has ls 3 [(0, .ref h), (1, .int k), (2, .int ix)] := hl
  unfold wp_Pm_get at hw
  refine lv_aload_n hx hb d_Pm_get_0 rfl (lv_at hl 0 rfl) ?_
  refine lv_iconst (v := 0) hx hb d_Pm_get_1 (by decide) ?_
  refine va_put (D := G.1) (ci := 1) (v := .int 0) (ty := (.int)) (C := R_Pm) (T := T_Pm) (N := 12) hx hb hts in_Pm ty_Pm tk_Pm nm_Pm hown hK hP hD hS 0 rfl rfl 11 (by decide) (hts _ fl_Pm_50) (fun _ h9 => h9) rfl (by decide +kernel) rfl rfl (Nat.le_of_ble_eq_true rfl) d_Pm_get_2 (fun H locs hP hD hS => ?_)
  have hP : va_P G.1 vwC [(h, .inr (1, [.ref m0, .ref aml, .ref amb, .ref t0, .ref atl, .ref att, .ref ate, .ref b0, .ref asb, .ref r0, .ref asr, .int 0])), (t0, .inr (0, [.int 200, .ref t1, .ref t2, .ref t3, .int tC, .int tU])), (t1, .inl (G.2.1 0, 6, .inl tS)), (t2, .inl (G.2.1 0, 6, .inl tL)), (t3, .inl (G.2.1 2, 6, .inl tD)), (ate, .inl (G.2.1 0, 200, .inl fte))] H := hP
  have hD : va_D A [(h, .inr (1, [.ref m0, .ref aml, .ref amb, .ref t0, .ref atl, .ref att, .ref ate, .ref b0, .ref asb, .ref r0, .ref asr, .int 0])), (t0, .inr (0, [.int 200, .ref t1, .ref t2, .ref t3, .int tC, .int tU])), (t1, .inl (G.2.1 0, 6, .inl tS)), (t2, .inl (G.2.1 0, 6, .inl tL)), (t3, .inl (G.2.1 2, 6, .inl tD)), (ate, .inl (G.2.1 0, 200, .inl fte))] := hD
  refine lv_aload_n hx hb d_Pm_get_5 rfl (lv_at hl 0 rfl) ?_
  refine va_get (D := G.1) (ci := 1) (v := .ref t0) (C := R_Pm) (T := T_Pm) (N := 12) hx hb hts in_Pm hown hK hP 0 rfl rfl 3 (by decide) (hts _ fl_Pm_26) (fun _ h9 => h9) rfl d_Pm_get_6 ?_
  refine lv_iload_n hx hb d_Pm_get_9 rfl (lv_at hl 1 rfl) ?_
  have hPc := hP.sub (ws' := [(t0, .inr (0, [.int 200, .ref t1, .ref t2, .ref t3, .int tC, .int tU])), (t1, .inl (G.2.1 0, 6, .inl tS)), (t2, .inl (G.2.1 0, 6, .inl tL)), (t3, .inl (G.2.1 2, 6, .inl tD))]) [1, 2, 3, 4] rfl
  refine pu_i (va_runV (As := [.int k]) (rest := []) ⟨hx, hb, hml, hown, hts⟩ (c_Ly_has l G t0 t1 t2 t3 6 200 tC tU tS tL tD k) (cwV 1 hts (gi_V ml_Pm_67 im_Ly_has se_Ly_has ini_Ly co_Ly_has) rfl rfl rfl (by decide +kernel) ⟨Nat.le_of_ble_eq_true rfl, Nat.le_of_ble_eq_true rfl⟩) ⟨cp_blind, va_recv hK hPc (ci := 0) (q0 := 0) rfl rfl, cp_pre hcx hS hPc⟩ rfl rfl hl.1 rfl (lv_room (Nat.le_of_ble_eq_true rfl)) d_Pm_get_10 ⟨Nat.le_of_ble_eq_true rfl, Nat.le_of_ble_eq_true rfl⟩) hS hP (fun H locs hP hS => ?_)
  refine lv_if_ne (tgt := 26) hx hb d_Pm_get_13 (by decide) (fun c_1 => ?_) (fun c_1 => ?_)
  · replace hw := hw.1 c_1
    refine lv_aload_n hx hb d_Pm_get_26 rfl (lv_at hl 0 rfl) ?_
    refine va_get (D := G.1) (ci := 1) (v := .ref ate) (C := R_Pm) (T := T_Pm) (N := 12) hx hb hts in_Pm hown hK hP 0 rfl rfl 6 (by decide) (hts _ fl_Pm_35) (fun _ h9 => h9) rfl d_Pm_get_27 ?_
    refine lv_aload_n hx hb d_Pm_get_30 rfl (lv_at hl 0 rfl) ?_
    refine lv_aload_n hx hb d_Pm_get_31 rfl (lv_at hl 0 rfl) ?_
    refine va_get (D := G.1) (ci := 1) (v := .ref t0) (C := R_Pm) (T := T_Pm) (N := 12) hx hb hts in_Pm hown hK hP 0 rfl rfl 3 (by decide) (hts _ fl_Pm_26) (fun _ h9 => h9) rfl d_Pm_get_32 ?_
    refine lv_iload_n hx hb d_Pm_get_35 rfl (lv_at hl 1 rfl) ?_
    refine lv_iload_n hx hb d_Pm_get_36 rfl (lv_at hl 2 rfl) ?_
    have hPc := hP.sub (ws' := []) [] rfl
    refine pu_l (va_runS (As := [.int ix]) (rest := [.int k, .ref t0, .ref h, .ref ate]) ⟨hx, hb, hml, hown, hts⟩ (c_Pm_unsigned l G ix) (va_cwS 1 hts (gi_S ml_Pm_74 sm_Pm_unsigned ini_Pm co_Pm_unsigned) rfl rfl rfl (by decide +kernel) ⟨Nat.le_of_ble_eq_true rfl, Nat.le_of_ble_eq_true rfl⟩) ⟨cp_blind, cp_pre hcx hS hPc⟩ rfl rfl hl.1 rfl (lv_room (Nat.le_of_ble_eq_true rfl)) d_Pm_get_37 ⟨Nat.le_of_ble_eq_true rfl, Nat.le_of_ble_eq_true rfl⟩) hS hP (fun H locs hP hS => ?_)
    refine lv_lconst (v := 1) hx hb d_Pm_get_40 (by decide) ?_
    refine lv_iconst (v := 5) hx hb d_Pm_get_41 (by decide) ?_
    obtain ⟨h_2, hw⟩ := hw
    have hPc := hP.sub (ws' := [(h, .inr (1, [.ref m0, .ref aml, .ref amb, .ref t0, .ref atl, .ref att, .ref ate, .ref b0, .ref asb, .ref r0, .ref asr, .int 0])), (t0, .inr (0, [.int 200, .ref t1, .ref t2, .ref t3, .int tC, .int tU])), (t1, .inl (G.2.1 0, 6, .inl tS)), (t2, .inl (G.2.1 0, 6, .inl tL)), (t3, .inl (G.2.1 2, 6, .inl tD))]) [0, 1, 2, 3, 4] rfl
    have hDc := hD.sub (ws' := [(h, .inr (1, [.ref m0, .ref aml, .ref amb, .ref t0, .ref atl, .ref att, .ref ate, .ref b0, .ref asb, .ref r0, .ref asr, .int 0])), (t0, .inr (0, [.int 200, .ref t1, .ref t2, .ref t3, .int tC, .int tU])), (t1, .inl (G.2.1 0, 6, .inl tS)), (t2, .inl (G.2.1 0, 6, .inl tL)), (t3, .inl (G.2.1 2, 6, .inl tD))]) [0, 1, 2, 3, 4] (by decide) rfl
    have hFc := va_free (wc := [(h, .inr (1, [.ref m0, .ref aml, .ref amb, .ref t0, .ref atl, .ref att, .ref ate, .ref b0, .ref asb, .ref r0, .ref asr, .int 0])), (t0, .inr (0, [.int 200, .ref t1, .ref t2, .ref t3, .int tC, .int tU])), (t1, .inl (G.2.1 0, 6, .inl tS)), (t2, .inl (G.2.1 0, 6, .inl tL)), (t3, .inl (G.2.1 2, 6, .inl tD))]) hD hS hA [0, 1, 2, 3, 4] rfl
    refine tx_i (tr_runV (As := [.ref t0, .int k, .long (u32 ix), .long 1, .int 5]) (rest := [.ref ate]) ⟨hx, hb, hml, hown, hts⟩ (c_Pm_placeOf l hst G h m0 aml amb t0 atl att ate b0 asb r0 asr t0 t1 t2 t3 6 0 200 tC tU tS tL tD k (u32 ix) 1 5 _ h_2) (cwV 5 hts (gi_V ml_Pm_113 im_Pm_placeOf se_Pm_placeOf ini_Pm co_Pm_placeOf) rfl rfl rfl (by decide +kernel) ⟨Nat.le_of_ble_eq_true rfl, Nat.le_of_ble_eq_true rfl⟩) ⟨cm_blind, va_recv hK hPc (ci := 1) (q0 := 0) rfl rfl, cm_pre hcx hS hPc hDc hFc⟩ rfl rfl hl.1 rfl (lv_room (Nat.le_of_ble_eq_true rfl)) d_Pm_get_42 ⟨Nat.le_of_ble_eq_true rfl, Nat.le_of_ble_eq_true rfl⟩) hS hP hD hA [0, 1, 2, 3, 4] rfl (fun _ => rfl) (fun _ => rfl) (fun E9 u9 hp q9 ce9 H locs hP hD hS h91 h92 h93 => ?_) (fun r9 u9 H locs hp hP hD hS => ?_)
    · obtain ⟨hN, rfl, rfl⟩ := hp
      exact tr_pass (hnt _) hlocks h91 h92 h93 (fun t ht => ⟨5, hw.2 hN, by have h9 := hP; rw [← ht] at h9; exact h9⟩) hS (Nat.le_of_ble_eq_true rfl) (Nat.le_of_ble_eq_true rfl)
    · obtain ⟨hN, e91, e92⟩ := hp; replace e91 := e91.symm; replace e92 := e92.symm; subst e91; subst e92
      replace hw := hw.1 hN
      have hP : va_P G.1 vwC [(h, .inr (1, [.ref m0, .ref aml, .ref amb, .ref t0, .ref atl, .ref att, .ref ate, .ref b0, .ref asb, .ref r0, .ref asr, .int 0])), (t0, .inr (0, [.int 200, .ref t1, .ref t2, .ref t3, .int tC, .int tU])), (t1, .inl (G.2.1 0, 6, .inl tS)), (t2, .inl (G.2.1 0, 6, .inl tL)), (t3, .inl (G.2.1 2, 6, .inl tD)), (ate, .inl (G.2.1 0, 200, .inl fte))] H := hP
      have hD : va_D A [(h, .inr (1, [.ref m0, .ref aml, .ref amb, .ref t0, .ref atl, .ref att, .ref ate, .ref b0, .ref asb, .ref r0, .ref asr, .int 0])), (t0, .inr (0, [.int 200, .ref t1, .ref t2, .ref t3, .int tC, .int tU])), (t1, .inl (G.2.1 0, 6, .inl tS)), (t2, .inl (G.2.1 0, 6, .inl tL)), (t3, .inl (G.2.1 2, 6, .inl tD)), (ate, .inl (G.2.1 0, 200, .inl fte))] := hD
      obtain ⟨h_3, hw⟩ := hw
      refine va_iald hx hb hK hP 5 0 rfl rfl h_3 d_Pm_get_45 ?_
      exact tr_ret (W.iret (v := fte (ly_st tC k tS + (u32 ix).toInt32).toNatClampNeg) hx hb hr (fun t ht hW => ⟨⟨fte (ly_st tC k tS + (u32 ix).toInt32).toNatClampNeg, 0, rfl, hw, by have h9 := hP; rw [← ht] at h9; exact h9⟩, hS.F ht⟩) hS.2.2 d_Pm_get_46)
  · replace hw := hw.2 c_1
    exact tr_throw hx hb hst hown (by decide +kernel) (by decide +kernel) (hcx.imp (fun V h => tw_ill_156 V h)) hS (hl.1.trans hml.symm) d_Pm_get_16 d_Pm_get_19 d_Pm_get_20 d_Pm_get_22 d_Pm_get_25 (hnt _) (Nat.le_of_ble_eq_true rfl) (Nat.le_of_ble_eq_true rfl) (Nat.le_of_ble_eq_true rfl) (Nat.le_of_ble_eq_true rfl) hlocks (fun t h1 h2 => ⟨0, hw, hP.kept fun k q hq => h2 q.1 (hP k q hq).lt⟩) hA (Nat.le_of_ble_eq_true rfl) (Nat.le_of_ble_eq_true rfl)
def wp_Pm_set (post : (Int32 × (Nat → Int32)) → Prop) (postx : String → (Int32 × (Nat → Int32)) → Prop) (trp : Int32) (tC : Int32) (tU : Int32) (tS : Nat → Int32) (tL : Nat → Int32) (tD : Nat → Int32) (fte : Nat → Int32) (k : Int32) (ix : Int32) (rf : Int32) : Prop := ((ly_has tC k = 0 → (postx E_ill (0, fte))) ∧ (¬ ly_has tC k = 0 → (((¬ is_ref rf = 0 → ((tC.toInt ≤ 6) ∧ (((lg_cmp ((u32 ix) + 1) (ly_ln tC k tL).toInt64 ≤ 0 → ((vp_in (ly_st tC k tS + (u32 ix).toInt32) 200) ∧ ∀ a_5 : Nat → Int32, a_5 = upd fte (ly_st tC k tS + (u32 ix).toInt32).toNatClampNeg rf → (post (0, a_5)))) ∧ (¬ lg_cmp ((u32 ix) + 1) (ly_ln tC k tL).toInt64 ≤ 0 → (postx E_uns (5, fte))))))) ∧ (is_ref rf = 0 → (postx E_ill (0, fte)))))))
set_option maxHeartbeats 4000000 in
set_option maxRecDepth 100000 in
theorem t_Pm_set (l : Launch) (hst : l.stackTraces = false) (G : cxT) (h : Nat) (m0 : Nat) (aml : Nat) (amb : Nat) (t0 : Nat) (atl : Nat) (att : Nat) (ate : Nat) (b0 : Nat) (asb : Nat) (r0 : Nat) (asr : Nat) (t1 : Nat) (t2 : Nat) (t3 : Nat) (trp : Int32) (tC : Int32) (tU : Int32) (tS : Nat → Int32) (tL : Nat → Int32) (tD : Nat → Int32) (fte : Nat → Int32) (k : Int32) (ix : Int32) (rf : Int32) (sz : Nat) (post : (Int32 × (Nat → Int32)) → Prop) (postx : String → (Int32 × (Nat → Int32)) → Prop) (hw : wp_Pm_set post postx trp tC tU tS tL tD fte k ix rf) : tr_Met l y_Pm_set [.code y_Pm_set b_Pm_set 4 none] ({ frames := 8, cells := 1, slots := 6, locals := 140 } : Room) (cm G [.ref h, .int k, .int ix, .int rf] [(h, .inr (1, [.ref m0, .ref aml, .ref amb, .ref t0, .ref atl, .ref att, .ref ate, .ref b0, .ref asb, .ref r0, .ref asr, .int trp])), (t0, .inr (0, [.int 200, .ref t1, .ref t2, .ref t3, .int tC, .int tU])), (t1, .inl (G.2.1 0, 6, .inl tS)), (t2, .inl (G.2.1 0, 6, .inl tL)), (t3, .inl (G.2.1 2, 6, .inl tD)), (ate, .inl (G.2.1 0, 200, .inl fte))] sz) (va_Qv post (fun u t => va_P G.1 vwC [(h, .inr (1, [.ref m0, .ref aml, .ref amb, .ref t0, .ref atl, .ref att, .ref ate, .ref b0, .ref asb, .ref r0, .ref asr, .int u.1])), (t0, .inr (0, [.int 200, .ref t1, .ref t2, .ref t3, .int tC, .int tU])), (t1, .inl (G.2.1 0, 6, .inl tS)), (t2, .inl (G.2.1 0, 6, .inl tL)), (t3, .inl (G.2.1 2, 6, .inl tD)), (ate, .inl (G.2.1 0, 200, .inl u.2))] t.heap) (va_A [(h, .inr (1, [.ref m0, .ref aml, .ref amb, .ref t0, .ref atl, .ref att, .ref ate, .ref b0, .ref asb, .ref r0, .ref asr, .int trp])), (t0, .inr (0, [.int 200, .ref t1, .ref t2, .ref t3, .int tC, .int tU])), (t1, .inl (G.2.1 0, 6, .inl tS)), (t2, .inl (G.2.1 0, 6, .inl tL)), (t3, .inl (G.2.1 2, 6, .inl tD)), (ate, .inl (G.2.1 0, 200, .inl fte))] sz)) (fun E t => ∃ u : Int32 × (Nat → Int32), postx E u ∧ va_P G.1 vwC [(h, .inr (1, [.ref m0, .ref aml, .ref amb, .ref t0, .ref atl, .ref att, .ref ate, .ref b0, .ref asb, .ref r0, .ref asr, .int u.1])), (t0, .inr (0, [.int 200, .ref t1, .ref t2, .ref t3, .int tC, .int tU])), (t1, .inl (G.2.1 0, 6, .inl tS)), (t2, .inl (G.2.1 0, 6, .inl tL)), (t3, .inl (G.2.1 2, 6, .inl tD)), (ate, .inl (G.2.1 0, 200, .inl u.2))] t.heap) (va_A [(h, .inr (1, [.ref m0, .ref aml, .ref amb, .ref t0, .ref atl, .ref att, .ref ate, .ref b0, .ref asb, .ref r0, .ref asr, .int trp])), (t0, .inr (0, [.int 200, .ref t1, .ref t2, .ref t3, .int tC, .int tU])), (t1, .inl (G.2.1 0, 6, .inl tS)), (t2, .inl (G.2.1 0, 6, .inl tL)), (t3, .inl (G.2.1 2, 6, .inl tD)), (ate, .inl (G.2.1 0, 200, .inl fte))] sz) 1 6 := by
  refine tr_ofW (cc := b_Pm_set) (maxL := 4) (ret := none) (by decide +kernel) rfl ?_
  intro p e s m args below meth c s₁ B hml hv
  obtain ⟨rfl, hsz, hcx, hP, hD0⟩ := hv
  have hx := B.exec
  have hb := B.bytes
  have hr := B.returns
  have hlocks := B.notSynchronized
  have hown : s.vm.findClass R_Pm = some m.cls := findClass_of_methodNamed B.named
  have hnt := tr_nt (ws := [.code y_Pm_set b_Pm_set 4 none]) (rm := ({ frames := 8, cells := 1, slots := 6, locals := 140 } : Room)) B rfl
  subst hsz
  have hD := hD0.self (sz := s.heap.size)
  generalize hAe : va_A [(h, .inr (1, [.ref m0, .ref aml, .ref amb, .ref t0, .ref atl, .ref att, .ref ate, .ref b0, .ref asb, .ref r0, .ref asr, .int trp])), (t0, .inr (0, [.int 200, .ref t1, .ref t2, .ref t3, .int tC, .int tU])), (t1, .inl (G.2.1 0, 6, .inl tS)), (t2, .inl (G.2.1 0, 6, .inl tL)), (t3, .inl (G.2.1 2, 6, .inl tD)), (ate, .inl (G.2.1 0, 200, .inl fte))] s.heap.size = A at hD hcx ⊢
  have hA : ∀ q : Nat, s.heap.size ≤ q → A q := fun q h => by rw [← hAe]; exact Or.inr h
  have hS : va_S A s.heap s.heap [] := va_S.rf
  have hts := hcx.now.1 [.ref h, .int k, .int ix, .int rf].toArray
  have hK := hcx.now.2.1
  have hl := lv_entry ([.ref h, .int k, .int ix, .int rf]) (n := 4) (Nat.le_of_ble_eq_true rfl)
  rw [lg_entry_eq]
  generalize (lg_sl ([.ref h, .int k, .int ix, .int rf]) ++ List.replicate (4 - (lg_sl ([.ref h, .int k, .int ix, .int rf])).length) Slot.unset).toArray = ls at hl ⊢
  have hl : lv_has ls 4 [(0, .ref h), (1, .int k), (2, .int ix), (3, .int rf)] := hl
  unfold wp_Pm_set at hw
  refine lv_aload_n hx hb d_Pm_set_0 rfl (lv_at hl 0 rfl) ?_
  refine lv_iconst (v := 0) hx hb d_Pm_set_1 (by decide) ?_
  refine va_put (D := G.1) (ci := 1) (v := .int 0) (ty := (.int)) (C := R_Pm) (T := T_Pm) (N := 12) hx hb hts in_Pm ty_Pm tk_Pm nm_Pm hown hK hP hD hS 0 rfl rfl 11 (by decide) (hts _ fl_Pm_50) (fun _ h9 => h9) rfl (by decide +kernel) rfl rfl (Nat.le_of_ble_eq_true rfl) d_Pm_set_2 (fun H locs hP hD hS => ?_)
  have hP : va_P G.1 vwC [(h, .inr (1, [.ref m0, .ref aml, .ref amb, .ref t0, .ref atl, .ref att, .ref ate, .ref b0, .ref asb, .ref r0, .ref asr, .int 0])), (t0, .inr (0, [.int 200, .ref t1, .ref t2, .ref t3, .int tC, .int tU])), (t1, .inl (G.2.1 0, 6, .inl tS)), (t2, .inl (G.2.1 0, 6, .inl tL)), (t3, .inl (G.2.1 2, 6, .inl tD)), (ate, .inl (G.2.1 0, 200, .inl fte))] H := hP
  have hD : va_D A [(h, .inr (1, [.ref m0, .ref aml, .ref amb, .ref t0, .ref atl, .ref att, .ref ate, .ref b0, .ref asb, .ref r0, .ref asr, .int 0])), (t0, .inr (0, [.int 200, .ref t1, .ref t2, .ref t3, .int tC, .int tU])), (t1, .inl (G.2.1 0, 6, .inl tS)), (t2, .inl (G.2.1 0, 6, .inl tL)), (t3, .inl (G.2.1 2, 6, .inl tD)), (ate, .inl (G.2.1 0, 200, .inl fte))] := hD
  refine lv_aload_n hx hb d_Pm_set_5 rfl (lv_at hl 0 rfl) ?_
  refine va_get (D := G.1) (ci := 1) (v := .ref t0) (C := R_Pm) (T := T_Pm) (N := 12) hx hb hts in_Pm hown hK hP 0 rfl rfl 3 (by decide) (hts _ fl_Pm_26) (fun _ h9 => h9) rfl d_Pm_set_6 ?_
  refine lv_iload_n hx hb d_Pm_set_9 rfl (lv_at hl 1 rfl) ?_
  have hPc := hP.sub (ws' := [(t0, .inr (0, [.int 200, .ref t1, .ref t2, .ref t3, .int tC, .int tU])), (t1, .inl (G.2.1 0, 6, .inl tS)), (t2, .inl (G.2.1 0, 6, .inl tL)), (t3, .inl (G.2.1 2, 6, .inl tD))]) [1, 2, 3, 4] rfl
  refine pu_i (va_runV (As := [.int k]) (rest := []) ⟨hx, hb, hml, hown, hts⟩ (c_Ly_has l G t0 t1 t2 t3 6 200 tC tU tS tL tD k) (cwV 1 hts (gi_V ml_Pm_67 im_Ly_has se_Ly_has ini_Ly co_Ly_has) rfl rfl rfl (by decide +kernel) ⟨Nat.le_of_ble_eq_true rfl, Nat.le_of_ble_eq_true rfl⟩) ⟨cp_blind, va_recv hK hPc (ci := 0) (q0 := 0) rfl rfl, cp_pre hcx hS hPc⟩ rfl rfl hl.1 rfl (lv_room (Nat.le_of_ble_eq_true rfl)) d_Pm_set_10 ⟨Nat.le_of_ble_eq_true rfl, Nat.le_of_ble_eq_true rfl⟩) hS hP (fun H locs hP hS => ?_)
  refine lv_if_eq (tgt := 23) hx hb d_Pm_set_13 (by decide) (fun c_1 => ?_) (fun c_1 => ?_)
  · replace hw := hw.1 c_1
    exact tr_throw hx hb hst hown (by decide +kernel) (by decide +kernel) (hcx.imp (fun V h => tw_ill_161 V h)) hS (hl.1.trans hml.symm) d_Pm_set_23 d_Pm_set_26 d_Pm_set_27 d_Pm_set_29 d_Pm_set_32 (hnt _) (Nat.le_of_ble_eq_true rfl) (Nat.le_of_ble_eq_true rfl) (Nat.le_of_ble_eq_true rfl) (Nat.le_of_ble_eq_true rfl) hlocks (fun t h1 h2 => ⟨(0, fte), hw, hP.kept fun k q hq => h2 q.1 (hP k q hq).lt⟩) hA (Nat.le_of_ble_eq_true rfl) (Nat.le_of_ble_eq_true rfl)
  · replace hw := hw.2 c_1
    refine lv_iload_n hx hb d_Pm_set_16 rfl (lv_at hl 3 rfl) ?_
    have hPc := hP.sub (ws' := []) [] rfl
    refine pu_i (va_runS (As := [.int rf]) (rest := []) ⟨hx, hb, hml, hown, hts⟩ (c_Pm_isReference l G rf) (va_cwS 1 hts (gi_S ml_Pm_158 sm_Pm_isReference ini_Pm co_Pm_isReference) rfl rfl rfl (by decide +kernel) ⟨Nat.le_of_ble_eq_true rfl, Nat.le_of_ble_eq_true rfl⟩) ⟨cp_blind, cp_pre hcx hS hPc⟩ rfl rfl hl.1 rfl (lv_room (Nat.le_of_ble_eq_true rfl)) d_Pm_set_17 ⟨Nat.le_of_ble_eq_true rfl, Nat.le_of_ble_eq_true rfl⟩) hS hP (fun H locs hP hS => ?_)
    refine lv_if_ne (tgt := 33) hx hb d_Pm_set_20 (by decide) (fun c_2 => ?_) (fun c_2 => ?_)
    · replace hw := hw.1 c_2
      refine lv_aload_n hx hb d_Pm_set_33 rfl (lv_at hl 0 rfl) ?_
      refine va_get (D := G.1) (ci := 1) (v := .ref ate) (C := R_Pm) (T := T_Pm) (N := 12) hx hb hts in_Pm hown hK hP 0 rfl rfl 6 (by decide) (hts _ fl_Pm_35) (fun _ h9 => h9) rfl d_Pm_set_34 ?_
      refine lv_aload_n hx hb d_Pm_set_37 rfl (lv_at hl 0 rfl) ?_
      refine lv_aload_n hx hb d_Pm_set_38 rfl (lv_at hl 0 rfl) ?_
      refine va_get (D := G.1) (ci := 1) (v := .ref t0) (C := R_Pm) (T := T_Pm) (N := 12) hx hb hts in_Pm hown hK hP 0 rfl rfl 3 (by decide) (hts _ fl_Pm_26) (fun _ h9 => h9) rfl d_Pm_set_39 ?_
      refine lv_iload_n hx hb d_Pm_set_42 rfl (lv_at hl 1 rfl) ?_
      refine lv_iload_n hx hb d_Pm_set_43 rfl (lv_at hl 2 rfl) ?_
      have hPc := hP.sub (ws' := []) [] rfl
      refine pu_l (va_runS (As := [.int ix]) (rest := [.int k, .ref t0, .ref h, .ref ate]) ⟨hx, hb, hml, hown, hts⟩ (c_Pm_unsigned l G ix) (va_cwS 1 hts (gi_S ml_Pm_74 sm_Pm_unsigned ini_Pm co_Pm_unsigned) rfl rfl rfl (by decide +kernel) ⟨Nat.le_of_ble_eq_true rfl, Nat.le_of_ble_eq_true rfl⟩) ⟨cp_blind, cp_pre hcx hS hPc⟩ rfl rfl hl.1 rfl (lv_room (Nat.le_of_ble_eq_true rfl)) d_Pm_set_44 ⟨Nat.le_of_ble_eq_true rfl, Nat.le_of_ble_eq_true rfl⟩) hS hP (fun H locs hP hS => ?_)
      refine lv_lconst (v := 1) hx hb d_Pm_set_47 (by decide) ?_
      refine lv_iconst (v := 5) hx hb d_Pm_set_48 (by decide) ?_
      obtain ⟨h_3, hw⟩ := hw
      have hPc := hP.sub (ws' := [(h, .inr (1, [.ref m0, .ref aml, .ref amb, .ref t0, .ref atl, .ref att, .ref ate, .ref b0, .ref asb, .ref r0, .ref asr, .int 0])), (t0, .inr (0, [.int 200, .ref t1, .ref t2, .ref t3, .int tC, .int tU])), (t1, .inl (G.2.1 0, 6, .inl tS)), (t2, .inl (G.2.1 0, 6, .inl tL)), (t3, .inl (G.2.1 2, 6, .inl tD))]) [0, 1, 2, 3, 4] rfl
      have hDc := hD.sub (ws' := [(h, .inr (1, [.ref m0, .ref aml, .ref amb, .ref t0, .ref atl, .ref att, .ref ate, .ref b0, .ref asb, .ref r0, .ref asr, .int 0])), (t0, .inr (0, [.int 200, .ref t1, .ref t2, .ref t3, .int tC, .int tU])), (t1, .inl (G.2.1 0, 6, .inl tS)), (t2, .inl (G.2.1 0, 6, .inl tL)), (t3, .inl (G.2.1 2, 6, .inl tD))]) [0, 1, 2, 3, 4] (by decide) rfl
      have hFc := va_free (wc := [(h, .inr (1, [.ref m0, .ref aml, .ref amb, .ref t0, .ref atl, .ref att, .ref ate, .ref b0, .ref asb, .ref r0, .ref asr, .int 0])), (t0, .inr (0, [.int 200, .ref t1, .ref t2, .ref t3, .int tC, .int tU])), (t1, .inl (G.2.1 0, 6, .inl tS)), (t2, .inl (G.2.1 0, 6, .inl tL)), (t3, .inl (G.2.1 2, 6, .inl tD))]) hD hS hA [0, 1, 2, 3, 4] rfl
      refine tx_i (tr_runV (As := [.ref t0, .int k, .long (u32 ix), .long 1, .int 5]) (rest := [.ref ate]) ⟨hx, hb, hml, hown, hts⟩ (c_Pm_placeOf l hst G h m0 aml amb t0 atl att ate b0 asb r0 asr t0 t1 t2 t3 6 0 200 tC tU tS tL tD k (u32 ix) 1 5 _ h_3) (cwV 5 hts (gi_V ml_Pm_113 im_Pm_placeOf se_Pm_placeOf ini_Pm co_Pm_placeOf) rfl rfl rfl (by decide +kernel) ⟨Nat.le_of_ble_eq_true rfl, Nat.le_of_ble_eq_true rfl⟩) ⟨cm_blind, va_recv hK hPc (ci := 1) (q0 := 0) rfl rfl, cm_pre hcx hS hPc hDc hFc⟩ rfl rfl hl.1 rfl (lv_room (Nat.le_of_ble_eq_true rfl)) d_Pm_set_49 ⟨Nat.le_of_ble_eq_true rfl, Nat.le_of_ble_eq_true rfl⟩) hS hP hD hA [0, 1, 2, 3, 4] rfl (fun _ => rfl) (fun _ => rfl) (fun E9 u9 hp q9 ce9 H locs hP hD hS h91 h92 h93 => ?_) (fun r9 u9 H locs hp hP hD hS => ?_)
      · obtain ⟨hN, rfl, rfl⟩ := hp
        exact tr_pass (hnt _) hlocks h91 h92 h93 (fun t ht => ⟨(5, fte), hw.2 hN, by have h9 := hP; rw [← ht] at h9; exact h9⟩) hS (Nat.le_of_ble_eq_true rfl) (Nat.le_of_ble_eq_true rfl)
      · obtain ⟨hN, e91, e92⟩ := hp; replace e91 := e91.symm; replace e92 := e92.symm; subst e91; subst e92
        replace hw := hw.1 hN
        have hP : va_P G.1 vwC [(h, .inr (1, [.ref m0, .ref aml, .ref amb, .ref t0, .ref atl, .ref att, .ref ate, .ref b0, .ref asb, .ref r0, .ref asr, .int 0])), (t0, .inr (0, [.int 200, .ref t1, .ref t2, .ref t3, .int tC, .int tU])), (t1, .inl (G.2.1 0, 6, .inl tS)), (t2, .inl (G.2.1 0, 6, .inl tL)), (t3, .inl (G.2.1 2, 6, .inl tD)), (ate, .inl (G.2.1 0, 200, .inl fte))] H := hP
        have hD : va_D A [(h, .inr (1, [.ref m0, .ref aml, .ref amb, .ref t0, .ref atl, .ref att, .ref ate, .ref b0, .ref asb, .ref r0, .ref asr, .int 0])), (t0, .inr (0, [.int 200, .ref t1, .ref t2, .ref t3, .int tC, .int tU])), (t1, .inl (G.2.1 0, 6, .inl tS)), (t2, .inl (G.2.1 0, 6, .inl tL)), (t3, .inl (G.2.1 2, 6, .inl tD)), (ate, .inl (G.2.1 0, 200, .inl fte))] := hD
        refine lv_iload_n hx hb d_Pm_set_52 rfl (lv_at hl 3 rfl) ?_
        obtain ⟨h_4, hw⟩ := hw
        obtain ⟨a_5, ea_5⟩ : ∃ z, z = upd fte (ly_st tC k tS + (u32 ix).toInt32).toNatClampNeg rf := ⟨_, rfl⟩
        replace hw := hw a_5 ea_5
        refine va_iast hx hb hK hP hD hS 5 0 rfl rfl h_4 d_Pm_set_53 (fun H locs hP hD hS => ?_)
        rw [← ea_5] at hP hD
        have hP : va_P G.1 vwC [(h, .inr (1, [.ref m0, .ref aml, .ref amb, .ref t0, .ref atl, .ref att, .ref ate, .ref b0, .ref asb, .ref r0, .ref asr, .int 0])), (t0, .inr (0, [.int 200, .ref t1, .ref t2, .ref t3, .int tC, .int tU])), (t1, .inl (G.2.1 0, 6, .inl tS)), (t2, .inl (G.2.1 0, 6, .inl tL)), (t3, .inl (G.2.1 2, 6, .inl tD)), (ate, .inl (G.2.1 0, 200, .inl a_5))] H := hP
        have hD : va_D A [(h, .inr (1, [.ref m0, .ref aml, .ref amb, .ref t0, .ref atl, .ref att, .ref ate, .ref b0, .ref asb, .ref r0, .ref asr, .int 0])), (t0, .inr (0, [.int 200, .ref t1, .ref t2, .ref t3, .int tC, .int tU])), (t1, .inl (G.2.1 0, 6, .inl tS)), (t2, .inl (G.2.1 0, 6, .inl tL)), (t3, .inl (G.2.1 2, 6, .inl tD)), (ate, .inl (G.2.1 0, 200, .inl a_5))] := hD
        exact tr_ret (W.vret hx hb hr (fun t ht hW => ⟨⟨(0, a_5), rfl, hw, by have h9 := hP; rw [← ht] at h9; exact h9⟩, hS.F ht⟩) hS.2.2 d_Pm_set_54)
    · replace hw := hw.2 c_2
      exact tr_throw hx hb hst hown (by decide +kernel) (by decide +kernel) (hcx.imp (fun V h => tw_ill_161 V h)) hS (hl.1.trans hml.symm) d_Pm_set_23 d_Pm_set_26 d_Pm_set_27 d_Pm_set_29 d_Pm_set_32 (hnt _) (Nat.le_of_ble_eq_true rfl) (Nat.le_of_ble_eq_true rfl) (Nat.le_of_ble_eq_true rfl) (Nat.le_of_ble_eq_true rfl) hlocks (fun t h1 h2 => ⟨(0, fte), hw, hP.kept fun k q hq => h2 q.1 (hP k q hq).lt⟩) hA (Nat.le_of_ble_eq_true rfl) (Nat.le_of_ble_eq_true rfl)
def wp_Pm_fillTable (post : (Int32 × (Nat → Int32)) → Prop) (postx : String → (Int32 × (Nat → Int32)) → Prop) (trp : Int32) (tC : Int32) (tU : Int32) (tS : Nat → Int32) (tL : Nat → Int32) (tD : Nat → Int32) (fte : Nat → Int32) (k : Int32) (to : Int32) (rf : Int32) (cn : Int32) : Prop := ((ly_has tC k = 0 → (postx E_ill (0, fte))) ∧ (¬ ly_has tC k = 0 → (((¬ is_ref rf = 0 → ((tC.toInt ≤ 6) ∧ (((lg_cmp ((u32 to) + (u32 cn)) (ly_ln tC k tL).toInt64 ≤ 0 → (∀ x_4 : Int32, x_4 = ly_st tC k tS + (u32 to).toInt32 → ((¬ x_4 < 0) ∧ ((x_4 ≤ (x_4 + cn)) ∧ (((x_4 + cn) ≤ nI 200) ∧ ((200 < 2147483648) ∧ (∀ u_9 : Nat → Int32, u_9 = ar_fill fte x_4.toNatClampNeg (x_4 + cn).toNatClampNeg rf → (post (0, u_9))))))))) ∧ (¬ lg_cmp ((u32 to) + (u32 cn)) (ly_ln tC k tL).toInt64 ≤ 0 → (postx E_uns (5, fte))))))) ∧ (is_ref rf = 0 → (postx E_ill (0, fte)))))))
set_option maxHeartbeats 4000000 in
set_option maxRecDepth 100000 in
theorem t_Pm_fillTable (l : Launch) (hst : l.stackTraces = false) (G : cxT) (h : Nat) (m0 : Nat) (aml : Nat) (amb : Nat) (t0 : Nat) (atl : Nat) (att : Nat) (ate : Nat) (b0 : Nat) (asb : Nat) (r0 : Nat) (asr : Nat) (t1 : Nat) (t2 : Nat) (t3 : Nat) (trp : Int32) (tC : Int32) (tU : Int32) (tS : Nat → Int32) (tL : Nat → Int32) (tD : Nat → Int32) (fte : Nat → Int32) (k : Int32) (to : Int32) (rf : Int32) (cn : Int32) (sz : Nat) (post : (Int32 × (Nat → Int32)) → Prop) (postx : String → (Int32 × (Nat → Int32)) → Prop) (hw : wp_Pm_fillTable post postx trp tC tU tS tL tD fte k to rf cn) : tr_Met l y_Pm_fillTable [.code y_Pm_fillTable b_Pm_fillTable 6 none] ({ frames := 8, cells := 1, slots := 6, locals := 140 } : Room) (cm G [.ref h, .int k, .int to, .int rf, .int cn] [(h, .inr (1, [.ref m0, .ref aml, .ref amb, .ref t0, .ref atl, .ref att, .ref ate, .ref b0, .ref asb, .ref r0, .ref asr, .int trp])), (t0, .inr (0, [.int 200, .ref t1, .ref t2, .ref t3, .int tC, .int tU])), (t1, .inl (G.2.1 0, 6, .inl tS)), (t2, .inl (G.2.1 0, 6, .inl tL)), (t3, .inl (G.2.1 2, 6, .inl tD)), (ate, .inl (G.2.1 0, 200, .inl fte))] sz) (va_Qv post (fun u t => va_P G.1 vwC [(h, .inr (1, [.ref m0, .ref aml, .ref amb, .ref t0, .ref atl, .ref att, .ref ate, .ref b0, .ref asb, .ref r0, .ref asr, .int u.1])), (t0, .inr (0, [.int 200, .ref t1, .ref t2, .ref t3, .int tC, .int tU])), (t1, .inl (G.2.1 0, 6, .inl tS)), (t2, .inl (G.2.1 0, 6, .inl tL)), (t3, .inl (G.2.1 2, 6, .inl tD)), (ate, .inl (G.2.1 0, 200, .inl u.2))] t.heap) (va_A [(h, .inr (1, [.ref m0, .ref aml, .ref amb, .ref t0, .ref atl, .ref att, .ref ate, .ref b0, .ref asb, .ref r0, .ref asr, .int trp])), (t0, .inr (0, [.int 200, .ref t1, .ref t2, .ref t3, .int tC, .int tU])), (t1, .inl (G.2.1 0, 6, .inl tS)), (t2, .inl (G.2.1 0, 6, .inl tL)), (t3, .inl (G.2.1 2, 6, .inl tD)), (ate, .inl (G.2.1 0, 200, .inl fte))] sz)) (fun E t => ∃ u : Int32 × (Nat → Int32), postx E u ∧ va_P G.1 vwC [(h, .inr (1, [.ref m0, .ref aml, .ref amb, .ref t0, .ref atl, .ref att, .ref ate, .ref b0, .ref asb, .ref r0, .ref asr, .int u.1])), (t0, .inr (0, [.int 200, .ref t1, .ref t2, .ref t3, .int tC, .int tU])), (t1, .inl (G.2.1 0, 6, .inl tS)), (t2, .inl (G.2.1 0, 6, .inl tL)), (t3, .inl (G.2.1 2, 6, .inl tD)), (ate, .inl (G.2.1 0, 200, .inl u.2))] t.heap) (va_A [(h, .inr (1, [.ref m0, .ref aml, .ref amb, .ref t0, .ref atl, .ref att, .ref ate, .ref b0, .ref asb, .ref r0, .ref asr, .int trp])), (t0, .inr (0, [.int 200, .ref t1, .ref t2, .ref t3, .int tC, .int tU])), (t1, .inl (G.2.1 0, 6, .inl tS)), (t2, .inl (G.2.1 0, 6, .inl tL)), (t3, .inl (G.2.1 2, 6, .inl tD)), (ate, .inl (G.2.1 0, 200, .inl fte))] sz) 1 6 := by
  refine tr_ofW (cc := b_Pm_fillTable) (maxL := 6) (ret := none) (by decide +kernel) rfl ?_
  intro p e s m args below meth c s₁ B hml hv
  obtain ⟨rfl, hsz, hcx, hP, hD0⟩ := hv
  have hx := B.exec
  have hb := B.bytes
  have hr := B.returns
  have hlocks := B.notSynchronized
  have hown : s.vm.findClass R_Pm = some m.cls := findClass_of_methodNamed B.named
  have hnt := tr_nt (ws := [.code y_Pm_fillTable b_Pm_fillTable 6 none]) (rm := ({ frames := 8, cells := 1, slots := 6, locals := 140 } : Room)) B rfl
  subst hsz
  have hD := hD0.self (sz := s.heap.size)
  generalize hAe : va_A [(h, .inr (1, [.ref m0, .ref aml, .ref amb, .ref t0, .ref atl, .ref att, .ref ate, .ref b0, .ref asb, .ref r0, .ref asr, .int trp])), (t0, .inr (0, [.int 200, .ref t1, .ref t2, .ref t3, .int tC, .int tU])), (t1, .inl (G.2.1 0, 6, .inl tS)), (t2, .inl (G.2.1 0, 6, .inl tL)), (t3, .inl (G.2.1 2, 6, .inl tD)), (ate, .inl (G.2.1 0, 200, .inl fte))] s.heap.size = A at hD hcx ⊢
  have hA : ∀ q : Nat, s.heap.size ≤ q → A q := fun q h => by rw [← hAe]; exact Or.inr h
  have hS : va_S A s.heap s.heap [] := va_S.rf
  have hts := hcx.now.1 [.ref h, .int k, .int to, .int rf, .int cn].toArray
  have hK := hcx.now.2.1
  have hl := lv_entry ([.ref h, .int k, .int to, .int rf, .int cn]) (n := 6) (Nat.le_of_ble_eq_true rfl)
  rw [lg_entry_eq]
  generalize (lg_sl ([.ref h, .int k, .int to, .int rf, .int cn]) ++ List.replicate (6 - (lg_sl ([.ref h, .int k, .int to, .int rf, .int cn])).length) Slot.unset).toArray = ls at hl ⊢
  have hl : lv_has ls 6 [(0, .ref h), (1, .int k), (2, .int to), (3, .int rf), (4, .int cn)] := hl
  unfold wp_Pm_fillTable at hw
  refine lv_aload_n hx hb d_Pm_fillTable_0 rfl (lv_at hl 0 rfl) ?_
  refine lv_iconst (v := 0) hx hb d_Pm_fillTable_1 (by decide) ?_
  refine va_put (D := G.1) (ci := 1) (v := .int 0) (ty := (.int)) (C := R_Pm) (T := T_Pm) (N := 12) hx hb hts in_Pm ty_Pm tk_Pm nm_Pm hown hK hP hD hS 0 rfl rfl 11 (by decide) (hts _ fl_Pm_50) (fun _ h9 => h9) rfl (by decide +kernel) rfl rfl (Nat.le_of_ble_eq_true rfl) d_Pm_fillTable_2 (fun H locs hP hD hS => ?_)
  have hP : va_P G.1 vwC [(h, .inr (1, [.ref m0, .ref aml, .ref amb, .ref t0, .ref atl, .ref att, .ref ate, .ref b0, .ref asb, .ref r0, .ref asr, .int 0])), (t0, .inr (0, [.int 200, .ref t1, .ref t2, .ref t3, .int tC, .int tU])), (t1, .inl (G.2.1 0, 6, .inl tS)), (t2, .inl (G.2.1 0, 6, .inl tL)), (t3, .inl (G.2.1 2, 6, .inl tD)), (ate, .inl (G.2.1 0, 200, .inl fte))] H := hP
  have hD : va_D A [(h, .inr (1, [.ref m0, .ref aml, .ref amb, .ref t0, .ref atl, .ref att, .ref ate, .ref b0, .ref asb, .ref r0, .ref asr, .int 0])), (t0, .inr (0, [.int 200, .ref t1, .ref t2, .ref t3, .int tC, .int tU])), (t1, .inl (G.2.1 0, 6, .inl tS)), (t2, .inl (G.2.1 0, 6, .inl tL)), (t3, .inl (G.2.1 2, 6, .inl tD)), (ate, .inl (G.2.1 0, 200, .inl fte))] := hD
  refine lv_aload_n hx hb d_Pm_fillTable_5 rfl (lv_at hl 0 rfl) ?_
  refine va_get (D := G.1) (ci := 1) (v := .ref t0) (C := R_Pm) (T := T_Pm) (N := 12) hx hb hts in_Pm hown hK hP 0 rfl rfl 3 (by decide) (hts _ fl_Pm_26) (fun _ h9 => h9) rfl d_Pm_fillTable_6 ?_
  refine lv_iload_n hx hb d_Pm_fillTable_9 rfl (lv_at hl 1 rfl) ?_
  have hPc := hP.sub (ws' := [(t0, .inr (0, [.int 200, .ref t1, .ref t2, .ref t3, .int tC, .int tU])), (t1, .inl (G.2.1 0, 6, .inl tS)), (t2, .inl (G.2.1 0, 6, .inl tL)), (t3, .inl (G.2.1 2, 6, .inl tD))]) [1, 2, 3, 4] rfl
  refine pu_i (va_runV (As := [.int k]) (rest := []) ⟨hx, hb, hml, hown, hts⟩ (c_Ly_has l G t0 t1 t2 t3 6 200 tC tU tS tL tD k) (cwV 1 hts (gi_V ml_Pm_67 im_Ly_has se_Ly_has ini_Ly co_Ly_has) rfl rfl rfl (by decide +kernel) ⟨Nat.le_of_ble_eq_true rfl, Nat.le_of_ble_eq_true rfl⟩) ⟨cp_blind, va_recv hK hPc (ci := 0) (q0 := 0) rfl rfl, cp_pre hcx hS hPc⟩ rfl rfl hl.1 rfl (lv_room (Nat.le_of_ble_eq_true rfl)) d_Pm_fillTable_10 ⟨Nat.le_of_ble_eq_true rfl, Nat.le_of_ble_eq_true rfl⟩) hS hP (fun H locs hP hS => ?_)
  refine lv_if_eq (tgt := 23) hx hb d_Pm_fillTable_13 (by decide) (fun c_1 => ?_) (fun c_1 => ?_)
  · replace hw := hw.1 c_1
    exact tr_throw hx hb hst hown (by decide +kernel) (by decide +kernel) (hcx.imp (fun V h => tw_ill_161 V h)) hS (hl.1.trans hml.symm) d_Pm_fillTable_23 d_Pm_fillTable_26 d_Pm_fillTable_27 d_Pm_fillTable_29 d_Pm_fillTable_32 (hnt _) (Nat.le_of_ble_eq_true rfl) (Nat.le_of_ble_eq_true rfl) (Nat.le_of_ble_eq_true rfl) (Nat.le_of_ble_eq_true rfl) hlocks (fun t h1 h2 => ⟨(0, fte), hw, hP.kept fun k q hq => h2 q.1 (hP k q hq).lt⟩) hA (Nat.le_of_ble_eq_true rfl) (Nat.le_of_ble_eq_true rfl)
  · replace hw := hw.2 c_1
    refine lv_iload_n hx hb d_Pm_fillTable_16 rfl (lv_at hl 3 rfl) ?_
    have hPc := hP.sub (ws' := []) [] rfl
    refine pu_i (va_runS (As := [.int rf]) (rest := []) ⟨hx, hb, hml, hown, hts⟩ (c_Pm_isReference l G rf) (va_cwS 1 hts (gi_S ml_Pm_158 sm_Pm_isReference ini_Pm co_Pm_isReference) rfl rfl rfl (by decide +kernel) ⟨Nat.le_of_ble_eq_true rfl, Nat.le_of_ble_eq_true rfl⟩) ⟨cp_blind, cp_pre hcx hS hPc⟩ rfl rfl hl.1 rfl (lv_room (Nat.le_of_ble_eq_true rfl)) d_Pm_fillTable_17 ⟨Nat.le_of_ble_eq_true rfl, Nat.le_of_ble_eq_true rfl⟩) hS hP (fun H locs hP hS => ?_)
    refine lv_if_ne (tgt := 33) hx hb d_Pm_fillTable_20 (by decide) (fun c_2 => ?_) (fun c_2 => ?_)
    · replace hw := hw.1 c_2
      refine lv_aload_n hx hb d_Pm_fillTable_33 rfl (lv_at hl 0 rfl) ?_
      refine lv_aload_n hx hb d_Pm_fillTable_34 rfl (lv_at hl 0 rfl) ?_
      refine va_get (D := G.1) (ci := 1) (v := .ref t0) (C := R_Pm) (T := T_Pm) (N := 12) hx hb hts in_Pm hown hK hP 0 rfl rfl 3 (by decide) (hts _ fl_Pm_26) (fun _ h9 => h9) rfl d_Pm_fillTable_35 ?_
      refine lv_iload_n hx hb d_Pm_fillTable_38 rfl (lv_at hl 1 rfl) ?_
      refine lv_iload_n hx hb d_Pm_fillTable_39 rfl (lv_at hl 2 rfl) ?_
      have hPc := hP.sub (ws' := []) [] rfl
      refine pu_l (va_runS (As := [.int to]) (rest := [.int k, .ref t0, .ref h]) ⟨hx, hb, hml, hown, hts⟩ (c_Pm_unsigned l G to) (va_cwS 1 hts (gi_S ml_Pm_74 sm_Pm_unsigned ini_Pm co_Pm_unsigned) rfl rfl rfl (by decide +kernel) ⟨Nat.le_of_ble_eq_true rfl, Nat.le_of_ble_eq_true rfl⟩) ⟨cp_blind, cp_pre hcx hS hPc⟩ rfl rfl hl.1 rfl (lv_room (Nat.le_of_ble_eq_true rfl)) d_Pm_fillTable_40 ⟨Nat.le_of_ble_eq_true rfl, Nat.le_of_ble_eq_true rfl⟩) hS hP (fun H locs hP hS => ?_)
      refine lv_iload hx hb d_Pm_fillTable_43 (lv_at hl 4 rfl) ?_
      have hPc := hP.sub (ws' := []) [] rfl
      refine pu_l (va_runS (As := [.int cn]) (rest := [.long (u32 to), .int k, .ref t0, .ref h]) ⟨hx, hb, hml, hown, hts⟩ (c_Pm_unsigned l G cn) (va_cwS 1 hts (gi_S ml_Pm_74 sm_Pm_unsigned ini_Pm co_Pm_unsigned) rfl rfl rfl (by decide +kernel) ⟨Nat.le_of_ble_eq_true rfl, Nat.le_of_ble_eq_true rfl⟩) ⟨cp_blind, cp_pre hcx hS hPc⟩ rfl rfl hl.1 rfl (lv_room (Nat.le_of_ble_eq_true rfl)) d_Pm_fillTable_45 ⟨Nat.le_of_ble_eq_true rfl, Nat.le_of_ble_eq_true rfl⟩) hS hP (fun H locs hP hS => ?_)
      refine lv_iconst (v := 5) hx hb d_Pm_fillTable_48 (by decide) ?_
      obtain ⟨h_3, hw⟩ := hw
      have hPc := hP.sub (ws' := [(h, .inr (1, [.ref m0, .ref aml, .ref amb, .ref t0, .ref atl, .ref att, .ref ate, .ref b0, .ref asb, .ref r0, .ref asr, .int 0])), (t0, .inr (0, [.int 200, .ref t1, .ref t2, .ref t3, .int tC, .int tU])), (t1, .inl (G.2.1 0, 6, .inl tS)), (t2, .inl (G.2.1 0, 6, .inl tL)), (t3, .inl (G.2.1 2, 6, .inl tD))]) [0, 1, 2, 3, 4] rfl
      have hDc := hD.sub (ws' := [(h, .inr (1, [.ref m0, .ref aml, .ref amb, .ref t0, .ref atl, .ref att, .ref ate, .ref b0, .ref asb, .ref r0, .ref asr, .int 0])), (t0, .inr (0, [.int 200, .ref t1, .ref t2, .ref t3, .int tC, .int tU])), (t1, .inl (G.2.1 0, 6, .inl tS)), (t2, .inl (G.2.1 0, 6, .inl tL)), (t3, .inl (G.2.1 2, 6, .inl tD))]) [0, 1, 2, 3, 4] (by decide) rfl
      have hFc := va_free (wc := [(h, .inr (1, [.ref m0, .ref aml, .ref amb, .ref t0, .ref atl, .ref att, .ref ate, .ref b0, .ref asb, .ref r0, .ref asr, .int 0])), (t0, .inr (0, [.int 200, .ref t1, .ref t2, .ref t3, .int tC, .int tU])), (t1, .inl (G.2.1 0, 6, .inl tS)), (t2, .inl (G.2.1 0, 6, .inl tL)), (t3, .inl (G.2.1 2, 6, .inl tD))]) hD hS hA [0, 1, 2, 3, 4] rfl
      refine tx_i (tr_runV (As := [.ref t0, .int k, .long (u32 to), .long (u32 cn), .int 5]) (rest := []) ⟨hx, hb, hml, hown, hts⟩ (c_Pm_placeOf l hst G h m0 aml amb t0 atl att ate b0 asb r0 asr t0 t1 t2 t3 6 0 200 tC tU tS tL tD k (u32 to) (u32 cn) 5 _ h_3) (cwV 5 hts (gi_V ml_Pm_113 im_Pm_placeOf se_Pm_placeOf ini_Pm co_Pm_placeOf) rfl rfl rfl (by decide +kernel) ⟨Nat.le_of_ble_eq_true rfl, Nat.le_of_ble_eq_true rfl⟩) ⟨cm_blind, va_recv hK hPc (ci := 1) (q0 := 0) rfl rfl, cm_pre hcx hS hPc hDc hFc⟩ rfl rfl hl.1 rfl (lv_room (Nat.le_of_ble_eq_true rfl)) d_Pm_fillTable_49 ⟨Nat.le_of_ble_eq_true rfl, Nat.le_of_ble_eq_true rfl⟩) hS hP hD hA [0, 1, 2, 3, 4] rfl (fun _ => rfl) (fun _ => rfl) (fun E9 u9 hp q9 ce9 H locs hP hD hS h91 h92 h93 => ?_) (fun r9 u9 H locs hp hP hD hS => ?_)
      · obtain ⟨hN, rfl, rfl⟩ := hp
        exact tr_pass (hnt _) hlocks h91 h92 h93 (fun t ht => ⟨(5, fte), hw.2 hN, by have h9 := hP; rw [← ht] at h9; exact h9⟩) hS (Nat.le_of_ble_eq_true rfl) (Nat.le_of_ble_eq_true rfl)
      · obtain ⟨hN, e91, e92⟩ := hp; replace e91 := e91.symm; replace e92 := e92.symm; subst e91; subst e92
        replace hw := hw.1 hN
        have hP : va_P G.1 vwC [(h, .inr (1, [.ref m0, .ref aml, .ref amb, .ref t0, .ref atl, .ref att, .ref ate, .ref b0, .ref asb, .ref r0, .ref asr, .int 0])), (t0, .inr (0, [.int 200, .ref t1, .ref t2, .ref t3, .int tC, .int tU])), (t1, .inl (G.2.1 0, 6, .inl tS)), (t2, .inl (G.2.1 0, 6, .inl tL)), (t3, .inl (G.2.1 2, 6, .inl tD)), (ate, .inl (G.2.1 0, 200, .inl fte))] H := hP
        have hD : va_D A [(h, .inr (1, [.ref m0, .ref aml, .ref amb, .ref t0, .ref atl, .ref att, .ref ate, .ref b0, .ref asb, .ref r0, .ref asr, .int 0])), (t0, .inr (0, [.int 200, .ref t1, .ref t2, .ref t3, .int tC, .int tU])), (t1, .inl (G.2.1 0, 6, .inl tS)), (t2, .inl (G.2.1 0, 6, .inl tL)), (t3, .inl (G.2.1 2, 6, .inl tD)), (ate, .inl (G.2.1 0, 200, .inl fte))] := hD
        refine lv_topi (fun x_4 ex_4 => ?_)
        replace hw := hw x_4 ex_4
        refine lv_istore (lv' := [(5, .int x_4), (0, .ref h), (1, .int k), (2, .int to), (3, .int rf), (4, .int cn)]) hx hb d_Pm_fillTable_52 hl (by decide) rfl (fun ls hl => ?_)
        refine lv_aload_n hx hb d_Pm_fillTable_54 rfl (lv_at hl 1 rfl) ?_
        refine va_get (D := G.1) (ci := 1) (v := .ref ate) (C := R_Pm) (T := T_Pm) (N := 12) hx hb hts in_Pm hown hK hP 0 rfl rfl 6 (by decide) (hts _ fl_Pm_35) (fun _ h9 => h9) rfl d_Pm_fillTable_55 ?_
        refine lv_iload hx hb d_Pm_fillTable_58 (lv_at hl 0 rfl) ?_
        refine lv_iload hx hb d_Pm_fillTable_60 (lv_at hl 0 rfl) ?_
        refine lv_iload hx hb d_Pm_fillTable_62 (lv_at hl 5 rfl) ?_
        refine lv_iadd hx hb d_Pm_fillTable_64 ?_
        refine lv_iload_n hx hb d_Pm_fillTable_65 rfl (lv_at hl 4 rfl) ?_
        obtain ⟨h_5, hw⟩ := hw
        obtain ⟨h_6, hw⟩ := hw
        obtain ⟨h_7, hw⟩ := hw
        obtain ⟨h_8, hw⟩ := hw
        have hPc := hP.sub (ws' := [(ate, .inl (G.2.1 0, 200, .inl fte))]) [5] rfl
        have hDc := hD.sub (ws' := [(ate, .inl (G.2.1 0, 200, .inl fte))]) [5] (by decide) rfl
        have hFc := va_free (wc := [(ate, .inl (G.2.1 0, 200, .inl fte))]) hD hS hA [5] rfl
        refine ip_v (va_runS (As := [.ref ate, .int x_4, .int (x_4 + cn), .int rf]) (rest := []) ⟨hx, hb, hml, hown, hts⟩ (c_Ar_fillI l G ate 200 fte x_4 (x_4 + cn) rf _ h_5 h_6 h_7 h_8) (va_cwS 4 hts (gi_S ml_Pm_153 sm_Ar_fillI ini_Ar co_Ar_fillI) rfl rfl rfl (by decide +kernel) ⟨Nat.le_of_ble_eq_true rfl, Nat.le_of_ble_eq_true rfl⟩) ⟨cm_blind, cm_pre hcx hS hPc hDc hFc⟩ rfl rfl hl.1 rfl (lv_room (Nat.le_of_ble_eq_true rfl)) d_Pm_fillTable_66 ⟨Nat.le_of_ble_eq_true rfl, Nat.le_of_ble_eq_true rfl⟩) hS hP hD hA [5] rfl (fun _ => rfl) (fun u9 H locs hp hP hD hS => ?_)
        replace hp := hp.symm; subst hp
        obtain ⟨u_9, eu_9⟩ : ∃ z : Nat → Int32, z = ar_fill fte x_4.toNatClampNeg (x_4 + cn).toNatClampNeg rf := ⟨_, rfl⟩
        replace hw := hw u_9 eu_9
        have hP : va_P G.1 vwC [(h, .inr (1, [.ref m0, .ref aml, .ref amb, .ref t0, .ref atl, .ref att, .ref ate, .ref b0, .ref asb, .ref r0, .ref asr, .int 0])), (t0, .inr (0, [.int 200, .ref t1, .ref t2, .ref t3, .int tC, .int tU])), (t1, .inl (G.2.1 0, 6, .inl tS)), (t2, .inl (G.2.1 0, 6, .inl tL)), (t3, .inl (G.2.1 2, 6, .inl tD)), (ate, .inl (G.2.1 0, 200, .inl (ar_fill fte x_4.toNatClampNeg (x_4 + cn).toNatClampNeg rf)))] H := hP
        have hD : va_D A [(h, .inr (1, [.ref m0, .ref aml, .ref amb, .ref t0, .ref atl, .ref att, .ref ate, .ref b0, .ref asb, .ref r0, .ref asr, .int 0])), (t0, .inr (0, [.int 200, .ref t1, .ref t2, .ref t3, .int tC, .int tU])), (t1, .inl (G.2.1 0, 6, .inl tS)), (t2, .inl (G.2.1 0, 6, .inl tL)), (t3, .inl (G.2.1 2, 6, .inl tD)), (ate, .inl (G.2.1 0, 200, .inl (ar_fill fte x_4.toNatClampNeg (x_4 + cn).toNatClampNeg rf)))] := hD
        have hP : va_P G.1 vwC [(h, .inr (1, [.ref m0, .ref aml, .ref amb, .ref t0, .ref atl, .ref att, .ref ate, .ref b0, .ref asb, .ref r0, .ref asr, .int 0])), (t0, .inr (0, [.int 200, .ref t1, .ref t2, .ref t3, .int tC, .int tU])), (t1, .inl (G.2.1 0, 6, .inl tS)), (t2, .inl (G.2.1 0, 6, .inl tL)), (t3, .inl (G.2.1 2, 6, .inl tD)), (ate, .inl (G.2.1 0, 200, .inl u_9))] H := by rw [eu_9]; exact hP
        have hD : va_D A [(h, .inr (1, [.ref m0, .ref aml, .ref amb, .ref t0, .ref atl, .ref att, .ref ate, .ref b0, .ref asb, .ref r0, .ref asr, .int 0])), (t0, .inr (0, [.int 200, .ref t1, .ref t2, .ref t3, .int tC, .int tU])), (t1, .inl (G.2.1 0, 6, .inl tS)), (t2, .inl (G.2.1 0, 6, .inl tL)), (t3, .inl (G.2.1 2, 6, .inl tD)), (ate, .inl (G.2.1 0, 200, .inl u_9))] := by rw [eu_9]; exact hD
        exact tr_ret (W.vret hx hb hr (fun t ht hW => ⟨⟨(0, u_9), rfl, hw, by have h9 := hP; rw [← ht] at h9; exact h9⟩, hS.F ht⟩) hS.2.2 d_Pm_fillTable_69)
    · replace hw := hw.2 c_2
      exact tr_throw hx hb hst hown (by decide +kernel) (by decide +kernel) (hcx.imp (fun V h => tw_ill_161 V h)) hS (hl.1.trans hml.symm) d_Pm_fillTable_23 d_Pm_fillTable_26 d_Pm_fillTable_27 d_Pm_fillTable_29 d_Pm_fillTable_32 (hnt _) (Nat.le_of_ble_eq_true rfl) (Nat.le_of_ble_eq_true rfl) (Nat.le_of_ble_eq_true rfl) (Nat.le_of_ble_eq_true rfl) hlocks (fun t h1 h2 => ⟨(0, fte), hw, hP.kept fun k q hq => h2 q.1 (hP k q hq).lt⟩) hA (Nat.le_of_ble_eq_true rfl) (Nat.le_of_ble_eq_true rfl)
def wp_Pm_copyTable (post : (Int32 × (Nat → Int32)) → Prop) (postx : String → (Int32 × (Nat → Int32)) → Prop) (trp : Int32) (tC : Int32) (tU : Int32) (tS : Nat → Int32) (tL : Nat → Int32) (tD : Nat → Int32) (ftt : Nat → Int32) (fte : Nat → Int32) (k : Int32) (k2 : Int32) (to : Int32) (fr : Int32) (cn : Int32) : Prop := ((ly_has tC k = 0 → (postx E_ill (0, fte))) ∧ (¬ ly_has tC k = 0 → (((ly_has tC k2 = 0 → (postx E_ill (0, fte))) ∧ (¬ ly_has tC k2 = 0 → ((vp_in k 6) ∧ ((vp_in k2 6) ∧ (((ftt k.toNatClampNeg = ftt k2.toNatClampNeg → ((tC.toInt ≤ 6) ∧ (((lg_cmp ((u32 fr) + (u32 cn)) (ly_ln tC k2 tL).toInt64 ≤ 0 → (∀ x_7 : Int32, x_7 = ly_st tC k2 tS + (u32 fr).toInt32 → ((tC.toInt ≤ 6) ∧ (((lg_cmp ((u32 to) + (u32 cn)) (ly_ln tC k tL).toInt64 ≤ 0 → (∀ x_9 : Int32, x_9 = ly_st tC k tS + (u32 to).toInt32 → ((¬ x_7 < 0) ∧ (¬ x_9 < 0) ∧ (¬ cn < 0) ∧ (x_7.toNatClampNeg + cn.toNatClampNeg ≤ 200) ∧ (x_9.toNatClampNeg + cn.toNatClampNeg ≤ 200) ∧ (∀ i, i < cn.toNatClampNeg → fits .int (.int (fte (x_7.toNatClampNeg + i))) = true) ∧ ∀ a_16 : Nat → Int32, a_16 = va_cpy fte fte x_7.toNatClampNeg x_9.toNatClampNeg cn.toNatClampNeg → (post (0, a_16))))) ∧ (¬ lg_cmp ((u32 to) + (u32 cn)) (ly_ln tC k tL).toInt64 ≤ 0 → (postx E_uns (5, fte)))))))) ∧ (¬ lg_cmp ((u32 fr) + (u32 cn)) (ly_ln tC k2 tL).toInt64 ≤ 0 → (postx E_uns (5, fte))))))) ∧ (¬ ftt k.toNatClampNeg = ftt k2.toNatClampNeg → (postx E_ill (0, fte))))))))))))
set_option maxHeartbeats 4000000 in
set_option maxRecDepth 100000 in
theorem t_Pm_copyTable (l : Launch) (hst : l.stackTraces = false) (G : cxT) (h : Nat) (m0 : Nat) (aml : Nat) (amb : Nat) (t0 : Nat) (atl : Nat) (att : Nat) (ate : Nat) (b0 : Nat) (asb : Nat) (r0 : Nat) (asr : Nat) (t1 : Nat) (t2 : Nat) (t3 : Nat) (trp : Int32) (tC : Int32) (tU : Int32) (tS : Nat → Int32) (tL : Nat → Int32) (tD : Nat → Int32) (ftt : Nat → Int32) (fte : Nat → Int32) (k : Int32) (k2 : Int32) (to : Int32) (fr : Int32) (cn : Int32) (sz : Nat) (post : (Int32 × (Nat → Int32)) → Prop) (postx : String → (Int32 × (Nat → Int32)) → Prop) (hw : wp_Pm_copyTable post postx trp tC tU tS tL tD ftt fte k k2 to fr cn) : tr_Met l y_Pm_copyTable [.code y_Pm_copyTable b_Pm_copyTable 8 none] ({ frames := 8, cells := 2, slots := 12, locals := 140 } : Room) (cm G [.ref h, .int k, .int k2, .int to, .int fr, .int cn] [(h, .inr (1, [.ref m0, .ref aml, .ref amb, .ref t0, .ref atl, .ref att, .ref ate, .ref b0, .ref asb, .ref r0, .ref asr, .int trp])), (t0, .inr (0, [.int 200, .ref t1, .ref t2, .ref t3, .int tC, .int tU])), (t1, .inl (G.2.1 0, 6, .inl tS)), (t2, .inl (G.2.1 0, 6, .inl tL)), (t3, .inl (G.2.1 2, 6, .inl tD)), (att, .inl (G.2.1 0, 6, .inl ftt)), (ate, .inl (G.2.1 0, 200, .inl fte))] sz) (va_Qv post (fun u t => va_P G.1 vwC [(h, .inr (1, [.ref m0, .ref aml, .ref amb, .ref t0, .ref atl, .ref att, .ref ate, .ref b0, .ref asb, .ref r0, .ref asr, .int u.1])), (t0, .inr (0, [.int 200, .ref t1, .ref t2, .ref t3, .int tC, .int tU])), (t1, .inl (G.2.1 0, 6, .inl tS)), (t2, .inl (G.2.1 0, 6, .inl tL)), (t3, .inl (G.2.1 2, 6, .inl tD)), (att, .inl (G.2.1 0, 6, .inl ftt)), (ate, .inl (G.2.1 0, 200, .inl u.2))] t.heap) (va_A [(h, .inr (1, [.ref m0, .ref aml, .ref amb, .ref t0, .ref atl, .ref att, .ref ate, .ref b0, .ref asb, .ref r0, .ref asr, .int trp])), (t0, .inr (0, [.int 200, .ref t1, .ref t2, .ref t3, .int tC, .int tU])), (t1, .inl (G.2.1 0, 6, .inl tS)), (t2, .inl (G.2.1 0, 6, .inl tL)), (t3, .inl (G.2.1 2, 6, .inl tD)), (att, .inl (G.2.1 0, 6, .inl ftt)), (ate, .inl (G.2.1 0, 200, .inl fte))] sz)) (fun E t => ∃ u : Int32 × (Nat → Int32), postx E u ∧ va_P G.1 vwC [(h, .inr (1, [.ref m0, .ref aml, .ref amb, .ref t0, .ref atl, .ref att, .ref ate, .ref b0, .ref asb, .ref r0, .ref asr, .int u.1])), (t0, .inr (0, [.int 200, .ref t1, .ref t2, .ref t3, .int tC, .int tU])), (t1, .inl (G.2.1 0, 6, .inl tS)), (t2, .inl (G.2.1 0, 6, .inl tL)), (t3, .inl (G.2.1 2, 6, .inl tD)), (att, .inl (G.2.1 0, 6, .inl ftt)), (ate, .inl (G.2.1 0, 200, .inl u.2))] t.heap) (va_A [(h, .inr (1, [.ref m0, .ref aml, .ref amb, .ref t0, .ref atl, .ref att, .ref ate, .ref b0, .ref asb, .ref r0, .ref asr, .int trp])), (t0, .inr (0, [.int 200, .ref t1, .ref t2, .ref t3, .int tC, .int tU])), (t1, .inl (G.2.1 0, 6, .inl tS)), (t2, .inl (G.2.1 0, 6, .inl tL)), (t3, .inl (G.2.1 2, 6, .inl tD)), (att, .inl (G.2.1 0, 6, .inl ftt)), (ate, .inl (G.2.1 0, 200, .inl fte))] sz) 2 12 := by
  refine tr_ofW (cc := b_Pm_copyTable) (maxL := 8) (ret := none) (by decide +kernel) rfl ?_
  intro p e s m args below meth c s₁ B hml hv
  obtain ⟨rfl, hsz, hcx, hP, hD0⟩ := hv
  have hx := B.exec
  have hb := B.bytes
  have hr := B.returns
  have hlocks := B.notSynchronized
  have hown : s.vm.findClass R_Pm = some m.cls := findClass_of_methodNamed B.named
  have hnt := tr_nt (ws := [.code y_Pm_copyTable b_Pm_copyTable 8 none]) (rm := ({ frames := 8, cells := 2, slots := 12, locals := 140 } : Room)) B rfl
  subst hsz
  have hD := hD0.self (sz := s.heap.size)
  generalize hAe : va_A [(h, .inr (1, [.ref m0, .ref aml, .ref amb, .ref t0, .ref atl, .ref att, .ref ate, .ref b0, .ref asb, .ref r0, .ref asr, .int trp])), (t0, .inr (0, [.int 200, .ref t1, .ref t2, .ref t3, .int tC, .int tU])), (t1, .inl (G.2.1 0, 6, .inl tS)), (t2, .inl (G.2.1 0, 6, .inl tL)), (t3, .inl (G.2.1 2, 6, .inl tD)), (att, .inl (G.2.1 0, 6, .inl ftt)), (ate, .inl (G.2.1 0, 200, .inl fte))] s.heap.size = A at hD hcx ⊢
  have hA : ∀ q : Nat, s.heap.size ≤ q → A q := fun q h => by rw [← hAe]; exact Or.inr h
  have hS : va_S A s.heap s.heap [] := va_S.rf
  have hts := hcx.now.1 [.ref h, .int k, .int k2, .int to, .int fr, .int cn].toArray
  have hK := hcx.now.2.1
  have hl := lv_entry ([.ref h, .int k, .int k2, .int to, .int fr, .int cn]) (n := 8) (Nat.le_of_ble_eq_true rfl)
  rw [lg_entry_eq]
  generalize (lg_sl ([.ref h, .int k, .int k2, .int to, .int fr, .int cn]) ++ List.replicate (8 - (lg_sl ([.ref h, .int k, .int k2, .int to, .int fr, .int cn])).length) Slot.unset).toArray = ls at hl ⊢
  have hl : lv_has ls 8 [(0, .ref h), (1, .int k), (2, .int k2), (3, .int to), (4, .int fr), (5, .int cn)] := hl
  unfold wp_Pm_copyTable at hw
  refine lv_aload_n hx hb d_Pm_copyTable_0 rfl (lv_at hl 0 rfl) ?_
  refine lv_iconst (v := 0) hx hb d_Pm_copyTable_1 (by decide) ?_
  refine va_put (D := G.1) (ci := 1) (v := .int 0) (ty := (.int)) (C := R_Pm) (T := T_Pm) (N := 12) hx hb hts in_Pm ty_Pm tk_Pm nm_Pm hown hK hP hD hS 0 rfl rfl 11 (by decide) (hts _ fl_Pm_50) (fun _ h9 => h9) rfl (by decide +kernel) rfl rfl (Nat.le_of_ble_eq_true rfl) d_Pm_copyTable_2 (fun H locs hP hD hS => ?_)
  have hP : va_P G.1 vwC [(h, .inr (1, [.ref m0, .ref aml, .ref amb, .ref t0, .ref atl, .ref att, .ref ate, .ref b0, .ref asb, .ref r0, .ref asr, .int 0])), (t0, .inr (0, [.int 200, .ref t1, .ref t2, .ref t3, .int tC, .int tU])), (t1, .inl (G.2.1 0, 6, .inl tS)), (t2, .inl (G.2.1 0, 6, .inl tL)), (t3, .inl (G.2.1 2, 6, .inl tD)), (att, .inl (G.2.1 0, 6, .inl ftt)), (ate, .inl (G.2.1 0, 200, .inl fte))] H := hP
  have hD : va_D A [(h, .inr (1, [.ref m0, .ref aml, .ref amb, .ref t0, .ref atl, .ref att, .ref ate, .ref b0, .ref asb, .ref r0, .ref asr, .int 0])), (t0, .inr (0, [.int 200, .ref t1, .ref t2, .ref t3, .int tC, .int tU])), (t1, .inl (G.2.1 0, 6, .inl tS)), (t2, .inl (G.2.1 0, 6, .inl tL)), (t3, .inl (G.2.1 2, 6, .inl tD)), (att, .inl (G.2.1 0, 6, .inl ftt)), (ate, .inl (G.2.1 0, 200, .inl fte))] := hD
  refine lv_aload_n hx hb d_Pm_copyTable_5 rfl (lv_at hl 0 rfl) ?_
  refine va_get (D := G.1) (ci := 1) (v := .ref t0) (C := R_Pm) (T := T_Pm) (N := 12) hx hb hts in_Pm hown hK hP 0 rfl rfl 3 (by decide) (hts _ fl_Pm_26) (fun _ h9 => h9) rfl d_Pm_copyTable_6 ?_
  refine lv_iload_n hx hb d_Pm_copyTable_9 rfl (lv_at hl 1 rfl) ?_
  have hPc := hP.sub (ws' := [(t0, .inr (0, [.int 200, .ref t1, .ref t2, .ref t3, .int tC, .int tU])), (t1, .inl (G.2.1 0, 6, .inl tS)), (t2, .inl (G.2.1 0, 6, .inl tL)), (t3, .inl (G.2.1 2, 6, .inl tD))]) [1, 2, 3, 4] rfl
  refine pu_i (va_runV (As := [.int k]) (rest := []) ⟨hx, hb, hml, hown, hts⟩ (c_Ly_has l G t0 t1 t2 t3 6 200 tC tU tS tL tD k) (cwV 1 hts (gi_V ml_Pm_67 im_Ly_has se_Ly_has ini_Ly co_Ly_has) rfl rfl rfl (by decide +kernel) ⟨Nat.le_of_ble_eq_true rfl, Nat.le_of_ble_eq_true rfl⟩) ⟨cp_blind, va_recv hK hPc (ci := 0) (q0 := 0) rfl rfl, cp_pre hcx hS hPc⟩ rfl rfl hl.1 rfl (lv_room (Nat.le_of_ble_eq_true rfl)) d_Pm_copyTable_10 ⟨Nat.le_of_ble_eq_true rfl, Nat.le_of_ble_eq_true rfl⟩) hS hP (fun H locs hP hS => ?_)
  refine lv_if_eq (tgt := 42) hx hb d_Pm_copyTable_13 (by decide) (fun c_1 => ?_) (fun c_1 => ?_)
  · replace hw := hw.1 c_1
    exact tr_throw hx hb hst hown (by decide +kernel) (by decide +kernel) (hcx.imp (fun V h => tw_ill_166 V h)) hS (hl.1.trans hml.symm) d_Pm_copyTable_42 d_Pm_copyTable_45 d_Pm_copyTable_46 d_Pm_copyTable_48 d_Pm_copyTable_51 (hnt _) (Nat.le_of_ble_eq_true rfl) (Nat.le_of_ble_eq_true rfl) (Nat.le_of_ble_eq_true rfl) (Nat.le_of_ble_eq_true rfl) hlocks (fun t h1 h2 => ⟨(0, fte), hw, hP.kept fun k q hq => h2 q.1 (hP k q hq).lt⟩) hA (Nat.le_of_ble_eq_true rfl) (Nat.le_of_ble_eq_true rfl)
  · replace hw := hw.2 c_1
    refine lv_aload_n hx hb d_Pm_copyTable_16 rfl (lv_at hl 0 rfl) ?_
    refine va_get (D := G.1) (ci := 1) (v := .ref t0) (C := R_Pm) (T := T_Pm) (N := 12) hx hb hts in_Pm hown hK hP 0 rfl rfl 3 (by decide) (hts _ fl_Pm_26) (fun _ h9 => h9) rfl d_Pm_copyTable_17 ?_
    refine lv_iload_n hx hb d_Pm_copyTable_20 rfl (lv_at hl 2 rfl) ?_
    have hPc := hP.sub (ws' := [(t0, .inr (0, [.int 200, .ref t1, .ref t2, .ref t3, .int tC, .int tU])), (t1, .inl (G.2.1 0, 6, .inl tS)), (t2, .inl (G.2.1 0, 6, .inl tL)), (t3, .inl (G.2.1 2, 6, .inl tD))]) [1, 2, 3, 4] rfl
    refine pu_i (va_runV (As := [.int k2]) (rest := []) ⟨hx, hb, hml, hown, hts⟩ (c_Ly_has l G t0 t1 t2 t3 6 200 tC tU tS tL tD k2) (cwV 1 hts (gi_V ml_Pm_67 im_Ly_has se_Ly_has ini_Ly co_Ly_has) rfl rfl rfl (by decide +kernel) ⟨Nat.le_of_ble_eq_true rfl, Nat.le_of_ble_eq_true rfl⟩) ⟨cp_blind, va_recv hK hPc (ci := 0) (q0 := 0) rfl rfl, cp_pre hcx hS hPc⟩ rfl rfl hl.1 rfl (lv_room (Nat.le_of_ble_eq_true rfl)) d_Pm_copyTable_21 ⟨Nat.le_of_ble_eq_true rfl, Nat.le_of_ble_eq_true rfl⟩) hS hP (fun H locs hP hS => ?_)
    refine lv_if_eq (tgt := 42) hx hb d_Pm_copyTable_24 (by decide) (fun c_2 => ?_) (fun c_2 => ?_)
    · replace hw := hw.1 c_2
      exact tr_throw hx hb hst hown (by decide +kernel) (by decide +kernel) (hcx.imp (fun V h => tw_ill_166 V h)) hS (hl.1.trans hml.symm) d_Pm_copyTable_42 d_Pm_copyTable_45 d_Pm_copyTable_46 d_Pm_copyTable_48 d_Pm_copyTable_51 (hnt _) (Nat.le_of_ble_eq_true rfl) (Nat.le_of_ble_eq_true rfl) (Nat.le_of_ble_eq_true rfl) (Nat.le_of_ble_eq_true rfl) hlocks (fun t h1 h2 => ⟨(0, fte), hw, hP.kept fun k q hq => h2 q.1 (hP k q hq).lt⟩) hA (Nat.le_of_ble_eq_true rfl) (Nat.le_of_ble_eq_true rfl)
    · replace hw := hw.2 c_2
      refine lv_aload_n hx hb d_Pm_copyTable_27 rfl (lv_at hl 0 rfl) ?_
      refine va_get (D := G.1) (ci := 1) (v := .ref att) (C := R_Pm) (T := T_Pm) (N := 12) hx hb hts in_Pm hown hK hP 0 rfl rfl 5 (by decide) (hts _ fl_Pm_32) (fun _ h9 => h9) rfl d_Pm_copyTable_28 ?_
      refine lv_iload_n hx hb d_Pm_copyTable_31 rfl (lv_at hl 1 rfl) ?_
      obtain ⟨h_3, hw⟩ := hw
      refine va_iald hx hb hK hP 5 0 rfl rfl h_3 d_Pm_copyTable_32 ?_
      refine lv_aload_n hx hb d_Pm_copyTable_33 rfl (lv_at hl 0 rfl) ?_
      refine va_get (D := G.1) (ci := 1) (v := .ref att) (C := R_Pm) (T := T_Pm) (N := 12) hx hb hts in_Pm hown hK hP 0 rfl rfl 5 (by decide) (hts _ fl_Pm_32) (fun _ h9 => h9) rfl d_Pm_copyTable_34 ?_
      refine lv_iload_n hx hb d_Pm_copyTable_37 rfl (lv_at hl 2 rfl) ?_
      obtain ⟨h_4, hw⟩ := hw
      refine va_iald hx hb hK hP 5 0 rfl rfl h_4 d_Pm_copyTable_38 ?_
      refine lv_icmp_eq (tgt := 52) hx hb d_Pm_copyTable_39 (by decide) (fun c_5 => ?_) (fun c_5 => ?_)
      · replace hw := hw.1 c_5
        refine lv_aload_n hx hb d_Pm_copyTable_52 rfl (lv_at hl 0 rfl) ?_
        refine lv_aload_n hx hb d_Pm_copyTable_53 rfl (lv_at hl 0 rfl) ?_
        refine va_get (D := G.1) (ci := 1) (v := .ref t0) (C := R_Pm) (T := T_Pm) (N := 12) hx hb hts in_Pm hown hK hP 0 rfl rfl 3 (by decide) (hts _ fl_Pm_26) (fun _ h9 => h9) rfl d_Pm_copyTable_54 ?_
        refine lv_iload_n hx hb d_Pm_copyTable_57 rfl (lv_at hl 2 rfl) ?_
        refine lv_iload hx hb d_Pm_copyTable_58 (lv_at hl 4 rfl) ?_
        have hPc := hP.sub (ws' := []) [] rfl
        refine pu_l (va_runS (As := [.int fr]) (rest := [.int k2, .ref t0, .ref h]) ⟨hx, hb, hml, hown, hts⟩ (c_Pm_unsigned l G fr) (va_cwS 1 hts (gi_S ml_Pm_74 sm_Pm_unsigned ini_Pm co_Pm_unsigned) rfl rfl rfl (by decide +kernel) ⟨Nat.le_of_ble_eq_true rfl, Nat.le_of_ble_eq_true rfl⟩) ⟨cp_blind, cp_pre hcx hS hPc⟩ rfl rfl hl.1 rfl (lv_room (Nat.le_of_ble_eq_true rfl)) d_Pm_copyTable_60 ⟨Nat.le_of_ble_eq_true rfl, Nat.le_of_ble_eq_true rfl⟩) hS hP (fun H locs hP hS => ?_)
        refine lv_iload hx hb d_Pm_copyTable_63 (lv_at hl 5 rfl) ?_
        have hPc := hP.sub (ws' := []) [] rfl
        refine pu_l (va_runS (As := [.int cn]) (rest := [.long (u32 fr), .int k2, .ref t0, .ref h]) ⟨hx, hb, hml, hown, hts⟩ (c_Pm_unsigned l G cn) (va_cwS 1 hts (gi_S ml_Pm_74 sm_Pm_unsigned ini_Pm co_Pm_unsigned) rfl rfl rfl (by decide +kernel) ⟨Nat.le_of_ble_eq_true rfl, Nat.le_of_ble_eq_true rfl⟩) ⟨cp_blind, cp_pre hcx hS hPc⟩ rfl rfl hl.1 rfl (lv_room (Nat.le_of_ble_eq_true rfl)) d_Pm_copyTable_65 ⟨Nat.le_of_ble_eq_true rfl, Nat.le_of_ble_eq_true rfl⟩) hS hP (fun H locs hP hS => ?_)
        refine lv_iconst (v := 5) hx hb d_Pm_copyTable_68 (by decide) ?_
        obtain ⟨h_6, hw⟩ := hw
        have hPc := hP.sub (ws' := [(h, .inr (1, [.ref m0, .ref aml, .ref amb, .ref t0, .ref atl, .ref att, .ref ate, .ref b0, .ref asb, .ref r0, .ref asr, .int 0])), (t0, .inr (0, [.int 200, .ref t1, .ref t2, .ref t3, .int tC, .int tU])), (t1, .inl (G.2.1 0, 6, .inl tS)), (t2, .inl (G.2.1 0, 6, .inl tL)), (t3, .inl (G.2.1 2, 6, .inl tD))]) [0, 1, 2, 3, 4] rfl
        have hDc := hD.sub (ws' := [(h, .inr (1, [.ref m0, .ref aml, .ref amb, .ref t0, .ref atl, .ref att, .ref ate, .ref b0, .ref asb, .ref r0, .ref asr, .int 0])), (t0, .inr (0, [.int 200, .ref t1, .ref t2, .ref t3, .int tC, .int tU])), (t1, .inl (G.2.1 0, 6, .inl tS)), (t2, .inl (G.2.1 0, 6, .inl tL)), (t3, .inl (G.2.1 2, 6, .inl tD))]) [0, 1, 2, 3, 4] (by decide) rfl
        have hFc := va_free (wc := [(h, .inr (1, [.ref m0, .ref aml, .ref amb, .ref t0, .ref atl, .ref att, .ref ate, .ref b0, .ref asb, .ref r0, .ref asr, .int 0])), (t0, .inr (0, [.int 200, .ref t1, .ref t2, .ref t3, .int tC, .int tU])), (t1, .inl (G.2.1 0, 6, .inl tS)), (t2, .inl (G.2.1 0, 6, .inl tL)), (t3, .inl (G.2.1 2, 6, .inl tD))]) hD hS hA [0, 1, 2, 3, 4] rfl
        refine tx_i (tr_runV (As := [.ref t0, .int k2, .long (u32 fr), .long (u32 cn), .int 5]) (rest := []) ⟨hx, hb, hml, hown, hts⟩ (c_Pm_placeOf l hst G h m0 aml amb t0 atl att ate b0 asb r0 asr t0 t1 t2 t3 6 0 200 tC tU tS tL tD k2 (u32 fr) (u32 cn) 5 _ h_6) (cwV 5 hts (gi_V ml_Pm_113 im_Pm_placeOf se_Pm_placeOf ini_Pm co_Pm_placeOf) rfl rfl rfl (by decide +kernel) ⟨Nat.le_of_ble_eq_true rfl, Nat.le_of_ble_eq_true rfl⟩) ⟨cm_blind, va_recv hK hPc (ci := 1) (q0 := 0) rfl rfl, cm_pre hcx hS hPc hDc hFc⟩ rfl rfl hl.1 rfl (lv_room (Nat.le_of_ble_eq_true rfl)) d_Pm_copyTable_69 ⟨Nat.le_of_ble_eq_true rfl, Nat.le_of_ble_eq_true rfl⟩) hS hP hD hA [0, 1, 2, 3, 4] rfl (fun _ => rfl) (fun _ => rfl) (fun E9 u9 hp q9 ce9 H locs hP hD hS h91 h92 h93 => ?_) (fun r9 u9 H locs hp hP hD hS => ?_)
        · obtain ⟨hN, rfl, rfl⟩ := hp
          exact tr_pass (hnt _) hlocks h91 h92 h93 (fun t ht => ⟨(5, fte), hw.2 hN, by have h9 := hP; rw [← ht] at h9; exact h9⟩) hS (Nat.le_of_ble_eq_true rfl) (Nat.le_of_ble_eq_true rfl)
        · obtain ⟨hN, e91, e92⟩ := hp; replace e91 := e91.symm; replace e92 := e92.symm; subst e91; subst e92
          replace hw := hw.1 hN
          have hP : va_P G.1 vwC [(h, .inr (1, [.ref m0, .ref aml, .ref amb, .ref t0, .ref atl, .ref att, .ref ate, .ref b0, .ref asb, .ref r0, .ref asr, .int 0])), (t0, .inr (0, [.int 200, .ref t1, .ref t2, .ref t3, .int tC, .int tU])), (t1, .inl (G.2.1 0, 6, .inl tS)), (t2, .inl (G.2.1 0, 6, .inl tL)), (t3, .inl (G.2.1 2, 6, .inl tD)), (att, .inl (G.2.1 0, 6, .inl ftt)), (ate, .inl (G.2.1 0, 200, .inl fte))] H := hP
          have hD : va_D A [(h, .inr (1, [.ref m0, .ref aml, .ref amb, .ref t0, .ref atl, .ref att, .ref ate, .ref b0, .ref asb, .ref r0, .ref asr, .int 0])), (t0, .inr (0, [.int 200, .ref t1, .ref t2, .ref t3, .int tC, .int tU])), (t1, .inl (G.2.1 0, 6, .inl tS)), (t2, .inl (G.2.1 0, 6, .inl tL)), (t3, .inl (G.2.1 2, 6, .inl tD)), (att, .inl (G.2.1 0, 6, .inl ftt)), (ate, .inl (G.2.1 0, 200, .inl fte))] := hD
          refine lv_topi (fun x_7 ex_7 => ?_)
          replace hw := hw x_7 ex_7
          refine lv_istore (lv' := [(6, .int x_7), (0, .ref h), (1, .int k), (2, .int k2), (3, .int to), (4, .int fr), (5, .int cn)]) hx hb d_Pm_copyTable_72 hl (by decide) rfl (fun ls hl => ?_)
          refine lv_aload_n hx hb d_Pm_copyTable_74 rfl (lv_at hl 1 rfl) ?_
          refine lv_aload_n hx hb d_Pm_copyTable_75 rfl (lv_at hl 1 rfl) ?_
          refine va_get (D := G.1) (ci := 1) (v := .ref t0) (C := R_Pm) (T := T_Pm) (N := 12) hx hb hts in_Pm hown hK hP 0 rfl rfl 3 (by decide) (hts _ fl_Pm_26) (fun _ h9 => h9) rfl d_Pm_copyTable_76 ?_
          refine lv_iload_n hx hb d_Pm_copyTable_79 rfl (lv_at hl 2 rfl) ?_
          refine lv_iload_n hx hb d_Pm_copyTable_80 rfl (lv_at hl 4 rfl) ?_
          have hPc := hP.sub (ws' := []) [] rfl
          refine pu_l (va_runS (As := [.int to]) (rest := [.int k, .ref t0, .ref h]) ⟨hx, hb, hml, hown, hts⟩ (c_Pm_unsigned l G to) (va_cwS 1 hts (gi_S ml_Pm_74 sm_Pm_unsigned ini_Pm co_Pm_unsigned) rfl rfl rfl (by decide +kernel) ⟨Nat.le_of_ble_eq_true rfl, Nat.le_of_ble_eq_true rfl⟩) ⟨cp_blind, cp_pre hcx hS hPc⟩ rfl rfl hl.1 rfl (lv_room (Nat.le_of_ble_eq_true rfl)) d_Pm_copyTable_81 ⟨Nat.le_of_ble_eq_true rfl, Nat.le_of_ble_eq_true rfl⟩) hS hP (fun H locs hP hS => ?_)
          refine lv_iload hx hb d_Pm_copyTable_84 (lv_at hl 6 rfl) ?_
          have hPc := hP.sub (ws' := []) [] rfl
          refine pu_l (va_runS (As := [.int cn]) (rest := [.long (u32 to), .int k, .ref t0, .ref h]) ⟨hx, hb, hml, hown, hts⟩ (c_Pm_unsigned l G cn) (va_cwS 1 hts (gi_S ml_Pm_74 sm_Pm_unsigned ini_Pm co_Pm_unsigned) rfl rfl rfl (by decide +kernel) ⟨Nat.le_of_ble_eq_true rfl, Nat.le_of_ble_eq_true rfl⟩) ⟨cp_blind, cp_pre hcx hS hPc⟩ rfl rfl hl.1 rfl (lv_room (Nat.le_of_ble_eq_true rfl)) d_Pm_copyTable_86 ⟨Nat.le_of_ble_eq_true rfl, Nat.le_of_ble_eq_true rfl⟩) hS hP (fun H locs hP hS => ?_)
          refine lv_iconst (v := 5) hx hb d_Pm_copyTable_89 (by decide) ?_
          obtain ⟨h_8, hw⟩ := hw
          have hPc := hP.sub (ws' := [(h, .inr (1, [.ref m0, .ref aml, .ref amb, .ref t0, .ref atl, .ref att, .ref ate, .ref b0, .ref asb, .ref r0, .ref asr, .int 0])), (t0, .inr (0, [.int 200, .ref t1, .ref t2, .ref t3, .int tC, .int tU])), (t1, .inl (G.2.1 0, 6, .inl tS)), (t2, .inl (G.2.1 0, 6, .inl tL)), (t3, .inl (G.2.1 2, 6, .inl tD))]) [0, 1, 2, 3, 4] rfl
          have hDc := hD.sub (ws' := [(h, .inr (1, [.ref m0, .ref aml, .ref amb, .ref t0, .ref atl, .ref att, .ref ate, .ref b0, .ref asb, .ref r0, .ref asr, .int 0])), (t0, .inr (0, [.int 200, .ref t1, .ref t2, .ref t3, .int tC, .int tU])), (t1, .inl (G.2.1 0, 6, .inl tS)), (t2, .inl (G.2.1 0, 6, .inl tL)), (t3, .inl (G.2.1 2, 6, .inl tD))]) [0, 1, 2, 3, 4] (by decide) rfl
          have hFc := va_free (wc := [(h, .inr (1, [.ref m0, .ref aml, .ref amb, .ref t0, .ref atl, .ref att, .ref ate, .ref b0, .ref asb, .ref r0, .ref asr, .int 0])), (t0, .inr (0, [.int 200, .ref t1, .ref t2, .ref t3, .int tC, .int tU])), (t1, .inl (G.2.1 0, 6, .inl tS)), (t2, .inl (G.2.1 0, 6, .inl tL)), (t3, .inl (G.2.1 2, 6, .inl tD))]) hD hS hA [0, 1, 2, 3, 4] rfl
          refine tx_i (tr_runV (As := [.ref t0, .int k, .long (u32 to), .long (u32 cn), .int 5]) (rest := []) ⟨hx, hb, hml, hown, hts⟩ (c_Pm_placeOf l hst G h m0 aml amb t0 atl att ate b0 asb r0 asr t0 t1 t2 t3 6 0 200 tC tU tS tL tD k (u32 to) (u32 cn) 5 _ h_8) (cwV 5 hts (gi_V ml_Pm_113 im_Pm_placeOf se_Pm_placeOf ini_Pm co_Pm_placeOf) rfl rfl rfl (by decide +kernel) ⟨Nat.le_of_ble_eq_true rfl, Nat.le_of_ble_eq_true rfl⟩) ⟨cm_blind, va_recv hK hPc (ci := 1) (q0 := 0) rfl rfl, cm_pre hcx hS hPc hDc hFc⟩ rfl rfl hl.1 rfl (lv_room (Nat.le_of_ble_eq_true rfl)) d_Pm_copyTable_90 ⟨Nat.le_of_ble_eq_true rfl, Nat.le_of_ble_eq_true rfl⟩) hS hP hD hA [0, 1, 2, 3, 4] rfl (fun _ => rfl) (fun _ => rfl) (fun E9 u9 hp q9 ce9 H locs hP hD hS h91 h92 h93 => ?_) (fun r9 u9 H locs hp hP hD hS => ?_)
          · obtain ⟨hN, rfl, rfl⟩ := hp
            exact tr_pass (hnt _) hlocks h91 h92 h93 (fun t ht => ⟨(5, fte), hw.2 hN, by have h9 := hP; rw [← ht] at h9; exact h9⟩) hS (Nat.le_of_ble_eq_true rfl) (Nat.le_of_ble_eq_true rfl)
          · obtain ⟨hN, e91, e92⟩ := hp; replace e91 := e91.symm; replace e92 := e92.symm; subst e91; subst e92
            replace hw := hw.1 hN
            have hP : va_P G.1 vwC [(h, .inr (1, [.ref m0, .ref aml, .ref amb, .ref t0, .ref atl, .ref att, .ref ate, .ref b0, .ref asb, .ref r0, .ref asr, .int 0])), (t0, .inr (0, [.int 200, .ref t1, .ref t2, .ref t3, .int tC, .int tU])), (t1, .inl (G.2.1 0, 6, .inl tS)), (t2, .inl (G.2.1 0, 6, .inl tL)), (t3, .inl (G.2.1 2, 6, .inl tD)), (att, .inl (G.2.1 0, 6, .inl ftt)), (ate, .inl (G.2.1 0, 200, .inl fte))] H := hP
            have hD : va_D A [(h, .inr (1, [.ref m0, .ref aml, .ref amb, .ref t0, .ref atl, .ref att, .ref ate, .ref b0, .ref asb, .ref r0, .ref asr, .int 0])), (t0, .inr (0, [.int 200, .ref t1, .ref t2, .ref t3, .int tC, .int tU])), (t1, .inl (G.2.1 0, 6, .inl tS)), (t2, .inl (G.2.1 0, 6, .inl tL)), (t3, .inl (G.2.1 2, 6, .inl tD)), (att, .inl (G.2.1 0, 6, .inl ftt)), (ate, .inl (G.2.1 0, 200, .inl fte))] := hD
            refine lv_topi (fun x_9 ex_9 => ?_)
            replace hw := hw x_9 ex_9
            refine lv_istore (lv' := [(7, .int x_9), (6, .int x_7), (0, .ref h), (1, .int k), (2, .int k2), (3, .int to), (4, .int fr), (5, .int cn)]) hx hb d_Pm_copyTable_93 hl (by decide) rfl (fun ls hl => ?_)
            refine lv_aload_n hx hb d_Pm_copyTable_95 rfl (lv_at hl 2 rfl) ?_
            refine va_get (D := G.1) (ci := 1) (v := .ref ate) (C := R_Pm) (T := T_Pm) (N := 12) hx hb hts in_Pm hown hK hP 0 rfl rfl 6 (by decide) (hts _ fl_Pm_35) (fun _ h9 => h9) rfl d_Pm_copyTable_96 ?_
            refine lv_iload hx hb d_Pm_copyTable_99 (lv_at hl 1 rfl) ?_
            refine lv_aload_n hx hb d_Pm_copyTable_101 rfl (lv_at hl 2 rfl) ?_
            refine va_get (D := G.1) (ci := 1) (v := .ref ate) (C := R_Pm) (T := T_Pm) (N := 12) hx hb hts in_Pm hown hK hP 0 rfl rfl 6 (by decide) (hts _ fl_Pm_35) (fun _ h9 => h9) rfl d_Pm_copyTable_102 ?_
            refine lv_iload hx hb d_Pm_copyTable_105 (lv_at hl 0 rfl) ?_
            refine lv_iload hx hb d_Pm_copyTable_107 (lv_at hl 7 rfl) ?_
            obtain ⟨h_10, h_11, h_12, h_13, h_14, h_15, hw⟩ := hw
            obtain ⟨a_16, ea_16⟩ : ∃ z, z = va_cpy fte fte x_7.toNatClampNeg x_9.toNatClampNeg cn.toNatClampNeg := ⟨_, rfl⟩
            replace hw := hw a_16 ea_16
            refine va_copyi (ty := .int) hx hb (hml.trans hl.1.symm) hown (hts _ ml_Pm_84) (hts _ nt_arraycopy) (hts _ sm_arraycopy) (hts _ ini_System) hK hP hD hS 6 6 0 0 rfl rfl rfl rfl rfl h_10 h_11 h_12 h_13 h_14 h_15 (Nat.le_of_ble_eq_true rfl) (Nat.le_of_ble_eq_true rfl) d_Pm_copyTable_109 (fun H locs hP hD hS => ?_)
            rw [← ea_16] at hP hD
            have hP : va_P G.1 vwC [(h, .inr (1, [.ref m0, .ref aml, .ref amb, .ref t0, .ref atl, .ref att, .ref ate, .ref b0, .ref asb, .ref r0, .ref asr, .int 0])), (t0, .inr (0, [.int 200, .ref t1, .ref t2, .ref t3, .int tC, .int tU])), (t1, .inl (G.2.1 0, 6, .inl tS)), (t2, .inl (G.2.1 0, 6, .inl tL)), (t3, .inl (G.2.1 2, 6, .inl tD)), (att, .inl (G.2.1 0, 6, .inl ftt)), (ate, .inl (G.2.1 0, 200, .inl a_16))] H := hP
            have hD : va_D A [(h, .inr (1, [.ref m0, .ref aml, .ref amb, .ref t0, .ref atl, .ref att, .ref ate, .ref b0, .ref asb, .ref r0, .ref asr, .int 0])), (t0, .inr (0, [.int 200, .ref t1, .ref t2, .ref t3, .int tC, .int tU])), (t1, .inl (G.2.1 0, 6, .inl tS)), (t2, .inl (G.2.1 0, 6, .inl tL)), (t3, .inl (G.2.1 2, 6, .inl tD)), (att, .inl (G.2.1 0, 6, .inl ftt)), (ate, .inl (G.2.1 0, 200, .inl a_16))] := hD
            exact tr_ret (W.vret hx hb hr (fun t ht hW => ⟨⟨(0, a_16), rfl, hw, by have h9 := hP; rw [← ht] at h9; exact h9⟩, hS.F ht⟩) hS.2.2 d_Pm_copyTable_112)
      · replace hw := hw.2 c_5
        exact tr_throw hx hb hst hown (by decide +kernel) (by decide +kernel) (hcx.imp (fun V h => tw_ill_166 V h)) hS (hl.1.trans hml.symm) d_Pm_copyTable_42 d_Pm_copyTable_45 d_Pm_copyTable_46 d_Pm_copyTable_48 d_Pm_copyTable_51 (hnt _) (Nat.le_of_ble_eq_true rfl) (Nat.le_of_ble_eq_true rfl) (Nat.le_of_ble_eq_true rfl) (Nat.le_of_ble_eq_true rfl) hlocks (fun t h1 h2 => ⟨(0, fte), hw, hP.kept fun k q hq => h2 q.1 (hP k q hq).lt⟩) hA (Nat.le_of_ble_eq_true rfl) (Nat.le_of_ble_eq_true rfl)
def wp_Pm_initTable (post : (Int32 × (Nat → Int32)) → Prop) (postx : String → (Int32 × (Nat → Int32)) → Prop) (trp : Int32) (tC : Int32) (tU : Int32) (tS : Nat → Int32) (tL : Nat → Int32) (tD : Nat → Int32) (rC : Int32) (rU : Int32) (rS : Nat → Int32) (rL : Nat → Int32) (rD : Nat → Int32) (fte : Nat → Int32) (fsr : Nat → Int32) (k : Int32) (sg : Int32) (to : Int32) (fr : Int32) (cn : Int32) : Prop := ((ly_has tC k = 0 → (postx E_ill (0, fte))) ∧ (¬ ly_has tC k = 0 → (((¬ ly_has rC sg = 0 → ((rC.toInt ≤ 24) ∧ (((lg_cmp ((u32 fr) + (u32 cn)) (ly_ln rC sg rL).toInt64 ≤ 0 → (∀ x_4 : Int32, x_4 = ly_st rC sg rS + (u32 fr).toInt32 → ((tC.toInt ≤ 6) ∧ (((lg_cmp ((u32 to) + (u32 cn)) (ly_ln tC k tL).toInt64 ≤ 0 → (∀ x_6 : Int32, x_6 = ly_st tC k tS + (u32 to).toInt32 → ((¬ x_4 < 0) ∧ (¬ x_6 < 0) ∧ (¬ cn < 0) ∧ (x_4.toNatClampNeg + cn.toNatClampNeg ≤ 200) ∧ (x_6.toNatClampNeg + cn.toNatClampNeg ≤ 200) ∧ (∀ i, i < cn.toNatClampNeg → fits .int (.int (fsr (x_4.toNatClampNeg + i))) = true) ∧ ∀ a_13 : Nat → Int32, a_13 = va_cpy fsr fte x_4.toNatClampNeg x_6.toNatClampNeg cn.toNatClampNeg → (post (0, a_13))))) ∧ (¬ lg_cmp ((u32 to) + (u32 cn)) (ly_ln tC k tL).toInt64 ≤ 0 → (postx E_uns (5, fte)))))))) ∧ (¬ lg_cmp ((u32 fr) + (u32 cn)) (ly_ln rC sg rL).toInt64 ≤ 0 → (postx E_uns (5, fte))))))) ∧ (ly_has rC sg = 0 → (postx E_ill (0, fte)))))))
set_option maxHeartbeats 4000000 in
set_option maxRecDepth 100000 in
theorem t_Pm_initTable (l : Launch) (hst : l.stackTraces = false) (G : cxT) (h : Nat) (m0 : Nat) (aml : Nat) (amb : Nat) (t0 : Nat) (atl : Nat) (att : Nat) (ate : Nat) (b0 : Nat) (asb : Nat) (r0 : Nat) (asr : Nat) (t1 : Nat) (t2 : Nat) (t3 : Nat) (r1 : Nat) (r2 : Nat) (r3 : Nat) (trp : Int32) (tC : Int32) (tU : Int32) (tS : Nat → Int32) (tL : Nat → Int32) (tD : Nat → Int32) (rC : Int32) (rU : Int32) (rS : Nat → Int32) (rL : Nat → Int32) (rD : Nat → Int32) (fte : Nat → Int32) (fsr : Nat → Int32) (k : Int32) (sg : Int32) (to : Int32) (fr : Int32) (cn : Int32) (sz : Nat) (post : (Int32 × (Nat → Int32)) → Prop) (postx : String → (Int32 × (Nat → Int32)) → Prop) (hw : wp_Pm_initTable post postx trp tC tU tS tL tD rC rU rS rL rD fte fsr k sg to fr cn) : tr_Met l y_Pm_initTable [.code y_Pm_initTable b_Pm_initTable 8 none] ({ frames := 8, cells := 2, slots := 12, locals := 140 } : Room) (cm G [.ref h, .int k, .int sg, .int to, .int fr, .int cn] [(h, .inr (1, [.ref m0, .ref aml, .ref amb, .ref t0, .ref atl, .ref att, .ref ate, .ref b0, .ref asb, .ref r0, .ref asr, .int trp])), (t0, .inr (0, [.int 200, .ref t1, .ref t2, .ref t3, .int tC, .int tU])), (t1, .inl (G.2.1 0, 6, .inl tS)), (t2, .inl (G.2.1 0, 6, .inl tL)), (t3, .inl (G.2.1 2, 6, .inl tD)), (r0, .inr (0, [.int 200, .ref r1, .ref r2, .ref r3, .int rC, .int rU])), (r1, .inl (G.2.1 0, 24, .inl rS)), (r2, .inl (G.2.1 0, 24, .inl rL)), (r3, .inl (G.2.1 2, 24, .inl rD)), (ate, .inl (G.2.1 0, 200, .inl fte)), (asr, .inl (G.2.1 0, 200, .inl fsr))] sz) (va_Qv post (fun u t => va_P G.1 vwC [(h, .inr (1, [.ref m0, .ref aml, .ref amb, .ref t0, .ref atl, .ref att, .ref ate, .ref b0, .ref asb, .ref r0, .ref asr, .int u.1])), (t0, .inr (0, [.int 200, .ref t1, .ref t2, .ref t3, .int tC, .int tU])), (t1, .inl (G.2.1 0, 6, .inl tS)), (t2, .inl (G.2.1 0, 6, .inl tL)), (t3, .inl (G.2.1 2, 6, .inl tD)), (r0, .inr (0, [.int 200, .ref r1, .ref r2, .ref r3, .int rC, .int rU])), (r1, .inl (G.2.1 0, 24, .inl rS)), (r2, .inl (G.2.1 0, 24, .inl rL)), (r3, .inl (G.2.1 2, 24, .inl rD)), (ate, .inl (G.2.1 0, 200, .inl u.2)), (asr, .inl (G.2.1 0, 200, .inl fsr))] t.heap) (va_A [(h, .inr (1, [.ref m0, .ref aml, .ref amb, .ref t0, .ref atl, .ref att, .ref ate, .ref b0, .ref asb, .ref r0, .ref asr, .int trp])), (t0, .inr (0, [.int 200, .ref t1, .ref t2, .ref t3, .int tC, .int tU])), (t1, .inl (G.2.1 0, 6, .inl tS)), (t2, .inl (G.2.1 0, 6, .inl tL)), (t3, .inl (G.2.1 2, 6, .inl tD)), (r0, .inr (0, [.int 200, .ref r1, .ref r2, .ref r3, .int rC, .int rU])), (r1, .inl (G.2.1 0, 24, .inl rS)), (r2, .inl (G.2.1 0, 24, .inl rL)), (r3, .inl (G.2.1 2, 24, .inl rD)), (ate, .inl (G.2.1 0, 200, .inl fte)), (asr, .inl (G.2.1 0, 200, .inl fsr))] sz)) (fun E t => ∃ u : Int32 × (Nat → Int32), postx E u ∧ va_P G.1 vwC [(h, .inr (1, [.ref m0, .ref aml, .ref amb, .ref t0, .ref atl, .ref att, .ref ate, .ref b0, .ref asb, .ref r0, .ref asr, .int u.1])), (t0, .inr (0, [.int 200, .ref t1, .ref t2, .ref t3, .int tC, .int tU])), (t1, .inl (G.2.1 0, 6, .inl tS)), (t2, .inl (G.2.1 0, 6, .inl tL)), (t3, .inl (G.2.1 2, 6, .inl tD)), (r0, .inr (0, [.int 200, .ref r1, .ref r2, .ref r3, .int rC, .int rU])), (r1, .inl (G.2.1 0, 24, .inl rS)), (r2, .inl (G.2.1 0, 24, .inl rL)), (r3, .inl (G.2.1 2, 24, .inl rD)), (ate, .inl (G.2.1 0, 200, .inl u.2)), (asr, .inl (G.2.1 0, 200, .inl fsr))] t.heap) (va_A [(h, .inr (1, [.ref m0, .ref aml, .ref amb, .ref t0, .ref atl, .ref att, .ref ate, .ref b0, .ref asb, .ref r0, .ref asr, .int trp])), (t0, .inr (0, [.int 200, .ref t1, .ref t2, .ref t3, .int tC, .int tU])), (t1, .inl (G.2.1 0, 6, .inl tS)), (t2, .inl (G.2.1 0, 6, .inl tL)), (t3, .inl (G.2.1 2, 6, .inl tD)), (r0, .inr (0, [.int 200, .ref r1, .ref r2, .ref r3, .int rC, .int rU])), (r1, .inl (G.2.1 0, 24, .inl rS)), (r2, .inl (G.2.1 0, 24, .inl rL)), (r3, .inl (G.2.1 2, 24, .inl rD)), (ate, .inl (G.2.1 0, 200, .inl fte)), (asr, .inl (G.2.1 0, 200, .inl fsr))] sz) 2 12 := by
  refine tr_ofW (cc := b_Pm_initTable) (maxL := 8) (ret := none) (by decide +kernel) rfl ?_
  intro p e s m args below meth c s₁ B hml hv
  obtain ⟨rfl, hsz, hcx, hP, hD0⟩ := hv
  have hx := B.exec
  have hb := B.bytes
  have hr := B.returns
  have hlocks := B.notSynchronized
  have hown : s.vm.findClass R_Pm = some m.cls := findClass_of_methodNamed B.named
  have hnt := tr_nt (ws := [.code y_Pm_initTable b_Pm_initTable 8 none]) (rm := ({ frames := 8, cells := 2, slots := 12, locals := 140 } : Room)) B rfl
  subst hsz
  have hD := hD0.self (sz := s.heap.size)
  generalize hAe : va_A [(h, .inr (1, [.ref m0, .ref aml, .ref amb, .ref t0, .ref atl, .ref att, .ref ate, .ref b0, .ref asb, .ref r0, .ref asr, .int trp])), (t0, .inr (0, [.int 200, .ref t1, .ref t2, .ref t3, .int tC, .int tU])), (t1, .inl (G.2.1 0, 6, .inl tS)), (t2, .inl (G.2.1 0, 6, .inl tL)), (t3, .inl (G.2.1 2, 6, .inl tD)), (r0, .inr (0, [.int 200, .ref r1, .ref r2, .ref r3, .int rC, .int rU])), (r1, .inl (G.2.1 0, 24, .inl rS)), (r2, .inl (G.2.1 0, 24, .inl rL)), (r3, .inl (G.2.1 2, 24, .inl rD)), (ate, .inl (G.2.1 0, 200, .inl fte)), (asr, .inl (G.2.1 0, 200, .inl fsr))] s.heap.size = A at hD hcx ⊢
  have hA : ∀ q : Nat, s.heap.size ≤ q → A q := fun q h => by rw [← hAe]; exact Or.inr h
  have hS : va_S A s.heap s.heap [] := va_S.rf
  have hts := hcx.now.1 [.ref h, .int k, .int sg, .int to, .int fr, .int cn].toArray
  have hK := hcx.now.2.1
  have hl := lv_entry ([.ref h, .int k, .int sg, .int to, .int fr, .int cn]) (n := 8) (Nat.le_of_ble_eq_true rfl)
  rw [lg_entry_eq]
  generalize (lg_sl ([.ref h, .int k, .int sg, .int to, .int fr, .int cn]) ++ List.replicate (8 - (lg_sl ([.ref h, .int k, .int sg, .int to, .int fr, .int cn])).length) Slot.unset).toArray = ls at hl ⊢
  have hl : lv_has ls 8 [(0, .ref h), (1, .int k), (2, .int sg), (3, .int to), (4, .int fr), (5, .int cn)] := hl
  unfold wp_Pm_initTable at hw
  refine lv_aload_n hx hb d_Pm_initTable_0 rfl (lv_at hl 0 rfl) ?_
  refine lv_iconst (v := 0) hx hb d_Pm_initTable_1 (by decide) ?_
  refine va_put (D := G.1) (ci := 1) (v := .int 0) (ty := (.int)) (C := R_Pm) (T := T_Pm) (N := 12) hx hb hts in_Pm ty_Pm tk_Pm nm_Pm hown hK hP hD hS 0 rfl rfl 11 (by decide) (hts _ fl_Pm_50) (fun _ h9 => h9) rfl (by decide +kernel) rfl rfl (Nat.le_of_ble_eq_true rfl) d_Pm_initTable_2 (fun H locs hP hD hS => ?_)
  have hP : va_P G.1 vwC [(h, .inr (1, [.ref m0, .ref aml, .ref amb, .ref t0, .ref atl, .ref att, .ref ate, .ref b0, .ref asb, .ref r0, .ref asr, .int 0])), (t0, .inr (0, [.int 200, .ref t1, .ref t2, .ref t3, .int tC, .int tU])), (t1, .inl (G.2.1 0, 6, .inl tS)), (t2, .inl (G.2.1 0, 6, .inl tL)), (t3, .inl (G.2.1 2, 6, .inl tD)), (r0, .inr (0, [.int 200, .ref r1, .ref r2, .ref r3, .int rC, .int rU])), (r1, .inl (G.2.1 0, 24, .inl rS)), (r2, .inl (G.2.1 0, 24, .inl rL)), (r3, .inl (G.2.1 2, 24, .inl rD)), (ate, .inl (G.2.1 0, 200, .inl fte)), (asr, .inl (G.2.1 0, 200, .inl fsr))] H := hP
  have hD : va_D A [(h, .inr (1, [.ref m0, .ref aml, .ref amb, .ref t0, .ref atl, .ref att, .ref ate, .ref b0, .ref asb, .ref r0, .ref asr, .int 0])), (t0, .inr (0, [.int 200, .ref t1, .ref t2, .ref t3, .int tC, .int tU])), (t1, .inl (G.2.1 0, 6, .inl tS)), (t2, .inl (G.2.1 0, 6, .inl tL)), (t3, .inl (G.2.1 2, 6, .inl tD)), (r0, .inr (0, [.int 200, .ref r1, .ref r2, .ref r3, .int rC, .int rU])), (r1, .inl (G.2.1 0, 24, .inl rS)), (r2, .inl (G.2.1 0, 24, .inl rL)), (r3, .inl (G.2.1 2, 24, .inl rD)), (ate, .inl (G.2.1 0, 200, .inl fte)), (asr, .inl (G.2.1 0, 200, .inl fsr))] := hD
  refine lv_aload_n hx hb d_Pm_initTable_5 rfl (lv_at hl 0 rfl) ?_
  refine va_get (D := G.1) (ci := 1) (v := .ref t0) (C := R_Pm) (T := T_Pm) (N := 12) hx hb hts in_Pm hown hK hP 0 rfl rfl 3 (by decide) (hts _ fl_Pm_26) (fun _ h9 => h9) rfl d_Pm_initTable_6 ?_
  refine lv_iload_n hx hb d_Pm_initTable_9 rfl (lv_at hl 1 rfl) ?_
  have hPc := hP.sub (ws' := [(t0, .inr (0, [.int 200, .ref t1, .ref t2, .ref t3, .int tC, .int tU])), (t1, .inl (G.2.1 0, 6, .inl tS)), (t2, .inl (G.2.1 0, 6, .inl tL)), (t3, .inl (G.2.1 2, 6, .inl tD))]) [1, 2, 3, 4] rfl
  refine pu_i (va_runV (As := [.int k]) (rest := []) ⟨hx, hb, hml, hown, hts⟩ (c_Ly_has l G t0 t1 t2 t3 6 200 tC tU tS tL tD k) (cwV 1 hts (gi_V ml_Pm_67 im_Ly_has se_Ly_has ini_Ly co_Ly_has) rfl rfl rfl (by decide +kernel) ⟨Nat.le_of_ble_eq_true rfl, Nat.le_of_ble_eq_true rfl⟩) ⟨cp_blind, va_recv hK hPc (ci := 0) (q0 := 0) rfl rfl, cp_pre hcx hS hPc⟩ rfl rfl hl.1 rfl (lv_room (Nat.le_of_ble_eq_true rfl)) d_Pm_initTable_10 ⟨Nat.le_of_ble_eq_true rfl, Nat.le_of_ble_eq_true rfl⟩) hS hP (fun H locs hP hS => ?_)
  refine lv_if_eq (tgt := 27) hx hb d_Pm_initTable_13 (by decide) (fun c_1 => ?_) (fun c_1 => ?_)
  · replace hw := hw.1 c_1
    exact tr_throw hx hb hst hown (by decide +kernel) (by decide +kernel) (hcx.imp (fun V h => tw_ill_168 V h)) hS (hl.1.trans hml.symm) d_Pm_initTable_27 d_Pm_initTable_30 d_Pm_initTable_31 d_Pm_initTable_33 d_Pm_initTable_36 (hnt _) (Nat.le_of_ble_eq_true rfl) (Nat.le_of_ble_eq_true rfl) (Nat.le_of_ble_eq_true rfl) (Nat.le_of_ble_eq_true rfl) hlocks (fun t h1 h2 => ⟨(0, fte), hw, hP.kept fun k q hq => h2 q.1 (hP k q hq).lt⟩) hA (Nat.le_of_ble_eq_true rfl) (Nat.le_of_ble_eq_true rfl)
  · replace hw := hw.2 c_1
    refine lv_aload_n hx hb d_Pm_initTable_16 rfl (lv_at hl 0 rfl) ?_
    refine va_get (D := G.1) (ci := 1) (v := .ref r0) (C := R_Pm) (T := T_Pm) (N := 12) hx hb hts in_Pm hown hK hP 0 rfl rfl 9 (by decide) (hts _ fl_Pm_44) (fun _ h9 => h9) rfl d_Pm_initTable_17 ?_
    refine lv_iload_n hx hb d_Pm_initTable_20 rfl (lv_at hl 2 rfl) ?_
    have hPc := hP.sub (ws' := [(r0, .inr (0, [.int 200, .ref r1, .ref r2, .ref r3, .int rC, .int rU])), (r1, .inl (G.2.1 0, 24, .inl rS)), (r2, .inl (G.2.1 0, 24, .inl rL)), (r3, .inl (G.2.1 2, 24, .inl rD))]) [5, 6, 7, 8] rfl
    refine pu_i (va_runV (As := [.int sg]) (rest := []) ⟨hx, hb, hml, hown, hts⟩ (c_Ly_has l G r0 r1 r2 r3 24 200 rC rU rS rL rD sg) (cwV 1 hts (gi_V ml_Pm_67 im_Ly_has se_Ly_has ini_Ly co_Ly_has) rfl rfl rfl (by decide +kernel) ⟨Nat.le_of_ble_eq_true rfl, Nat.le_of_ble_eq_true rfl⟩) ⟨cp_blind, va_recv hK hPc (ci := 0) (q0 := 0) rfl rfl, cp_pre hcx hS hPc⟩ rfl rfl hl.1 rfl (lv_room (Nat.le_of_ble_eq_true rfl)) d_Pm_initTable_21 ⟨Nat.le_of_ble_eq_true rfl, Nat.le_of_ble_eq_true rfl⟩) hS hP (fun H locs hP hS => ?_)
    refine lv_if_ne (tgt := 37) hx hb d_Pm_initTable_24 (by decide) (fun c_2 => ?_) (fun c_2 => ?_)
    · replace hw := hw.1 c_2
      refine lv_aload_n hx hb d_Pm_initTable_37 rfl (lv_at hl 0 rfl) ?_
      refine lv_aload_n hx hb d_Pm_initTable_38 rfl (lv_at hl 0 rfl) ?_
      refine va_get (D := G.1) (ci := 1) (v := .ref r0) (C := R_Pm) (T := T_Pm) (N := 12) hx hb hts in_Pm hown hK hP 0 rfl rfl 9 (by decide) (hts _ fl_Pm_44) (fun _ h9 => h9) rfl d_Pm_initTable_39 ?_
      refine lv_iload_n hx hb d_Pm_initTable_42 rfl (lv_at hl 2 rfl) ?_
      refine lv_iload hx hb d_Pm_initTable_43 (lv_at hl 4 rfl) ?_
      have hPc := hP.sub (ws' := []) [] rfl
      refine pu_l (va_runS (As := [.int fr]) (rest := [.int sg, .ref r0, .ref h]) ⟨hx, hb, hml, hown, hts⟩ (c_Pm_unsigned l G fr) (va_cwS 1 hts (gi_S ml_Pm_74 sm_Pm_unsigned ini_Pm co_Pm_unsigned) rfl rfl rfl (by decide +kernel) ⟨Nat.le_of_ble_eq_true rfl, Nat.le_of_ble_eq_true rfl⟩) ⟨cp_blind, cp_pre hcx hS hPc⟩ rfl rfl hl.1 rfl (lv_room (Nat.le_of_ble_eq_true rfl)) d_Pm_initTable_45 ⟨Nat.le_of_ble_eq_true rfl, Nat.le_of_ble_eq_true rfl⟩) hS hP (fun H locs hP hS => ?_)
      refine lv_iload hx hb d_Pm_initTable_48 (lv_at hl 5 rfl) ?_
      have hPc := hP.sub (ws' := []) [] rfl
      refine pu_l (va_runS (As := [.int cn]) (rest := [.long (u32 fr), .int sg, .ref r0, .ref h]) ⟨hx, hb, hml, hown, hts⟩ (c_Pm_unsigned l G cn) (va_cwS 1 hts (gi_S ml_Pm_74 sm_Pm_unsigned ini_Pm co_Pm_unsigned) rfl rfl rfl (by decide +kernel) ⟨Nat.le_of_ble_eq_true rfl, Nat.le_of_ble_eq_true rfl⟩) ⟨cp_blind, cp_pre hcx hS hPc⟩ rfl rfl hl.1 rfl (lv_room (Nat.le_of_ble_eq_true rfl)) d_Pm_initTable_50 ⟨Nat.le_of_ble_eq_true rfl, Nat.le_of_ble_eq_true rfl⟩) hS hP (fun H locs hP hS => ?_)
      refine lv_iconst (v := 5) hx hb d_Pm_initTable_53 (by decide) ?_
      obtain ⟨h_3, hw⟩ := hw
      have hPc := hP.sub (ws' := [(h, .inr (1, [.ref m0, .ref aml, .ref amb, .ref t0, .ref atl, .ref att, .ref ate, .ref b0, .ref asb, .ref r0, .ref asr, .int 0])), (r0, .inr (0, [.int 200, .ref r1, .ref r2, .ref r3, .int rC, .int rU])), (r1, .inl (G.2.1 0, 24, .inl rS)), (r2, .inl (G.2.1 0, 24, .inl rL)), (r3, .inl (G.2.1 2, 24, .inl rD))]) [0, 5, 6, 7, 8] rfl
      have hDc := hD.sub (ws' := [(h, .inr (1, [.ref m0, .ref aml, .ref amb, .ref t0, .ref atl, .ref att, .ref ate, .ref b0, .ref asb, .ref r0, .ref asr, .int 0])), (r0, .inr (0, [.int 200, .ref r1, .ref r2, .ref r3, .int rC, .int rU])), (r1, .inl (G.2.1 0, 24, .inl rS)), (r2, .inl (G.2.1 0, 24, .inl rL)), (r3, .inl (G.2.1 2, 24, .inl rD))]) [0, 5, 6, 7, 8] (by decide) rfl
      have hFc := va_free (wc := [(h, .inr (1, [.ref m0, .ref aml, .ref amb, .ref t0, .ref atl, .ref att, .ref ate, .ref b0, .ref asb, .ref r0, .ref asr, .int 0])), (r0, .inr (0, [.int 200, .ref r1, .ref r2, .ref r3, .int rC, .int rU])), (r1, .inl (G.2.1 0, 24, .inl rS)), (r2, .inl (G.2.1 0, 24, .inl rL)), (r3, .inl (G.2.1 2, 24, .inl rD))]) hD hS hA [0, 5, 6, 7, 8] rfl
      refine tx_i (tr_runV (As := [.ref r0, .int sg, .long (u32 fr), .long (u32 cn), .int 5]) (rest := []) ⟨hx, hb, hml, hown, hts⟩ (c_Pm_placeOf l hst G h m0 aml amb t0 atl att ate b0 asb r0 asr r0 r1 r2 r3 24 0 200 rC rU rS rL rD sg (u32 fr) (u32 cn) 5 _ h_3) (cwV 5 hts (gi_V ml_Pm_113 im_Pm_placeOf se_Pm_placeOf ini_Pm co_Pm_placeOf) rfl rfl rfl (by decide +kernel) ⟨Nat.le_of_ble_eq_true rfl, Nat.le_of_ble_eq_true rfl⟩) ⟨cm_blind, va_recv hK hPc (ci := 1) (q0 := 0) rfl rfl, cm_pre hcx hS hPc hDc hFc⟩ rfl rfl hl.1 rfl (lv_room (Nat.le_of_ble_eq_true rfl)) d_Pm_initTable_54 ⟨Nat.le_of_ble_eq_true rfl, Nat.le_of_ble_eq_true rfl⟩) hS hP hD hA [0, 5, 6, 7, 8] rfl (fun _ => rfl) (fun _ => rfl) (fun E9 u9 hp q9 ce9 H locs hP hD hS h91 h92 h93 => ?_) (fun r9 u9 H locs hp hP hD hS => ?_)
      · obtain ⟨hN, rfl, rfl⟩ := hp
        exact tr_pass (hnt _) hlocks h91 h92 h93 (fun t ht => ⟨(5, fte), hw.2 hN, by have h9 := hP; rw [← ht] at h9; exact h9⟩) hS (Nat.le_of_ble_eq_true rfl) (Nat.le_of_ble_eq_true rfl)
      · obtain ⟨hN, e91, e92⟩ := hp; replace e91 := e91.symm; replace e92 := e92.symm; subst e91; subst e92
        replace hw := hw.1 hN
        have hP : va_P G.1 vwC [(h, .inr (1, [.ref m0, .ref aml, .ref amb, .ref t0, .ref atl, .ref att, .ref ate, .ref b0, .ref asb, .ref r0, .ref asr, .int 0])), (t0, .inr (0, [.int 200, .ref t1, .ref t2, .ref t3, .int tC, .int tU])), (t1, .inl (G.2.1 0, 6, .inl tS)), (t2, .inl (G.2.1 0, 6, .inl tL)), (t3, .inl (G.2.1 2, 6, .inl tD)), (r0, .inr (0, [.int 200, .ref r1, .ref r2, .ref r3, .int rC, .int rU])), (r1, .inl (G.2.1 0, 24, .inl rS)), (r2, .inl (G.2.1 0, 24, .inl rL)), (r3, .inl (G.2.1 2, 24, .inl rD)), (ate, .inl (G.2.1 0, 200, .inl fte)), (asr, .inl (G.2.1 0, 200, .inl fsr))] H := hP
        have hD : va_D A [(h, .inr (1, [.ref m0, .ref aml, .ref amb, .ref t0, .ref atl, .ref att, .ref ate, .ref b0, .ref asb, .ref r0, .ref asr, .int 0])), (t0, .inr (0, [.int 200, .ref t1, .ref t2, .ref t3, .int tC, .int tU])), (t1, .inl (G.2.1 0, 6, .inl tS)), (t2, .inl (G.2.1 0, 6, .inl tL)), (t3, .inl (G.2.1 2, 6, .inl tD)), (r0, .inr (0, [.int 200, .ref r1, .ref r2, .ref r3, .int rC, .int rU])), (r1, .inl (G.2.1 0, 24, .inl rS)), (r2, .inl (G.2.1 0, 24, .inl rL)), (r3, .inl (G.2.1 2, 24, .inl rD)), (ate, .inl (G.2.1 0, 200, .inl fte)), (asr, .inl (G.2.1 0, 200, .inl fsr))] := hD
        refine lv_topi (fun x_4 ex_4 => ?_)
        replace hw := hw x_4 ex_4
        refine lv_istore (lv' := [(6, .int x_4), (0, .ref h), (1, .int k), (2, .int sg), (3, .int to), (4, .int fr), (5, .int cn)]) hx hb d_Pm_initTable_57 hl (by decide) rfl (fun ls hl => ?_)
        refine lv_aload_n hx hb d_Pm_initTable_59 rfl (lv_at hl 1 rfl) ?_
        refine lv_aload_n hx hb d_Pm_initTable_60 rfl (lv_at hl 1 rfl) ?_
        refine va_get (D := G.1) (ci := 1) (v := .ref t0) (C := R_Pm) (T := T_Pm) (N := 12) hx hb hts in_Pm hown hK hP 0 rfl rfl 3 (by decide) (hts _ fl_Pm_26) (fun _ h9 => h9) rfl d_Pm_initTable_61 ?_
        refine lv_iload_n hx hb d_Pm_initTable_64 rfl (lv_at hl 2 rfl) ?_
        refine lv_iload_n hx hb d_Pm_initTable_65 rfl (lv_at hl 4 rfl) ?_
        have hPc := hP.sub (ws' := []) [] rfl
        refine pu_l (va_runS (As := [.int to]) (rest := [.int k, .ref t0, .ref h]) ⟨hx, hb, hml, hown, hts⟩ (c_Pm_unsigned l G to) (va_cwS 1 hts (gi_S ml_Pm_74 sm_Pm_unsigned ini_Pm co_Pm_unsigned) rfl rfl rfl (by decide +kernel) ⟨Nat.le_of_ble_eq_true rfl, Nat.le_of_ble_eq_true rfl⟩) ⟨cp_blind, cp_pre hcx hS hPc⟩ rfl rfl hl.1 rfl (lv_room (Nat.le_of_ble_eq_true rfl)) d_Pm_initTable_66 ⟨Nat.le_of_ble_eq_true rfl, Nat.le_of_ble_eq_true rfl⟩) hS hP (fun H locs hP hS => ?_)
        refine lv_iload hx hb d_Pm_initTable_69 (lv_at hl 6 rfl) ?_
        have hPc := hP.sub (ws' := []) [] rfl
        refine pu_l (va_runS (As := [.int cn]) (rest := [.long (u32 to), .int k, .ref t0, .ref h]) ⟨hx, hb, hml, hown, hts⟩ (c_Pm_unsigned l G cn) (va_cwS 1 hts (gi_S ml_Pm_74 sm_Pm_unsigned ini_Pm co_Pm_unsigned) rfl rfl rfl (by decide +kernel) ⟨Nat.le_of_ble_eq_true rfl, Nat.le_of_ble_eq_true rfl⟩) ⟨cp_blind, cp_pre hcx hS hPc⟩ rfl rfl hl.1 rfl (lv_room (Nat.le_of_ble_eq_true rfl)) d_Pm_initTable_71 ⟨Nat.le_of_ble_eq_true rfl, Nat.le_of_ble_eq_true rfl⟩) hS hP (fun H locs hP hS => ?_)
        refine lv_iconst (v := 5) hx hb d_Pm_initTable_74 (by decide) ?_
        obtain ⟨h_5, hw⟩ := hw
        have hPc := hP.sub (ws' := [(h, .inr (1, [.ref m0, .ref aml, .ref amb, .ref t0, .ref atl, .ref att, .ref ate, .ref b0, .ref asb, .ref r0, .ref asr, .int 0])), (t0, .inr (0, [.int 200, .ref t1, .ref t2, .ref t3, .int tC, .int tU])), (t1, .inl (G.2.1 0, 6, .inl tS)), (t2, .inl (G.2.1 0, 6, .inl tL)), (t3, .inl (G.2.1 2, 6, .inl tD))]) [0, 1, 2, 3, 4] rfl
        have hDc := hD.sub (ws' := [(h, .inr (1, [.ref m0, .ref aml, .ref amb, .ref t0, .ref atl, .ref att, .ref ate, .ref b0, .ref asb, .ref r0, .ref asr, .int 0])), (t0, .inr (0, [.int 200, .ref t1, .ref t2, .ref t3, .int tC, .int tU])), (t1, .inl (G.2.1 0, 6, .inl tS)), (t2, .inl (G.2.1 0, 6, .inl tL)), (t3, .inl (G.2.1 2, 6, .inl tD))]) [0, 1, 2, 3, 4] (by decide) rfl
        have hFc := va_free (wc := [(h, .inr (1, [.ref m0, .ref aml, .ref amb, .ref t0, .ref atl, .ref att, .ref ate, .ref b0, .ref asb, .ref r0, .ref asr, .int 0])), (t0, .inr (0, [.int 200, .ref t1, .ref t2, .ref t3, .int tC, .int tU])), (t1, .inl (G.2.1 0, 6, .inl tS)), (t2, .inl (G.2.1 0, 6, .inl tL)), (t3, .inl (G.2.1 2, 6, .inl tD))]) hD hS hA [0, 1, 2, 3, 4] rfl
        refine tx_i (tr_runV (As := [.ref t0, .int k, .long (u32 to), .long (u32 cn), .int 5]) (rest := []) ⟨hx, hb, hml, hown, hts⟩ (c_Pm_placeOf l hst G h m0 aml amb t0 atl att ate b0 asb r0 asr t0 t1 t2 t3 6 0 200 tC tU tS tL tD k (u32 to) (u32 cn) 5 _ h_5) (cwV 5 hts (gi_V ml_Pm_113 im_Pm_placeOf se_Pm_placeOf ini_Pm co_Pm_placeOf) rfl rfl rfl (by decide +kernel) ⟨Nat.le_of_ble_eq_true rfl, Nat.le_of_ble_eq_true rfl⟩) ⟨cm_blind, va_recv hK hPc (ci := 1) (q0 := 0) rfl rfl, cm_pre hcx hS hPc hDc hFc⟩ rfl rfl hl.1 rfl (lv_room (Nat.le_of_ble_eq_true rfl)) d_Pm_initTable_75 ⟨Nat.le_of_ble_eq_true rfl, Nat.le_of_ble_eq_true rfl⟩) hS hP hD hA [0, 1, 2, 3, 4] rfl (fun _ => rfl) (fun _ => rfl) (fun E9 u9 hp q9 ce9 H locs hP hD hS h91 h92 h93 => ?_) (fun r9 u9 H locs hp hP hD hS => ?_)
        · obtain ⟨hN, rfl, rfl⟩ := hp
          exact tr_pass (hnt _) hlocks h91 h92 h93 (fun t ht => ⟨(5, fte), hw.2 hN, by have h9 := hP; rw [← ht] at h9; exact h9⟩) hS (Nat.le_of_ble_eq_true rfl) (Nat.le_of_ble_eq_true rfl)
        · obtain ⟨hN, e91, e92⟩ := hp; replace e91 := e91.symm; replace e92 := e92.symm; subst e91; subst e92
          replace hw := hw.1 hN
          have hP : va_P G.1 vwC [(h, .inr (1, [.ref m0, .ref aml, .ref amb, .ref t0, .ref atl, .ref att, .ref ate, .ref b0, .ref asb, .ref r0, .ref asr, .int 0])), (t0, .inr (0, [.int 200, .ref t1, .ref t2, .ref t3, .int tC, .int tU])), (t1, .inl (G.2.1 0, 6, .inl tS)), (t2, .inl (G.2.1 0, 6, .inl tL)), (t3, .inl (G.2.1 2, 6, .inl tD)), (r0, .inr (0, [.int 200, .ref r1, .ref r2, .ref r3, .int rC, .int rU])), (r1, .inl (G.2.1 0, 24, .inl rS)), (r2, .inl (G.2.1 0, 24, .inl rL)), (r3, .inl (G.2.1 2, 24, .inl rD)), (ate, .inl (G.2.1 0, 200, .inl fte)), (asr, .inl (G.2.1 0, 200, .inl fsr))] H := hP
          have hD : va_D A [(h, .inr (1, [.ref m0, .ref aml, .ref amb, .ref t0, .ref atl, .ref att, .ref ate, .ref b0, .ref asb, .ref r0, .ref asr, .int 0])), (t0, .inr (0, [.int 200, .ref t1, .ref t2, .ref t3, .int tC, .int tU])), (t1, .inl (G.2.1 0, 6, .inl tS)), (t2, .inl (G.2.1 0, 6, .inl tL)), (t3, .inl (G.2.1 2, 6, .inl tD)), (r0, .inr (0, [.int 200, .ref r1, .ref r2, .ref r3, .int rC, .int rU])), (r1, .inl (G.2.1 0, 24, .inl rS)), (r2, .inl (G.2.1 0, 24, .inl rL)), (r3, .inl (G.2.1 2, 24, .inl rD)), (ate, .inl (G.2.1 0, 200, .inl fte)), (asr, .inl (G.2.1 0, 200, .inl fsr))] := hD
          refine lv_topi (fun x_6 ex_6 => ?_)
          replace hw := hw x_6 ex_6
          refine lv_istore (lv' := [(7, .int x_6), (6, .int x_4), (0, .ref h), (1, .int k), (2, .int sg), (3, .int to), (4, .int fr), (5, .int cn)]) hx hb d_Pm_initTable_78 hl (by decide) rfl (fun ls hl => ?_)
          refine lv_aload_n hx hb d_Pm_initTable_80 rfl (lv_at hl 2 rfl) ?_
          refine va_get (D := G.1) (ci := 1) (v := .ref asr) (C := R_Pm) (T := T_Pm) (N := 12) hx hb hts in_Pm hown hK hP 0 rfl rfl 10 (by decide) (hts _ fl_Pm_47) (fun _ h9 => h9) rfl d_Pm_initTable_81 ?_
          refine lv_iload hx hb d_Pm_initTable_84 (lv_at hl 1 rfl) ?_
          refine lv_aload_n hx hb d_Pm_initTable_86 rfl (lv_at hl 2 rfl) ?_
          refine va_get (D := G.1) (ci := 1) (v := .ref ate) (C := R_Pm) (T := T_Pm) (N := 12) hx hb hts in_Pm hown hK hP 0 rfl rfl 6 (by decide) (hts _ fl_Pm_35) (fun _ h9 => h9) rfl d_Pm_initTable_87 ?_
          refine lv_iload hx hb d_Pm_initTable_90 (lv_at hl 0 rfl) ?_
          refine lv_iload hx hb d_Pm_initTable_92 (lv_at hl 7 rfl) ?_
          obtain ⟨h_7, h_8, h_9, h_10, h_11, h_12, hw⟩ := hw
          obtain ⟨a_13, ea_13⟩ : ∃ z, z = va_cpy fsr fte x_4.toNatClampNeg x_6.toNatClampNeg cn.toNatClampNeg := ⟨_, rfl⟩
          replace hw := hw a_13 ea_13
          refine va_copyi (ty := .int) hx hb (hml.trans hl.1.symm) hown (hts _ ml_Pm_84) (hts _ nt_arraycopy) (hts _ sm_arraycopy) (hts _ ini_System) hK hP hD hS 10 9 0 0 rfl rfl rfl rfl rfl h_7 h_8 h_9 h_10 h_11 h_12 (Nat.le_of_ble_eq_true rfl) (Nat.le_of_ble_eq_true rfl) d_Pm_initTable_94 (fun H locs hP hD hS => ?_)
          rw [← ea_13] at hP hD
          have hP : va_P G.1 vwC [(h, .inr (1, [.ref m0, .ref aml, .ref amb, .ref t0, .ref atl, .ref att, .ref ate, .ref b0, .ref asb, .ref r0, .ref asr, .int 0])), (t0, .inr (0, [.int 200, .ref t1, .ref t2, .ref t3, .int tC, .int tU])), (t1, .inl (G.2.1 0, 6, .inl tS)), (t2, .inl (G.2.1 0, 6, .inl tL)), (t3, .inl (G.2.1 2, 6, .inl tD)), (r0, .inr (0, [.int 200, .ref r1, .ref r2, .ref r3, .int rC, .int rU])), (r1, .inl (G.2.1 0, 24, .inl rS)), (r2, .inl (G.2.1 0, 24, .inl rL)), (r3, .inl (G.2.1 2, 24, .inl rD)), (ate, .inl (G.2.1 0, 200, .inl a_13)), (asr, .inl (G.2.1 0, 200, .inl fsr))] H := hP
          have hD : va_D A [(h, .inr (1, [.ref m0, .ref aml, .ref amb, .ref t0, .ref atl, .ref att, .ref ate, .ref b0, .ref asb, .ref r0, .ref asr, .int 0])), (t0, .inr (0, [.int 200, .ref t1, .ref t2, .ref t3, .int tC, .int tU])), (t1, .inl (G.2.1 0, 6, .inl tS)), (t2, .inl (G.2.1 0, 6, .inl tL)), (t3, .inl (G.2.1 2, 6, .inl tD)), (r0, .inr (0, [.int 200, .ref r1, .ref r2, .ref r3, .int rC, .int rU])), (r1, .inl (G.2.1 0, 24, .inl rS)), (r2, .inl (G.2.1 0, 24, .inl rL)), (r3, .inl (G.2.1 2, 24, .inl rD)), (ate, .inl (G.2.1 0, 200, .inl a_13)), (asr, .inl (G.2.1 0, 200, .inl fsr))] := hD
          exact tr_ret (W.vret hx hb hr (fun t ht hW => ⟨⟨(0, a_13), rfl, hw, by have h9 := hP; rw [← ht] at h9; exact h9⟩, hS.F ht⟩) hS.2.2 d_Pm_initTable_97)
    · replace hw := hw.2 c_2
      exact tr_throw hx hb hst hown (by decide +kernel) (by decide +kernel) (hcx.imp (fun V h => tw_ill_168 V h)) hS (hl.1.trans hml.symm) d_Pm_initTable_27 d_Pm_initTable_30 d_Pm_initTable_31 d_Pm_initTable_33 d_Pm_initTable_36 (hnt _) (Nat.le_of_ble_eq_true rfl) (Nat.le_of_ble_eq_true rfl) (Nat.le_of_ble_eq_true rfl) (Nat.le_of_ble_eq_true rfl) hlocks (fun t h1 h2 => ⟨(0, fte), hw, hP.kept fun k q hq => h2 q.1 (hP k q hq).lt⟩) hA (Nat.le_of_ble_eq_true rfl) (Nat.le_of_ble_eq_true rfl)
end
section
def wp_Pm_size (post : Int32 → Prop) (trp : Int32) (mC : Int32) (mU : Int32) (mS : Nat → Int32) (mL : Nat → Int32) (mD : Nat → Int32) (tC : Int32) (tU : Int32) (tS : Nat → Int32) (tL : Nat → Int32) (tD : Nat → Int32) (bC : Int32) (bU : Int32) (bS : Nat → Int32) (bL : Nat → Int32) (bD : Nat → Int32) (rC : Int32) (rU : Int32) (rS : Nat → Int32) (rL : Nat → Int32) (rD : Nat → Int32) (fml : Nat → Int32) (ftl : Nat → Int32) (ftt : Nat → Int32) (wh : Int32) (k : Int32) : Prop := ((wh = 0 → (((ly_has mC k = 0 → (post (-1))) ∧ (¬ ly_has mC k = 0 → ((mC.toInt ≤ 6) ∧ (post (ly_ln mC k mL / 256))))))) ∧ (¬ wh = 0 → (((wh = 1 → (((ly_has mC k = 0 → (post (-1))) ∧ (¬ ly_has mC k = 0 → ((vp_in k 6) ∧ (post (fml k.toNatClampNeg))))))) ∧ (¬ wh = 1 → (((wh = 2 → (((ly_has tC k = 0 → (post (-1))) ∧ (¬ ly_has tC k = 0 → ((tC.toInt ≤ 6) ∧ (post (ly_ln tC k tL))))))) ∧ (¬ wh = 2 → (((wh = 3 → (((ly_has tC k = 0 → (post (-1))) ∧ (¬ ly_has tC k = 0 → ((vp_in k 6) ∧ (post (ftl k.toNatClampNeg))))))) ∧ (¬ wh = 3 → (((wh = 4 → (((ly_has tC k = 0 → (post (-1))) ∧ (¬ ly_has tC k = 0 → ((vp_in k 6) ∧ (post (ftt k.toNatClampNeg))))))) ∧ (¬ wh = 4 → (((wh = 5 → (((ly_has bC k = 0 → (post (-1))) ∧ (¬ ly_has bC k = 0 → ((bC.toInt ≤ 24) ∧ (post (ly_ln bC k bL))))))) ∧ (¬ wh = 5 → (((wh = 6 → (((ly_has rC k = 0 → (post (-1))) ∧ (¬ ly_has rC k = 0 → ((rC.toInt ≤ 24) ∧ (post (ly_ln rC k rL))))))) ∧ (¬ wh = 6 → (((wh = 7 → (post ((12288 - mU) / 256))) ∧ (¬ wh = 7 → (((wh = 8 → (post (200 - tU))) ∧ (¬ wh = 8 → (((wh = 9 → (post mC)) ∧ (¬ wh = 9 → (((wh = 10 → (post tC)) ∧ (¬ wh = 10 → (((wh = 11 → (post bC)) ∧ (¬ wh = 11 → (((wh = 12 → (post rC)) ∧ (¬ wh = 12 → (post (-1))))))))))))))))))))))))))))))))))))))))
set_option maxHeartbeats 4000000 in
set_option maxRecDepth 100000 in
theorem t_Pm_size (l : Launch) (G : cxT) (h : Nat) (m0 : Nat) (aml : Nat) (amb : Nat) (t0 : Nat) (atl : Nat) (att : Nat) (ate : Nat) (b0 : Nat) (asb : Nat) (r0 : Nat) (asr : Nat) (m1 : Nat) (m2 : Nat) (m3 : Nat) (t1 : Nat) (t2 : Nat) (t3 : Nat) (b1 : Nat) (b2 : Nat) (b3 : Nat) (r1 : Nat) (r2 : Nat) (r3 : Nat) (trp : Int32) (mC : Int32) (mU : Int32) (mS : Nat → Int32) (mL : Nat → Int32) (mD : Nat → Int32) (tC : Int32) (tU : Int32) (tS : Nat → Int32) (tL : Nat → Int32) (tD : Nat → Int32) (bC : Int32) (bU : Int32) (bS : Nat → Int32) (bL : Nat → Int32) (bD : Nat → Int32) (rC : Int32) (rU : Int32) (rS : Nat → Int32) (rL : Nat → Int32) (rD : Nat → Int32) (fml : Nat → Int32) (ftl : Nat → Int32) (ftt : Nat → Int32) (wh : Int32) (k : Int32) (post : Int32 → Prop) (hw : wp_Pm_size post trp mC mU mS mL mD tC tU tS tL tD bC bU bS bL bD rC rU rS rL rD fml ftl ftt wh k) : Met l y_Pm_size [.code y_Pm_size b_Pm_size 3 (some .int)] ({ frames := 4, cells := 0, slots := 0, locals := 140 } : Room) (cp G [.ref h, .int wh, .int k] [(h, .inr (1, [.ref m0, .ref aml, .ref amb, .ref t0, .ref atl, .ref att, .ref ate, .ref b0, .ref asb, .ref r0, .ref asr, .int trp])), (m0, .inr (0, [.int 12288, .ref m1, .ref m2, .ref m3, .int mC, .int mU])), (m1, .inl (G.2.1 0, 6, .inl mS)), (m2, .inl (G.2.1 0, 6, .inl mL)), (m3, .inl (G.2.1 2, 6, .inl mD)), (t0, .inr (0, [.int 200, .ref t1, .ref t2, .ref t3, .int tC, .int tU])), (t1, .inl (G.2.1 0, 6, .inl tS)), (t2, .inl (G.2.1 0, 6, .inl tL)), (t3, .inl (G.2.1 2, 6, .inl tD)), (b0, .inr (0, [.int 600, .ref b1, .ref b2, .ref b3, .int bC, .int bU])), (b1, .inl (G.2.1 0, 24, .inl bS)), (b2, .inl (G.2.1 0, 24, .inl bL)), (b3, .inl (G.2.1 2, 24, .inl bD)), (r0, .inr (0, [.int 200, .ref r1, .ref r2, .ref r3, .int rC, .int rU])), (r1, .inl (G.2.1 0, 24, .inl rS)), (r2, .inl (G.2.1 0, 24, .inl rL)), (r3, .inl (G.2.1 2, 24, .inl rD)), (aml, .inl (G.2.1 0, 6, .inl fml)), (atl, .inl (G.2.1 0, 6, .inl ftl)), (att, .inl (G.2.1 0, 6, .inl ftt))]) (va_Qi (fun r (_ : Unit) => post r) (fun _ _ => True) (fun _ => False)) 0 0 (fun _ => False) := by
  refine Met.ofW (cc := b_Pm_size) (maxL := 3) (ret := (some .int)) (by decide +kernel) rfl ?_
  intro p e s m args below meth c s₁ B hml hv
  obtain ⟨rfl, hcx, hP⟩ := hv
  have hx := B.exec
  have hb := B.bytes
  have hr := B.returns
  have hlocks := B.notSynchronized
  have hown : s.vm.findClass R_Pm = some m.cls := findClass_of_methodNamed B.named
  have hS : va_S (fun _ => False) s.heap s.heap [] := va_S.rf
  have hts := hcx.now.1 [.ref h, .int wh, .int k].toArray
  have hK := hcx.now.2.1
  have hl := lv_entry ([.ref h, .int wh, .int k]) (n := 3) (Nat.le_of_ble_eq_true rfl)
  rw [lg_entry_eq]
  generalize (lg_sl ([.ref h, .int wh, .int k]) ++ List.replicate (3 - (lg_sl ([.ref h, .int wh, .int k])).length) Slot.unset).toArray = ls at hl ⊢
  have hl : lv_has ls 3 [(0, .ref h), (1, .int wh), (2, .int k)] := hl
  unfold wp_Pm_size at hw
  refine lv_iload_n hx hb d_Pm_size_0 rfl (lv_at hl 1 rfl) ?_
  by_cases c_1 : wh = 0
  · replace hw := hw.1 c_1
    refine lv_tableIn (tgt := 68) hx hb d_Pm_size_1 (by rw [c_1]; decide) (by rw [c_1]; decide) (by rw [c_1]; rfl) (by decide) ?_
    refine lv_aload_n hx hb d_Pm_size_68 rfl (lv_at hl 0 rfl) ?_
    refine va_get (D := G.1) (ci := 1) (v := .ref m0) (C := R_Pm) (T := T_Pm) (N := 12) hx hb hts in_Pm hown hK hP 0 rfl rfl 0 (by decide) (hts _ fl_Pm_14) (fun _ h9 => h9) rfl d_Pm_size_69 ?_
    refine lv_iload_n hx hb d_Pm_size_72 rfl (lv_at hl 2 rfl) ?_
    have hPc := hP.sub (ws' := [(m0, .inr (0, [.int 12288, .ref m1, .ref m2, .ref m3, .int mC, .int mU])), (m1, .inl (G.2.1 0, 6, .inl mS)), (m2, .inl (G.2.1 0, 6, .inl mL)), (m3, .inl (G.2.1 2, 6, .inl mD))]) [1, 2, 3, 4] rfl
    refine pu_i (va_runV (As := [.int k]) (rest := []) ⟨hx, hb, hml, hown, hts⟩ (c_Ly_has l G m0 m1 m2 m3 6 12288 mC mU mS mL mD k) (cwV 1 hts (gi_V ml_Pm_67 im_Ly_has se_Ly_has ini_Ly co_Ly_has) rfl rfl rfl (by decide +kernel) ⟨Nat.le_of_ble_eq_true rfl, Nat.le_of_ble_eq_true rfl⟩) ⟨cp_blind, va_recv hK hPc (ci := 0) (q0 := 0) rfl rfl, cp_pre hcx hS hPc⟩ rfl rfl hl.1 rfl (lv_room (Nat.le_of_ble_eq_true rfl)) d_Pm_size_73 ⟨Nat.le_of_ble_eq_true rfl, Nat.le_of_ble_eq_true rfl⟩) hS hP (fun H locs hP hS => ?_)
    refine lv_if_eq (tgt := 87) hx hb d_Pm_size_76 (by decide) (fun c_2 => ?_) (fun c_2 => ?_)
    · replace hw := hw.1 c_2
      refine lv_iconst (v := (-1)) hx hb d_Pm_size_87 (by decide) ?_
      exact W.iret (v := (-1)) hx hb hr (fun t ht hW => ⟨⟨(-1), (), rfl, hw, trivial⟩, hS.F ht⟩) hS.2.2 d_Pm_size_88
    · replace hw := hw.2 c_2
      refine lv_aload_n hx hb d_Pm_size_79 rfl (lv_at hl 0 rfl) ?_
      refine lv_iload_n hx hb d_Pm_size_80 rfl (lv_at hl 2 rfl) ?_
      obtain ⟨h_3, hw⟩ := hw
      have hPc := hP.sub (ws' := [(h, .inr (1, [.ref m0, .ref aml, .ref amb, .ref t0, .ref atl, .ref att, .ref ate, .ref b0, .ref asb, .ref r0, .ref asr, .int trp])), (m0, .inr (0, [.int 12288, .ref m1, .ref m2, .ref m3, .int mC, .int mU])), (m1, .inl (G.2.1 0, 6, .inl mS)), (m2, .inl (G.2.1 0, 6, .inl mL)), (m3, .inl (G.2.1 2, 6, .inl mD))]) [0, 1, 2, 3, 4] rfl
      refine pu_i (va_runV (As := [.int k]) (rest := []) ⟨hx, hb, hml, hown, hts⟩ (c_Pm_pagesOf l G h m0 aml amb t0 atl att ate b0 asb r0 asr m1 m2 m3 trp mC mU mS mL mD k h_3) (cwV 1 hts (gi_V ml_Pm_71 im_Pm_pagesOf se_Pm_pagesOf ini_Pm co_Pm_pagesOf) rfl rfl rfl (by decide +kernel) ⟨Nat.le_of_ble_eq_true rfl, Nat.le_of_ble_eq_true rfl⟩) ⟨cp_blind, va_recv hK hPc (ci := 1) (q0 := 0) rfl rfl, cp_pre hcx hS hPc⟩ rfl rfl hl.1 rfl (lv_room (Nat.le_of_ble_eq_true rfl)) d_Pm_size_81 ⟨Nat.le_of_ble_eq_true rfl, Nat.le_of_ble_eq_true rfl⟩) hS hP (fun H locs hP hS => ?_)
      refine lv_goto (tgt := 88) hx hb d_Pm_size_84 (by decide) ?_
      exact W.iret (v := ly_ln mC k mL / 256) hx hb hr (fun t ht hW => ⟨⟨ly_ln mC k mL / 256, (), rfl, hw, trivial⟩, hS.F ht⟩) hS.2.2 d_Pm_size_88
  · replace hw := hw.2 c_1
    by_cases c_4 : wh = 1
    · replace hw := hw.1 c_4
      refine lv_tableIn (tgt := 89) hx hb d_Pm_size_1 (by rw [c_4]; decide) (by rw [c_4]; decide) (by rw [c_4]; rfl) (by decide) ?_
      refine lv_aload_n hx hb d_Pm_size_89 rfl (lv_at hl 0 rfl) ?_
      refine va_get (D := G.1) (ci := 1) (v := .ref m0) (C := R_Pm) (T := T_Pm) (N := 12) hx hb hts in_Pm hown hK hP 0 rfl rfl 0 (by decide) (hts _ fl_Pm_14) (fun _ h9 => h9) rfl d_Pm_size_90 ?_
      refine lv_iload_n hx hb d_Pm_size_93 rfl (lv_at hl 2 rfl) ?_
      have hPc := hP.sub (ws' := [(m0, .inr (0, [.int 12288, .ref m1, .ref m2, .ref m3, .int mC, .int mU])), (m1, .inl (G.2.1 0, 6, .inl mS)), (m2, .inl (G.2.1 0, 6, .inl mL)), (m3, .inl (G.2.1 2, 6, .inl mD))]) [1, 2, 3, 4] rfl
      refine pu_i (va_runV (As := [.int k]) (rest := []) ⟨hx, hb, hml, hown, hts⟩ (c_Ly_has l G m0 m1 m2 m3 6 12288 mC mU mS mL mD k) (cwV 1 hts (gi_V ml_Pm_67 im_Ly_has se_Ly_has ini_Ly co_Ly_has) rfl rfl rfl (by decide +kernel) ⟨Nat.le_of_ble_eq_true rfl, Nat.le_of_ble_eq_true rfl⟩) ⟨cp_blind, va_recv hK hPc (ci := 0) (q0 := 0) rfl rfl, cp_pre hcx hS hPc⟩ rfl rfl hl.1 rfl (lv_room (Nat.le_of_ble_eq_true rfl)) d_Pm_size_94 ⟨Nat.le_of_ble_eq_true rfl, Nat.le_of_ble_eq_true rfl⟩) hS hP (fun H locs hP hS => ?_)
      refine lv_if_eq (tgt := 109) hx hb d_Pm_size_97 (by decide) (fun c_5 => ?_) (fun c_5 => ?_)
      · replace hw := hw.1 c_5
        refine lv_iconst (v := (-1)) hx hb d_Pm_size_109 (by decide) ?_
        exact W.iret (v := (-1)) hx hb hr (fun t ht hW => ⟨⟨(-1), (), rfl, hw, trivial⟩, hS.F ht⟩) hS.2.2 d_Pm_size_110
      · replace hw := hw.2 c_5
        refine lv_aload_n hx hb d_Pm_size_100 rfl (lv_at hl 0 rfl) ?_
        refine va_get (D := G.1) (ci := 1) (v := .ref aml) (C := R_Pm) (T := T_Pm) (N := 12) hx hb hts in_Pm hown hK hP 0 rfl rfl 1 (by decide) (hts _ fl_Pm_18) (fun _ h9 => h9) rfl d_Pm_size_101 ?_
        refine lv_iload_n hx hb d_Pm_size_104 rfl (lv_at hl 2 rfl) ?_
        obtain ⟨h_6, hw⟩ := hw
        refine va_iald hx hb hK hP 17 0 rfl rfl h_6 d_Pm_size_105 ?_
        refine lv_goto (tgt := 110) hx hb d_Pm_size_106 (by decide) ?_
        exact W.iret (v := fml k.toNatClampNeg) hx hb hr (fun t ht hW => ⟨⟨fml k.toNatClampNeg, (), rfl, hw, trivial⟩, hS.F ht⟩) hS.2.2 d_Pm_size_110
    · replace hw := hw.2 c_4
      by_cases c_7 : wh = 2
      · replace hw := hw.1 c_7
        refine lv_tableIn (tgt := 111) hx hb d_Pm_size_1 (by rw [c_7]; decide) (by rw [c_7]; decide) (by rw [c_7]; rfl) (by decide) ?_
        refine lv_aload_n hx hb d_Pm_size_111 rfl (lv_at hl 0 rfl) ?_
        refine va_get (D := G.1) (ci := 1) (v := .ref t0) (C := R_Pm) (T := T_Pm) (N := 12) hx hb hts in_Pm hown hK hP 0 rfl rfl 3 (by decide) (hts _ fl_Pm_26) (fun _ h9 => h9) rfl d_Pm_size_112 ?_
        refine lv_iload_n hx hb d_Pm_size_115 rfl (lv_at hl 2 rfl) ?_
        have hPc := hP.sub (ws' := [(t0, .inr (0, [.int 200, .ref t1, .ref t2, .ref t3, .int tC, .int tU])), (t1, .inl (G.2.1 0, 6, .inl tS)), (t2, .inl (G.2.1 0, 6, .inl tL)), (t3, .inl (G.2.1 2, 6, .inl tD))]) [5, 6, 7, 8] rfl
        refine pu_i (va_runV (As := [.int k]) (rest := []) ⟨hx, hb, hml, hown, hts⟩ (c_Ly_has l G t0 t1 t2 t3 6 200 tC tU tS tL tD k) (cwV 1 hts (gi_V ml_Pm_67 im_Ly_has se_Ly_has ini_Ly co_Ly_has) rfl rfl rfl (by decide +kernel) ⟨Nat.le_of_ble_eq_true rfl, Nat.le_of_ble_eq_true rfl⟩) ⟨cp_blind, va_recv hK hPc (ci := 0) (q0 := 0) rfl rfl, cp_pre hcx hS hPc⟩ rfl rfl hl.1 rfl (lv_room (Nat.le_of_ble_eq_true rfl)) d_Pm_size_116 ⟨Nat.le_of_ble_eq_true rfl, Nat.le_of_ble_eq_true rfl⟩) hS hP (fun H locs hP hS => ?_)
        refine lv_if_eq (tgt := 133) hx hb d_Pm_size_119 (by decide) (fun c_8 => ?_) (fun c_8 => ?_)
        · replace hw := hw.1 c_8
          refine lv_iconst (v := (-1)) hx hb d_Pm_size_133 (by decide) ?_
          exact W.iret (v := (-1)) hx hb hr (fun t ht hW => ⟨⟨(-1), (), rfl, hw, trivial⟩, hS.F ht⟩) hS.2.2 d_Pm_size_134
        · replace hw := hw.2 c_8
          refine lv_aload_n hx hb d_Pm_size_122 rfl (lv_at hl 0 rfl) ?_
          refine va_get (D := G.1) (ci := 1) (v := .ref t0) (C := R_Pm) (T := T_Pm) (N := 12) hx hb hts in_Pm hown hK hP 0 rfl rfl 3 (by decide) (hts _ fl_Pm_26) (fun _ h9 => h9) rfl d_Pm_size_123 ?_
          refine lv_iload_n hx hb d_Pm_size_126 rfl (lv_at hl 2 rfl) ?_
          obtain ⟨h_9, hw⟩ := hw
          have hPc := hP.sub (ws' := [(t0, .inr (0, [.int 200, .ref t1, .ref t2, .ref t3, .int tC, .int tU])), (t1, .inl (G.2.1 0, 6, .inl tS)), (t2, .inl (G.2.1 0, 6, .inl tL)), (t3, .inl (G.2.1 2, 6, .inl tD))]) [5, 6, 7, 8] rfl
          refine pu_i (va_runV (As := [.int k]) (rest := []) ⟨hx, hb, hml, hown, hts⟩ (c_Ly_lengthOf l G t0 t1 t2 t3 6 200 tC tU tS tL tD k h_9) (cwV 1 hts (gi_V ml_Pm_163 im_Ly_lengthOf se_Ly_lengthOf ini_Ly co_Ly_lengthOf) rfl rfl rfl (by decide +kernel) ⟨Nat.le_of_ble_eq_true rfl, Nat.le_of_ble_eq_true rfl⟩) ⟨cp_blind, va_recv hK hPc (ci := 0) (q0 := 0) rfl rfl, cp_pre hcx hS hPc⟩ rfl rfl hl.1 rfl (lv_room (Nat.le_of_ble_eq_true rfl)) d_Pm_size_127 ⟨Nat.le_of_ble_eq_true rfl, Nat.le_of_ble_eq_true rfl⟩) hS hP (fun H locs hP hS => ?_)
          refine lv_goto (tgt := 134) hx hb d_Pm_size_130 (by decide) ?_
          exact W.iret (v := ly_ln tC k tL) hx hb hr (fun t ht hW => ⟨⟨ly_ln tC k tL, (), rfl, hw, trivial⟩, hS.F ht⟩) hS.2.2 d_Pm_size_134
      · replace hw := hw.2 c_7
        by_cases c_10 : wh = 3
        · replace hw := hw.1 c_10
          refine lv_tableIn (tgt := 135) hx hb d_Pm_size_1 (by rw [c_10]; decide) (by rw [c_10]; decide) (by rw [c_10]; rfl) (by decide) ?_
          refine lv_aload_n hx hb d_Pm_size_135 rfl (lv_at hl 0 rfl) ?_
          refine va_get (D := G.1) (ci := 1) (v := .ref t0) (C := R_Pm) (T := T_Pm) (N := 12) hx hb hts in_Pm hown hK hP 0 rfl rfl 3 (by decide) (hts _ fl_Pm_26) (fun _ h9 => h9) rfl d_Pm_size_136 ?_
          refine lv_iload_n hx hb d_Pm_size_139 rfl (lv_at hl 2 rfl) ?_
          have hPc := hP.sub (ws' := [(t0, .inr (0, [.int 200, .ref t1, .ref t2, .ref t3, .int tC, .int tU])), (t1, .inl (G.2.1 0, 6, .inl tS)), (t2, .inl (G.2.1 0, 6, .inl tL)), (t3, .inl (G.2.1 2, 6, .inl tD))]) [5, 6, 7, 8] rfl
          refine pu_i (va_runV (As := [.int k]) (rest := []) ⟨hx, hb, hml, hown, hts⟩ (c_Ly_has l G t0 t1 t2 t3 6 200 tC tU tS tL tD k) (cwV 1 hts (gi_V ml_Pm_67 im_Ly_has se_Ly_has ini_Ly co_Ly_has) rfl rfl rfl (by decide +kernel) ⟨Nat.le_of_ble_eq_true rfl, Nat.le_of_ble_eq_true rfl⟩) ⟨cp_blind, va_recv hK hPc (ci := 0) (q0 := 0) rfl rfl, cp_pre hcx hS hPc⟩ rfl rfl hl.1 rfl (lv_room (Nat.le_of_ble_eq_true rfl)) d_Pm_size_140 ⟨Nat.le_of_ble_eq_true rfl, Nat.le_of_ble_eq_true rfl⟩) hS hP (fun H locs hP hS => ?_)
          refine lv_if_eq (tgt := 155) hx hb d_Pm_size_143 (by decide) (fun c_11 => ?_) (fun c_11 => ?_)
          · replace hw := hw.1 c_11
            refine lv_iconst (v := (-1)) hx hb d_Pm_size_155 (by decide) ?_
            exact W.iret (v := (-1)) hx hb hr (fun t ht hW => ⟨⟨(-1), (), rfl, hw, trivial⟩, hS.F ht⟩) hS.2.2 d_Pm_size_156
          · replace hw := hw.2 c_11
            refine lv_aload_n hx hb d_Pm_size_146 rfl (lv_at hl 0 rfl) ?_
            refine va_get (D := G.1) (ci := 1) (v := .ref atl) (C := R_Pm) (T := T_Pm) (N := 12) hx hb hts in_Pm hown hK hP 0 rfl rfl 4 (by decide) (hts _ fl_Pm_29) (fun _ h9 => h9) rfl d_Pm_size_147 ?_
            refine lv_iload_n hx hb d_Pm_size_150 rfl (lv_at hl 2 rfl) ?_
            obtain ⟨h_12, hw⟩ := hw
            refine va_iald hx hb hK hP 18 0 rfl rfl h_12 d_Pm_size_151 ?_
            refine lv_goto (tgt := 156) hx hb d_Pm_size_152 (by decide) ?_
            exact W.iret (v := ftl k.toNatClampNeg) hx hb hr (fun t ht hW => ⟨⟨ftl k.toNatClampNeg, (), rfl, hw, trivial⟩, hS.F ht⟩) hS.2.2 d_Pm_size_156
        · replace hw := hw.2 c_10
          by_cases c_13 : wh = 4
          · replace hw := hw.1 c_13
            refine lv_tableIn (tgt := 157) hx hb d_Pm_size_1 (by rw [c_13]; decide) (by rw [c_13]; decide) (by rw [c_13]; rfl) (by decide) ?_
            refine lv_aload_n hx hb d_Pm_size_157 rfl (lv_at hl 0 rfl) ?_
            refine va_get (D := G.1) (ci := 1) (v := .ref t0) (C := R_Pm) (T := T_Pm) (N := 12) hx hb hts in_Pm hown hK hP 0 rfl rfl 3 (by decide) (hts _ fl_Pm_26) (fun _ h9 => h9) rfl d_Pm_size_158 ?_
            refine lv_iload_n hx hb d_Pm_size_161 rfl (lv_at hl 2 rfl) ?_
            have hPc := hP.sub (ws' := [(t0, .inr (0, [.int 200, .ref t1, .ref t2, .ref t3, .int tC, .int tU])), (t1, .inl (G.2.1 0, 6, .inl tS)), (t2, .inl (G.2.1 0, 6, .inl tL)), (t3, .inl (G.2.1 2, 6, .inl tD))]) [5, 6, 7, 8] rfl
            refine pu_i (va_runV (As := [.int k]) (rest := []) ⟨hx, hb, hml, hown, hts⟩ (c_Ly_has l G t0 t1 t2 t3 6 200 tC tU tS tL tD k) (cwV 1 hts (gi_V ml_Pm_67 im_Ly_has se_Ly_has ini_Ly co_Ly_has) rfl rfl rfl (by decide +kernel) ⟨Nat.le_of_ble_eq_true rfl, Nat.le_of_ble_eq_true rfl⟩) ⟨cp_blind, va_recv hK hPc (ci := 0) (q0 := 0) rfl rfl, cp_pre hcx hS hPc⟩ rfl rfl hl.1 rfl (lv_room (Nat.le_of_ble_eq_true rfl)) d_Pm_size_162 ⟨Nat.le_of_ble_eq_true rfl, Nat.le_of_ble_eq_true rfl⟩) hS hP (fun H locs hP hS => ?_)
            refine lv_if_eq (tgt := 177) hx hb d_Pm_size_165 (by decide) (fun c_14 => ?_) (fun c_14 => ?_)
            · replace hw := hw.1 c_14
              refine lv_iconst (v := (-1)) hx hb d_Pm_size_177 (by decide) ?_
              exact W.iret (v := (-1)) hx hb hr (fun t ht hW => ⟨⟨(-1), (), rfl, hw, trivial⟩, hS.F ht⟩) hS.2.2 d_Pm_size_178
            · replace hw := hw.2 c_14
              refine lv_aload_n hx hb d_Pm_size_168 rfl (lv_at hl 0 rfl) ?_
              refine va_get (D := G.1) (ci := 1) (v := .ref att) (C := R_Pm) (T := T_Pm) (N := 12) hx hb hts in_Pm hown hK hP 0 rfl rfl 5 (by decide) (hts _ fl_Pm_32) (fun _ h9 => h9) rfl d_Pm_size_169 ?_
              refine lv_iload_n hx hb d_Pm_size_172 rfl (lv_at hl 2 rfl) ?_
              obtain ⟨h_15, hw⟩ := hw
              refine va_iald hx hb hK hP 19 0 rfl rfl h_15 d_Pm_size_173 ?_
              refine lv_goto (tgt := 178) hx hb d_Pm_size_174 (by decide) ?_
              exact W.iret (v := ftt k.toNatClampNeg) hx hb hr (fun t ht hW => ⟨⟨ftt k.toNatClampNeg, (), rfl, hw, trivial⟩, hS.F ht⟩) hS.2.2 d_Pm_size_178
          · replace hw := hw.2 c_13
            by_cases c_16 : wh = 5
            · replace hw := hw.1 c_16
              refine lv_tableIn (tgt := 179) hx hb d_Pm_size_1 (by rw [c_16]; decide) (by rw [c_16]; decide) (by rw [c_16]; rfl) (by decide) ?_
              refine lv_aload_n hx hb d_Pm_size_179 rfl (lv_at hl 0 rfl) ?_
              refine va_get (D := G.1) (ci := 1) (v := .ref b0) (C := R_Pm) (T := T_Pm) (N := 12) hx hb hts in_Pm hown hK hP 0 rfl rfl 7 (by decide) (hts _ fl_Pm_38) (fun _ h9 => h9) rfl d_Pm_size_180 ?_
              refine lv_iload_n hx hb d_Pm_size_183 rfl (lv_at hl 2 rfl) ?_
              have hPc := hP.sub (ws' := [(b0, .inr (0, [.int 600, .ref b1, .ref b2, .ref b3, .int bC, .int bU])), (b1, .inl (G.2.1 0, 24, .inl bS)), (b2, .inl (G.2.1 0, 24, .inl bL)), (b3, .inl (G.2.1 2, 24, .inl bD))]) [9, 10, 11, 12] rfl
              refine pu_i (va_runV (As := [.int k]) (rest := []) ⟨hx, hb, hml, hown, hts⟩ (c_Ly_has l G b0 b1 b2 b3 24 600 bC bU bS bL bD k) (cwV 1 hts (gi_V ml_Pm_67 im_Ly_has se_Ly_has ini_Ly co_Ly_has) rfl rfl rfl (by decide +kernel) ⟨Nat.le_of_ble_eq_true rfl, Nat.le_of_ble_eq_true rfl⟩) ⟨cp_blind, va_recv hK hPc (ci := 0) (q0 := 0) rfl rfl, cp_pre hcx hS hPc⟩ rfl rfl hl.1 rfl (lv_room (Nat.le_of_ble_eq_true rfl)) d_Pm_size_184 ⟨Nat.le_of_ble_eq_true rfl, Nat.le_of_ble_eq_true rfl⟩) hS hP (fun H locs hP hS => ?_)
              refine lv_if_eq (tgt := 201) hx hb d_Pm_size_187 (by decide) (fun c_17 => ?_) (fun c_17 => ?_)
              · replace hw := hw.1 c_17
                refine lv_iconst (v := (-1)) hx hb d_Pm_size_201 (by decide) ?_
                exact W.iret (v := (-1)) hx hb hr (fun t ht hW => ⟨⟨(-1), (), rfl, hw, trivial⟩, hS.F ht⟩) hS.2.2 d_Pm_size_202
              · replace hw := hw.2 c_17
                refine lv_aload_n hx hb d_Pm_size_190 rfl (lv_at hl 0 rfl) ?_
                refine va_get (D := G.1) (ci := 1) (v := .ref b0) (C := R_Pm) (T := T_Pm) (N := 12) hx hb hts in_Pm hown hK hP 0 rfl rfl 7 (by decide) (hts _ fl_Pm_38) (fun _ h9 => h9) rfl d_Pm_size_191 ?_
                refine lv_iload_n hx hb d_Pm_size_194 rfl (lv_at hl 2 rfl) ?_
                obtain ⟨h_18, hw⟩ := hw
                have hPc := hP.sub (ws' := [(b0, .inr (0, [.int 600, .ref b1, .ref b2, .ref b3, .int bC, .int bU])), (b1, .inl (G.2.1 0, 24, .inl bS)), (b2, .inl (G.2.1 0, 24, .inl bL)), (b3, .inl (G.2.1 2, 24, .inl bD))]) [9, 10, 11, 12] rfl
                refine pu_i (va_runV (As := [.int k]) (rest := []) ⟨hx, hb, hml, hown, hts⟩ (c_Ly_lengthOf l G b0 b1 b2 b3 24 600 bC bU bS bL bD k h_18) (cwV 1 hts (gi_V ml_Pm_163 im_Ly_lengthOf se_Ly_lengthOf ini_Ly co_Ly_lengthOf) rfl rfl rfl (by decide +kernel) ⟨Nat.le_of_ble_eq_true rfl, Nat.le_of_ble_eq_true rfl⟩) ⟨cp_blind, va_recv hK hPc (ci := 0) (q0 := 0) rfl rfl, cp_pre hcx hS hPc⟩ rfl rfl hl.1 rfl (lv_room (Nat.le_of_ble_eq_true rfl)) d_Pm_size_195 ⟨Nat.le_of_ble_eq_true rfl, Nat.le_of_ble_eq_true rfl⟩) hS hP (fun H locs hP hS => ?_)
                refine lv_goto (tgt := 202) hx hb d_Pm_size_198 (by decide) ?_
                exact W.iret (v := ly_ln bC k bL) hx hb hr (fun t ht hW => ⟨⟨ly_ln bC k bL, (), rfl, hw, trivial⟩, hS.F ht⟩) hS.2.2 d_Pm_size_202
            · replace hw := hw.2 c_16
              by_cases c_19 : wh = 6
              · replace hw := hw.1 c_19
                refine lv_tableIn (tgt := 203) hx hb d_Pm_size_1 (by rw [c_19]; decide) (by rw [c_19]; decide) (by rw [c_19]; rfl) (by decide) ?_
                refine lv_aload_n hx hb d_Pm_size_203 rfl (lv_at hl 0 rfl) ?_
                refine va_get (D := G.1) (ci := 1) (v := .ref r0) (C := R_Pm) (T := T_Pm) (N := 12) hx hb hts in_Pm hown hK hP 0 rfl rfl 9 (by decide) (hts _ fl_Pm_44) (fun _ h9 => h9) rfl d_Pm_size_204 ?_
                refine lv_iload_n hx hb d_Pm_size_207 rfl (lv_at hl 2 rfl) ?_
                have hPc := hP.sub (ws' := [(r0, .inr (0, [.int 200, .ref r1, .ref r2, .ref r3, .int rC, .int rU])), (r1, .inl (G.2.1 0, 24, .inl rS)), (r2, .inl (G.2.1 0, 24, .inl rL)), (r3, .inl (G.2.1 2, 24, .inl rD))]) [13, 14, 15, 16] rfl
                refine pu_i (va_runV (As := [.int k]) (rest := []) ⟨hx, hb, hml, hown, hts⟩ (c_Ly_has l G r0 r1 r2 r3 24 200 rC rU rS rL rD k) (cwV 1 hts (gi_V ml_Pm_67 im_Ly_has se_Ly_has ini_Ly co_Ly_has) rfl rfl rfl (by decide +kernel) ⟨Nat.le_of_ble_eq_true rfl, Nat.le_of_ble_eq_true rfl⟩) ⟨cp_blind, va_recv hK hPc (ci := 0) (q0 := 0) rfl rfl, cp_pre hcx hS hPc⟩ rfl rfl hl.1 rfl (lv_room (Nat.le_of_ble_eq_true rfl)) d_Pm_size_208 ⟨Nat.le_of_ble_eq_true rfl, Nat.le_of_ble_eq_true rfl⟩) hS hP (fun H locs hP hS => ?_)
                refine lv_if_eq (tgt := 225) hx hb d_Pm_size_211 (by decide) (fun c_20 => ?_) (fun c_20 => ?_)
                · replace hw := hw.1 c_20
                  refine lv_iconst (v := (-1)) hx hb d_Pm_size_225 (by decide) ?_
                  exact W.iret (v := (-1)) hx hb hr (fun t ht hW => ⟨⟨(-1), (), rfl, hw, trivial⟩, hS.F ht⟩) hS.2.2 d_Pm_size_226
                · replace hw := hw.2 c_20
                  refine lv_aload_n hx hb d_Pm_size_214 rfl (lv_at hl 0 rfl) ?_
                  refine va_get (D := G.1) (ci := 1) (v := .ref r0) (C := R_Pm) (T := T_Pm) (N := 12) hx hb hts in_Pm hown hK hP 0 rfl rfl 9 (by decide) (hts _ fl_Pm_44) (fun _ h9 => h9) rfl d_Pm_size_215 ?_
                  refine lv_iload_n hx hb d_Pm_size_218 rfl (lv_at hl 2 rfl) ?_
                  obtain ⟨h_21, hw⟩ := hw
                  have hPc := hP.sub (ws' := [(r0, .inr (0, [.int 200, .ref r1, .ref r2, .ref r3, .int rC, .int rU])), (r1, .inl (G.2.1 0, 24, .inl rS)), (r2, .inl (G.2.1 0, 24, .inl rL)), (r3, .inl (G.2.1 2, 24, .inl rD))]) [13, 14, 15, 16] rfl
                  refine pu_i (va_runV (As := [.int k]) (rest := []) ⟨hx, hb, hml, hown, hts⟩ (c_Ly_lengthOf l G r0 r1 r2 r3 24 200 rC rU rS rL rD k h_21) (cwV 1 hts (gi_V ml_Pm_163 im_Ly_lengthOf se_Ly_lengthOf ini_Ly co_Ly_lengthOf) rfl rfl rfl (by decide +kernel) ⟨Nat.le_of_ble_eq_true rfl, Nat.le_of_ble_eq_true rfl⟩) ⟨cp_blind, va_recv hK hPc (ci := 0) (q0 := 0) rfl rfl, cp_pre hcx hS hPc⟩ rfl rfl hl.1 rfl (lv_room (Nat.le_of_ble_eq_true rfl)) d_Pm_size_219 ⟨Nat.le_of_ble_eq_true rfl, Nat.le_of_ble_eq_true rfl⟩) hS hP (fun H locs hP hS => ?_)
                  refine lv_goto (tgt := 226) hx hb d_Pm_size_222 (by decide) ?_
                  exact W.iret (v := ly_ln rC k rL) hx hb hr (fun t ht hW => ⟨⟨ly_ln rC k rL, (), rfl, hw, trivial⟩, hS.F ht⟩) hS.2.2 d_Pm_size_226
              · replace hw := hw.2 c_19
                by_cases c_22 : wh = 7
                · replace hw := hw.1 c_22
                  refine lv_tableIn (tgt := 227) hx hb d_Pm_size_1 (by rw [c_22]; decide) (by rw [c_22]; decide) (by rw [c_22]; rfl) (by decide) ?_
                  refine lv_aload_n hx hb d_Pm_size_227 rfl (lv_at hl 0 rfl) ?_
                  have hPc := hP.sub (ws' := [(h, .inr (1, [.ref m0, .ref aml, .ref amb, .ref t0, .ref atl, .ref att, .ref ate, .ref b0, .ref asb, .ref r0, .ref asr, .int trp])), (m0, .inr (0, [.int 12288, .ref m1, .ref m2, .ref m3, .int mC, .int mU])), (m1, .inl (G.2.1 0, 6, .inl mS)), (m2, .inl (G.2.1 0, 6, .inl mL)), (m3, .inl (G.2.1 2, 6, .inl mD))]) [0, 1, 2, 3, 4] rfl
                  refine pu_i (va_runV (As := []) (rest := []) ⟨hx, hb, hml, hown, hts⟩ (c_Pm_pagesLeft l G h m0 aml amb t0 atl att ate b0 asb r0 asr m1 m2 m3 trp mC mU mS mL mD) (cwV 0 hts (gi_V ml_Pm_59 im_Pm_pagesLeft se_Pm_pagesLeft ini_Pm co_Pm_pagesLeft) rfl rfl rfl (by decide +kernel) ⟨Nat.le_of_ble_eq_true rfl, Nat.le_of_ble_eq_true rfl⟩) ⟨cp_blind, va_recv hK hPc (ci := 1) (q0 := 0) rfl rfl, cp_pre hcx hS hPc⟩ rfl rfl hl.1 rfl (lv_room (Nat.le_of_ble_eq_true rfl)) d_Pm_size_228 ⟨Nat.le_of_ble_eq_true rfl, Nat.le_of_ble_eq_true rfl⟩) hS hP (fun H locs hP hS => ?_)
                  exact W.iret (v := (12288 - mU) / 256) hx hb hr (fun t ht hW => ⟨⟨(12288 - mU) / 256, (), rfl, hw, trivial⟩, hS.F ht⟩) hS.2.2 d_Pm_size_231
                · replace hw := hw.2 c_22
                  by_cases c_23 : wh = 8
                  · replace hw := hw.1 c_23
                    refine lv_tableIn (tgt := 232) hx hb d_Pm_size_1 (by rw [c_23]; decide) (by rw [c_23]; decide) (by rw [c_23]; rfl) (by decide) ?_
                    refine lv_aload_n hx hb d_Pm_size_232 rfl (lv_at hl 0 rfl) ?_
                    refine va_get (D := G.1) (ci := 1) (v := .ref t0) (C := R_Pm) (T := T_Pm) (N := 12) hx hb hts in_Pm hown hK hP 0 rfl rfl 3 (by decide) (hts _ fl_Pm_26) (fun _ h9 => h9) rfl d_Pm_size_233 ?_
                    have hPc := hP.sub (ws' := [(t0, .inr (0, [.int 200, .ref t1, .ref t2, .ref t3, .int tC, .int tU])), (t1, .inl (G.2.1 0, 6, .inl tS)), (t2, .inl (G.2.1 0, 6, .inl tL)), (t3, .inl (G.2.1 2, 6, .inl tD))]) [5, 6, 7, 8] rfl
                    refine pu_i (va_runV (As := []) (rest := []) ⟨hx, hb, hml, hown, hts⟩ (c_Ly_left l G t0 t1 t2 t3 6 200 tC tU tS tL tD) (cwV 0 hts (gi_V ml_Pm_150 im_Ly_left se_Ly_left ini_Ly co_Ly_left) rfl rfl rfl (by decide +kernel) ⟨Nat.le_of_ble_eq_true rfl, Nat.le_of_ble_eq_true rfl⟩) ⟨cp_blind, va_recv hK hPc (ci := 0) (q0 := 0) rfl rfl, cp_pre hcx hS hPc⟩ rfl rfl hl.1 rfl (lv_room (Nat.le_of_ble_eq_true rfl)) d_Pm_size_236 ⟨Nat.le_of_ble_eq_true rfl, Nat.le_of_ble_eq_true rfl⟩) hS hP (fun H locs hP hS => ?_)
                    exact W.iret (v := 200 - tU) hx hb hr (fun t ht hW => ⟨⟨200 - tU, (), rfl, hw, trivial⟩, hS.F ht⟩) hS.2.2 d_Pm_size_239
                  · replace hw := hw.2 c_23
                    by_cases c_24 : wh = 9
                    · replace hw := hw.1 c_24
                      refine lv_tableIn (tgt := 240) hx hb d_Pm_size_1 (by rw [c_24]; decide) (by rw [c_24]; decide) (by rw [c_24]; rfl) (by decide) ?_
                      refine lv_aload_n hx hb d_Pm_size_240 rfl (lv_at hl 0 rfl) ?_
                      refine va_get (D := G.1) (ci := 1) (v := .ref m0) (C := R_Pm) (T := T_Pm) (N := 12) hx hb hts in_Pm hown hK hP 0 rfl rfl 0 (by decide) (hts _ fl_Pm_14) (fun _ h9 => h9) rfl d_Pm_size_241 ?_
                      have hPc := hP.sub (ws' := [(m0, .inr (0, [.int 12288, .ref m1, .ref m2, .ref m3, .int mC, .int mU])), (m1, .inl (G.2.1 0, 6, .inl mS)), (m2, .inl (G.2.1 0, 6, .inl mL)), (m3, .inl (G.2.1 2, 6, .inl mD))]) [1, 2, 3, 4] rfl
                      refine pu_i (va_runV (As := []) (rest := []) ⟨hx, hb, hml, hown, hts⟩ (c_Ly_count l G m0 m1 m2 m3 6 12288 mC mU mS mL mD) (cwV 0 hts (gi_V ml_Pm_170 im_Ly_count se_Ly_count ini_Ly co_Ly_count) rfl rfl rfl (by decide +kernel) ⟨Nat.le_of_ble_eq_true rfl, Nat.le_of_ble_eq_true rfl⟩) ⟨cp_blind, va_recv hK hPc (ci := 0) (q0 := 0) rfl rfl, cp_pre hcx hS hPc⟩ rfl rfl hl.1 rfl (lv_room (Nat.le_of_ble_eq_true rfl)) d_Pm_size_244 ⟨Nat.le_of_ble_eq_true rfl, Nat.le_of_ble_eq_true rfl⟩) hS hP (fun H locs hP hS => ?_)
                      exact W.iret (v := mC) hx hb hr (fun t ht hW => ⟨⟨mC, (), rfl, hw, trivial⟩, hS.F ht⟩) hS.2.2 d_Pm_size_247
                    · replace hw := hw.2 c_24
                      by_cases c_25 : wh = 10
                      · replace hw := hw.1 c_25
                        refine lv_tableIn (tgt := 248) hx hb d_Pm_size_1 (by rw [c_25]; decide) (by rw [c_25]; decide) (by rw [c_25]; rfl) (by decide) ?_
                        refine lv_aload_n hx hb d_Pm_size_248 rfl (lv_at hl 0 rfl) ?_
                        refine va_get (D := G.1) (ci := 1) (v := .ref t0) (C := R_Pm) (T := T_Pm) (N := 12) hx hb hts in_Pm hown hK hP 0 rfl rfl 3 (by decide) (hts _ fl_Pm_26) (fun _ h9 => h9) rfl d_Pm_size_249 ?_
                        have hPc := hP.sub (ws' := [(t0, .inr (0, [.int 200, .ref t1, .ref t2, .ref t3, .int tC, .int tU])), (t1, .inl (G.2.1 0, 6, .inl tS)), (t2, .inl (G.2.1 0, 6, .inl tL)), (t3, .inl (G.2.1 2, 6, .inl tD))]) [5, 6, 7, 8] rfl
                        refine pu_i (va_runV (As := []) (rest := []) ⟨hx, hb, hml, hown, hts⟩ (c_Ly_count l G t0 t1 t2 t3 6 200 tC tU tS tL tD) (cwV 0 hts (gi_V ml_Pm_170 im_Ly_count se_Ly_count ini_Ly co_Ly_count) rfl rfl rfl (by decide +kernel) ⟨Nat.le_of_ble_eq_true rfl, Nat.le_of_ble_eq_true rfl⟩) ⟨cp_blind, va_recv hK hPc (ci := 0) (q0 := 0) rfl rfl, cp_pre hcx hS hPc⟩ rfl rfl hl.1 rfl (lv_room (Nat.le_of_ble_eq_true rfl)) d_Pm_size_252 ⟨Nat.le_of_ble_eq_true rfl, Nat.le_of_ble_eq_true rfl⟩) hS hP (fun H locs hP hS => ?_)
                        exact W.iret (v := tC) hx hb hr (fun t ht hW => ⟨⟨tC, (), rfl, hw, trivial⟩, hS.F ht⟩) hS.2.2 d_Pm_size_255
                      · replace hw := hw.2 c_25
                        by_cases c_26 : wh = 11
                        · replace hw := hw.1 c_26
                          refine lv_tableIn (tgt := 256) hx hb d_Pm_size_1 (by rw [c_26]; decide) (by rw [c_26]; decide) (by rw [c_26]; rfl) (by decide) ?_
                          refine lv_aload_n hx hb d_Pm_size_256 rfl (lv_at hl 0 rfl) ?_
                          refine va_get (D := G.1) (ci := 1) (v := .ref b0) (C := R_Pm) (T := T_Pm) (N := 12) hx hb hts in_Pm hown hK hP 0 rfl rfl 7 (by decide) (hts _ fl_Pm_38) (fun _ h9 => h9) rfl d_Pm_size_257 ?_
                          have hPc := hP.sub (ws' := [(b0, .inr (0, [.int 600, .ref b1, .ref b2, .ref b3, .int bC, .int bU])), (b1, .inl (G.2.1 0, 24, .inl bS)), (b2, .inl (G.2.1 0, 24, .inl bL)), (b3, .inl (G.2.1 2, 24, .inl bD))]) [9, 10, 11, 12] rfl
                          refine pu_i (va_runV (As := []) (rest := []) ⟨hx, hb, hml, hown, hts⟩ (c_Ly_count l G b0 b1 b2 b3 24 600 bC bU bS bL bD) (cwV 0 hts (gi_V ml_Pm_170 im_Ly_count se_Ly_count ini_Ly co_Ly_count) rfl rfl rfl (by decide +kernel) ⟨Nat.le_of_ble_eq_true rfl, Nat.le_of_ble_eq_true rfl⟩) ⟨cp_blind, va_recv hK hPc (ci := 0) (q0 := 0) rfl rfl, cp_pre hcx hS hPc⟩ rfl rfl hl.1 rfl (lv_room (Nat.le_of_ble_eq_true rfl)) d_Pm_size_260 ⟨Nat.le_of_ble_eq_true rfl, Nat.le_of_ble_eq_true rfl⟩) hS hP (fun H locs hP hS => ?_)
                          exact W.iret (v := bC) hx hb hr (fun t ht hW => ⟨⟨bC, (), rfl, hw, trivial⟩, hS.F ht⟩) hS.2.2 d_Pm_size_263
                        · replace hw := hw.2 c_26
                          by_cases c_27 : wh = 12
                          · replace hw := hw.1 c_27
                            refine lv_tableIn (tgt := 264) hx hb d_Pm_size_1 (by rw [c_27]; decide) (by rw [c_27]; decide) (by rw [c_27]; rfl) (by decide) ?_
                            refine lv_aload_n hx hb d_Pm_size_264 rfl (lv_at hl 0 rfl) ?_
                            refine va_get (D := G.1) (ci := 1) (v := .ref r0) (C := R_Pm) (T := T_Pm) (N := 12) hx hb hts in_Pm hown hK hP 0 rfl rfl 9 (by decide) (hts _ fl_Pm_44) (fun _ h9 => h9) rfl d_Pm_size_265 ?_
                            have hPc := hP.sub (ws' := [(r0, .inr (0, [.int 200, .ref r1, .ref r2, .ref r3, .int rC, .int rU])), (r1, .inl (G.2.1 0, 24, .inl rS)), (r2, .inl (G.2.1 0, 24, .inl rL)), (r3, .inl (G.2.1 2, 24, .inl rD))]) [13, 14, 15, 16] rfl
                            refine pu_i (va_runV (As := []) (rest := []) ⟨hx, hb, hml, hown, hts⟩ (c_Ly_count l G r0 r1 r2 r3 24 200 rC rU rS rL rD) (cwV 0 hts (gi_V ml_Pm_170 im_Ly_count se_Ly_count ini_Ly co_Ly_count) rfl rfl rfl (by decide +kernel) ⟨Nat.le_of_ble_eq_true rfl, Nat.le_of_ble_eq_true rfl⟩) ⟨cp_blind, va_recv hK hPc (ci := 0) (q0 := 0) rfl rfl, cp_pre hcx hS hPc⟩ rfl rfl hl.1 rfl (lv_room (Nat.le_of_ble_eq_true rfl)) d_Pm_size_268 ⟨Nat.le_of_ble_eq_true rfl, Nat.le_of_ble_eq_true rfl⟩) hS hP (fun H locs hP hS => ?_)
                            exact W.iret (v := rC) hx hb hr (fun t ht hW => ⟨⟨rC, (), rfl, hw, trivial⟩, hS.F ht⟩) hS.2.2 d_Pm_size_271
                          · replace hw := hw.2 c_27
                            have nc_1 := lv_neT (a := 0) c_1 (by decide)
                            have nc_4 := lv_neT (a := 1) c_4 (by decide)
                            have nc_7 := lv_neT (a := 2) c_7 (by decide)
                            have nc_10 := lv_neT (a := 3) c_10 (by decide)
                            have nc_13 := lv_neT (a := 4) c_13 (by decide)
                            have nc_16 := lv_neT (a := 5) c_16 (by decide)
                            have nc_19 := lv_neT (a := 6) c_19 (by decide)
                            have nc_22 := lv_neT (a := 7) c_22 (by decide)
                            have nc_23 := lv_neT (a := 8) c_23 (by decide)
                            have nc_24 := lv_neT (a := 9) c_24 (by decide)
                            have nc_25 := lv_neT (a := 10) c_25 (by decide)
                            have nc_26 := lv_neT (a := 11) c_26 (by decide)
                            have nc_27 := lv_neT (a := 12) c_27 (by decide)
                            refine lv_tableOut (tgt := 272) hx hb d_Pm_size_1 (by omega) (by decide) ?_
                            refine lv_iconst (v := (-1)) hx hb d_Pm_size_272 (by decide) ?_
                            exact W.iret (v := (-1)) hx hb hr (fun t ht hW => ⟨⟨(-1), (), rfl, hw, trivial⟩, hS.F ht⟩) hS.2.2 d_Pm_size_273
end
