section
-- ===== PART A: goes FIRST, ahead of the names: the tables' words, and 'selects' of the private methods out of them =====
/-- a private method of a class that the tables say can be made, by its rows of tables_1 -/
def lw_okq (q : MethodName × Nat) : Prop := (q.1.cls ≠ "java/lang/invoke/MethodHandle" ∧ q.1.cls ≠ "java/lang/invoke/VarHandle") ∧ Cond.instantiable q.1.cls q.2 ∈ tables_1 ∧ Cond.privateMethod q.1 ∈ tables_1 ∧ Cond.instanceMethod q.1 ∈ tables_1
theorem lw_p0 : lw_okq (⟨"MarkedPages", "pageNumbered", "(I)LMarkedPages$Page;"⟩, 2) := ⟨⟨by decide +kernel, by decide +kernel⟩, List.mem_of_getElem? (i := 16) (by decide +kernel), List.mem_of_getElem? (i := 102) (by decide +kernel), List.mem_of_getElem? (i := 103) (by decide +kernel)⟩
theorem lw_p1 : lw_okq (⟨"java/lang/Throwable", "fillInStackTrace", "(I)Ljava/lang/Throwable;"⟩, 6) := ⟨⟨by decide +kernel, by decide +kernel⟩, List.mem_of_getElem? (i := 147) (by decide +kernel), List.mem_of_getElem? (i := 145) (by decide +kernel), List.mem_of_getElem? (i := 146) (by decide +kernel)⟩
theorem lw_p2 : lw_okq (⟨"MarkedPages", "refuseWhenAllAreMade", "()V"⟩, 2) := ⟨⟨by decide +kernel, by decide +kernel⟩, List.mem_of_getElem? (i := 16) (by decide +kernel), List.mem_of_getElem? (i := 190) (by decide +kernel), List.mem_of_getElem? (i := 191) (by decide +kernel)⟩
theorem lw_p3 : lw_okq (⟨"MarkedPages", "make", "(LMarkedPages$Page;LMarkedPages$Operation;)I"⟩, 2) := ⟨⟨by decide +kernel, by decide +kernel⟩, List.mem_of_getElem? (i := 16) (by decide +kernel), List.mem_of_getElem? (i := 253) (by decide +kernel), List.mem_of_getElem? (i := 254) (by decide +kernel)⟩
theorem lw_p4 : lw_okq (⟨"MarkedPages$Page", "setInRow", "(ILMarkedPages$Writing;)V"⟩, 12) := ⟨⟨by decide +kernel, by decide +kernel⟩, List.mem_of_getElem? (i := 25) (by decide +kernel), List.mem_of_getElem? (i := 284) (by decide +kernel), List.mem_of_getElem? (i := 285) (by decide +kernel)⟩
theorem lw_p5 : lw_okq (⟨"MarkedPages$Page", "gatherText", "()V"⟩, 12) := ⟨⟨by decide +kernel, by decide +kernel⟩, List.mem_of_getElem? (i := 25) (by decide +kernel), List.mem_of_getElem? (i := 288) (by decide +kernel), List.mem_of_getElem? (i := 289) (by decide +kernel)⟩
theorem lw_p6 : lw_okq (⟨"MarkedPagesModel", "look", "(I)V"⟩, 17) := ⟨⟨by decide +kernel, by decide +kernel⟩, List.mem_of_getElem? (i := 440) (by decide +kernel), List.mem_of_getElem? (i := 510) (by decide +kernel), List.mem_of_getElem? (i := 511) (by decide +kernel)⟩
theorem lw_p7 : lw_okq (⟨"MarkedPagesModel", "nextBehind", "(II)I"⟩, 17) := ⟨⟨by decide +kernel, by decide +kernel⟩, List.mem_of_getElem? (i := 440) (by decide +kernel), List.mem_of_getElem? (i := 514) (by decide +kernel), List.mem_of_getElem? (i := 515) (by decide +kernel)⟩
theorem lw_p8 : lw_okq (⟨"MarkedPagesModel", "isGone", "(II)Z"⟩, 17) := ⟨⟨by decide +kernel, by decide +kernel⟩, List.mem_of_getElem? (i := 440) (by decide +kernel), List.mem_of_getElem? (i := 518) (by decide +kernel), List.mem_of_getElem? (i := 519) (by decide +kernel)⟩
theorem lw_p9 : lw_okq (⟨"MarkedPagesModel", "make", "(IIIII)I"⟩, 17) := ⟨⟨by decide +kernel, by decide +kernel⟩, List.mem_of_getElem? (i := 440) (by decide +kernel), List.mem_of_getElem? (i := 522) (by decide +kernel), List.mem_of_getElem? (i := 523) (by decide +kernel)⟩
theorem lw_p10 : lw_okq (⟨"MarkedPagesModel", "greatest", "(I)I"⟩, 17) := ⟨⟨by decide +kernel, by decide +kernel⟩, List.mem_of_getElem? (i := 440) (by decide +kernel), List.mem_of_getElem? (i := 526) (by decide +kernel), List.mem_of_getElem? (i := 527) (by decide +kernel)⟩
theorem lw_p11 : lw_okq (⟨"MarkedPagesModel", "learn", "(II)V"⟩, 17) := ⟨⟨by decide +kernel, by decide +kernel⟩, List.mem_of_getElem? (i := 440) (by decide +kernel), List.mem_of_getElem? (i := 530) (by decide +kernel), List.mem_of_getElem? (i := 531) (by decide +kernel)⟩
theorem lw_p12 : lw_okq (⟨"MarkedPagesModel", "finds", "(II)Z"⟩, 17) := ⟨⟨by decide +kernel, by decide +kernel⟩, List.mem_of_getElem? (i := 440) (by decide +kernel), List.mem_of_getElem? (i := 554) (by decide +kernel), List.mem_of_getElem? (i := 555) (by decide +kernel)⟩
theorem lw_p13 : lw_okq (⟨"MarkedPagesModel", "formatOf", "(II)I"⟩, 17) := ⟨⟨by decide +kernel, by decide +kernel⟩, List.mem_of_getElem? (i := 440) (by decide +kernel), List.mem_of_getElem? (i := 562) (by decide +kernel), List.mem_of_getElem? (i := 563) (by decide +kernel)⟩
theorem lw_p14 : lw_okq (⟨"MarkedPagesModel", "covers", "(II)Z"⟩, 17) := ⟨⟨by decide +kernel, by decide +kernel⟩, List.mem_of_getElem? (i := 440) (by decide +kernel), List.mem_of_getElem? (i := 566) (by decide +kernel), List.mem_of_getElem? (i := 567) (by decide +kernel)⟩
theorem lw_p15 : lw_okq (⟨"MarkedPagesModel", "begins", "(II)Z"⟩, 17) := ⟨⟨by decide +kernel, by decide +kernel⟩, List.mem_of_getElem? (i := 440) (by decide +kernel), List.mem_of_getElem? (i := 578) (by decide +kernel), List.mem_of_getElem? (i := 579) (by decide +kernel)⟩
def lw_privs_1 : List (MethodName × Nat) := [(⟨"MarkedPages", "pageNumbered", "(I)LMarkedPages$Page;"⟩, 2), (⟨"java/lang/Throwable", "fillInStackTrace", "(I)Ljava/lang/Throwable;"⟩, 6), (⟨"MarkedPages", "refuseWhenAllAreMade", "()V"⟩, 2), (⟨"MarkedPages", "make", "(LMarkedPages$Page;LMarkedPages$Operation;)I"⟩, 2), (⟨"MarkedPages$Page", "setInRow", "(ILMarkedPages$Writing;)V"⟩, 12), (⟨"MarkedPages$Page", "gatherText", "()V"⟩, 12), (⟨"MarkedPagesModel", "look", "(I)V"⟩, 17), (⟨"MarkedPagesModel", "nextBehind", "(II)I"⟩, 17), (⟨"MarkedPagesModel", "isGone", "(II)Z"⟩, 17), (⟨"MarkedPagesModel", "make", "(IIIII)I"⟩, 17), (⟨"MarkedPagesModel", "greatest", "(I)I"⟩, 17), (⟨"MarkedPagesModel", "learn", "(II)V"⟩, 17), (⟨"MarkedPagesModel", "finds", "(II)Z"⟩, 17), (⟨"MarkedPagesModel", "formatOf", "(II)I"⟩, 17), (⟨"MarkedPagesModel", "covers", "(II)Z"⟩, 17), (⟨"MarkedPagesModel", "begins", "(II)Z"⟩, 17)]
theorem lw_r1 : ∀ q ∈ lw_privs_1, lw_okq q := List.forall_mem_cons.mpr ⟨lw_p0, List.forall_mem_cons.mpr ⟨lw_p1, List.forall_mem_cons.mpr ⟨lw_p2, List.forall_mem_cons.mpr ⟨lw_p3, List.forall_mem_cons.mpr ⟨lw_p4, List.forall_mem_cons.mpr ⟨lw_p5, List.forall_mem_cons.mpr ⟨lw_p6, List.forall_mem_cons.mpr ⟨lw_p7, List.forall_mem_cons.mpr ⟨lw_p8, List.forall_mem_cons.mpr ⟨lw_p9, List.forall_mem_cons.mpr ⟨lw_p10, List.forall_mem_cons.mpr ⟨lw_p11, List.forall_mem_cons.mpr ⟨lw_p12, List.forall_mem_cons.mpr ⟨lw_p13, List.forall_mem_cons.mpr ⟨lw_p14, List.forall_mem_cons.mpr ⟨lw_p15, fun _ h => absurd h List.not_mem_nil⟩⟩⟩⟩⟩⟩⟩⟩⟩⟩⟩⟩⟩⟩⟩⟩
def lw_privs : List (MethodName × Nat) := lw_privs_1
def lw_tbl : List Cond := k2_sels lw_privs ++ tables_1
theorem lw_privs_ok : ∀ q ∈ lw_privs, lw_okq q := lw_r1
end
section
/-! Names by program: classes and their fields, methods. -/
def nR_M : String := "MarkedPages"
def nT_M : u_T := fun k => match k with
  | 0 => ("MarkedPages", "pages", "[LMarkedPages$Page;", true)
  | _ => ("MarkedPages", "made", "I", false)
def nF_M : Nat → FieldType := fun k => match k with
  | 0 => .array (.object "MarkedPages$Page")
  | _ => .int
theorem nN_M : ∀ a, a < 2 → ∀ b, b < 2 → a ≠ b → (nT_M a).2.1 ≠ (nT_M b).2.1 := by decide +kernel
theorem nK_M : ∀ k, k < 2 → parseFieldDescriptor (nT_M k).2.2.1 = some (nF_M k) := by decide +kernel
def nR_P : String := "MarkedPages$Page"
def nT_P : u_T := fun k => match k with
  | 0 => ("MarkedPages$Page", "known", "[LMarkedPages$Operation;", true)
  | 1 => ("MarkedPages$Page", "knownSize", "I", false)
  | 2 => ("MarkedPages$Page", "greatestTime", "I", false)
  | 3 => ("MarkedPages$Page", "row", "[LMarkedPages$Writing;", true)
  | 4 => ("MarkedPages$Page", "rowSize", "I", false)
  | 5 => ("MarkedPages$Page", "text", "[LMarkedPages$Writing;", true)
  | 6 => ("MarkedPages$Page", "textSize", "I", false)
  | 7 => ("MarkedPages$Page", "markings", "[LMarkedPages$Marking;", true)
  | 8 => ("MarkedPages$Page", "markingsSize", "I", false)
  | 9 => ("MarkedPages$Page", "knows", "[Z", true)
  | 10 => ("MarkedPages$Page", "gone", "[Z", true)
  | _ => ("MarkedPages$Page", "places", "[I", true)
def nF_P : Nat → FieldType := fun k => match k with
  | 0 => .array (.object "MarkedPages$Operation")
  | 1 => .int
  | 2 => .int
  | 3 => .array (.object "MarkedPages$Writing")
  | 4 => .int
  | 5 => .array (.object "MarkedPages$Writing")
  | 6 => .int
  | 7 => .array (.object "MarkedPages$Marking")
  | 8 => .int
  | 9 => .array .boolean
  | 10 => .array .boolean
  | _ => .array .int
theorem nN_P : ∀ a, a < 12 → ∀ b, b < 12 → a ≠ b → (nT_P a).2.1 ≠ (nT_P b).2.1 := by decide +kernel
theorem nK_P : ∀ k, k < 12 → parseFieldDescriptor (nT_P k).2.2.1 = some (nF_P k) := by decide +kernel
def nR_W : String := "MarkedPages$Writing"
def nT_W : u_T := fun k => match k with
  | 0 => ("MarkedPages$Operation", "number", "I", true)
  | 1 => ("MarkedPages$Operation", "time", "I", true)
  | 2 => ("MarkedPages$Operation", "rank", "I", true)
  | 3 => ("MarkedPages$Writing", "letter", "C", true)
  | _ => ("MarkedPages$Writing", "parent", "LMarkedPages$Writing;", true)
def nF_W : Nat → FieldType := fun k => match k with
  | 0 => .int
  | 1 => .int
  | 2 => .int
  | 3 => .char
  | _ => .object "MarkedPages$Writing"
theorem nN_W : ∀ a, a < 5 → ∀ b, b < 5 → a ≠ b → (nT_W a).2.1 ≠ (nT_W b).2.1 := by decide +kernel
theorem nK_W : ∀ k, k < 5 → parseFieldDescriptor (nT_W k).2.2.1 = some (nF_W k) := by decide +kernel
def nR_E : String := "MarkedPages$Erasing"
def nT_E : u_T := fun k => match k with
  | 0 => ("MarkedPages$Operation", "number", "I", true)
  | 1 => ("MarkedPages$Operation", "time", "I", true)
  | 2 => ("MarkedPages$Operation", "rank", "I", true)
  | _ => ("MarkedPages$Erasing", "erased", "LMarkedPages$Writing;", true)
def nF_E : Nat → FieldType := fun k => match k with
  | 0 => .int
  | 1 => .int
  | 2 => .int
  | _ => .object "MarkedPages$Writing"
theorem nN_E : ∀ a, a < 4 → ∀ b, b < 4 → a ≠ b → (nT_E a).2.1 ≠ (nT_E b).2.1 := by decide +kernel
theorem nK_E : ∀ k, k < 4 → parseFieldDescriptor (nT_E k).2.2.1 = some (nF_E k) := by decide +kernel
def nR_K : String := "MarkedPages$Marking"
def nT_K : u_T := fun k => match k with
  | 0 => ("MarkedPages$Operation", "number", "I", true)
  | 1 => ("MarkedPages$Operation", "time", "I", true)
  | 2 => ("MarkedPages$Operation", "rank", "I", true)
  | 3 => ("MarkedPages$Marking", "on", "Z", true)
  | 4 => ("MarkedPages$Marking", "weight", "I", true)
  | 5 => ("MarkedPages$Marking", "endLetterIsCovered", "Z", true)
  | 6 => ("MarkedPages$Marking", "first", "LMarkedPages$Writing;", true)
  | _ => ("MarkedPages$Marking", "end", "LMarkedPages$Writing;", true)
def nF_K : Nat → FieldType := fun k => match k with
  | 0 => .int
  | 1 => .int
  | 2 => .int
  | 3 => .boolean
  | 4 => .int
  | 5 => .boolean
  | 6 => .object "MarkedPages$Writing"
  | _ => .object "MarkedPages$Writing"
theorem nN_K : ∀ a, a < 8 → ∀ b, b < 8 → a ≠ b → (nT_K a).2.1 ≠ (nT_K b).2.1 := by decide +kernel
theorem nK_K : ∀ k, k < 8 → parseFieldDescriptor (nT_K k).2.2.1 = some (nF_K k) := by decide +kernel
def nR_R : String := "MarkedPagesModel"
def nT_R : u_T := fun k => match k with
  | 0 => ("MarkedPagesModel", "code", "I", false)
  | 1 => ("MarkedPagesModel", "made", "I", false)
  | 2 => ("MarkedPagesModel", "sort", "[I", true)
  | 3 => ("MarkedPagesModel", "ids", "[I", true)
  | 4 => ("MarkedPagesModel", "first", "[I", true)
  | 5 => ("MarkedPagesModel", "end", "[I", true)
  | 6 => ("MarkedPagesModel", "what", "[I", true)
  | 7 => ("MarkedPagesModel", "letters", "[C", true)
  | 8 => ("MarkedPagesModel", "known", "[I", true)
  | 9 => ("MarkedPagesModel", "knows", "[Z", true)
  | 10 => ("MarkedPagesModel", "count", "[I", true)
  | 11 => ("MarkedPagesModel", "rowLength", "I", false)
  | 12 => ("MarkedPagesModel", "row", "[I", true)
  | 13 => ("MarkedPagesModel", "place", "[I", true)
  | 14 => ("MarkedPagesModel", "textLength", "I", false)
  | 15 => ("MarkedPagesModel", "text", "[I", true)
  | _ => ("MarkedPagesModel", "passed", "[Z", true)
def nF_R : Nat → FieldType := fun k => match k with
  | 0 => .int
  | 1 => .int
  | 2 => .array .int
  | 3 => .array .int
  | 4 => .array .int
  | 5 => .array .int
  | 6 => .array .int
  | 7 => .array .char
  | 8 => .array .int
  | 9 => .array .boolean
  | 10 => .array .int
  | 11 => .int
  | 12 => .array .int
  | 13 => .array .int
  | 14 => .int
  | 15 => .array .int
  | _ => .array .boolean
theorem nN_R : ∀ a, a < 17 → ∀ b, b < 17 → a ≠ b → (nT_R a).2.1 ≠ (nT_R b).2.1 := by decide +kernel
theorem nK_R : ∀ k, k < 17 → parseFieldDescriptor (nT_R k).2.2.1 = some (nF_R k) := by decide +kernel
abbrev vwCl : List vw_C := [(nR_M, nT_M, 2), (nR_P, nT_P, 12), (nR_W, nT_W, 5), (nR_E, nT_E, 4), (nR_K, nT_K, 8), (nR_R, nT_R, 17)]
abbrev c_M_init : ByteArray := prog_1_method_1_code
def y_M_init : MethodName := ⟨"MarkedPages", "<init>", "()V"⟩
abbrev c_M_write : ByteArray := prog_1_method_2_code
def y_M_write : MethodName := ⟨"MarkedPages", "write", "(IIC)I"⟩
abbrev c_M_erase : ByteArray := prog_1_method_3_code
def y_M_erase : MethodName := ⟨"MarkedPages", "erase", "(II)C"⟩
abbrev c_M_mark : ByteArray := prog_1_method_4_code
def y_M_mark : MethodName := ⟨"MarkedPages", "mark", "(IIII)I"⟩
abbrev c_M_tell : ByteArray := prog_1_method_5_code
def y_M_tell : MethodName := ⟨"MarkedPages", "tell", "(III)I"⟩
abbrev c_M_length : ByteArray := prog_1_method_6_code
def y_M_length : MethodName := ⟨"MarkedPages", "length", "(I)I"⟩
abbrev c_M_at : ByteArray := prog_1_method_7_code
def y_M_at : MethodName := ⟨"MarkedPages", "at", "(II)C"⟩
abbrev c_M_format : ByteArray := prog_1_method_8_code
def y_M_format : MethodName := ⟨"MarkedPages", "format", "(II)I"⟩
abbrev c_M_id : ByteArray := prog_1_method_9_code
def y_M_id : MethodName := ⟨"MarkedPages", "id", "(II)I"⟩
abbrev c_M_runs : ByteArray := prog_1_method_10_code
def y_M_runs : MethodName := ⟨"MarkedPages", "runs", "(I)I"⟩
abbrev c_M_run : ByteArray := prog_1_method_11_code
def y_M_run : MethodName := ⟨"MarkedPages", "run", "(III)I"⟩
abbrev c_M_count : ByteArray := prog_1_method_12_code
def y_M_count : MethodName := ⟨"MarkedPages", "count", "(II)I"⟩
abbrev c_M_alike : ByteArray := prog_1_method_13_code
def y_M_alike : MethodName := ⟨"MarkedPages", "alike", "(II)Z"⟩
abbrev c_M_pageNumbered : ByteArray := prog_1_method_14_code
def y_M_pageNumbered : MethodName := ⟨"MarkedPages", "pageNumbered", "(I)LMarkedPages$Page;"⟩
abbrev c_M_make : ByteArray := prog_1_method_15_code
def y_M_make : MethodName := ⟨"MarkedPages", "make", "(LMarkedPages$Page;LMarkedPages$Operation;)I"⟩
abbrev c_M_refuseWhenAllAreMade : ByteArray := prog_1_method_16_code
def y_M_refuseWhenAllAreMade : MethodName := ⟨"MarkedPages", "refuseWhenAllAreMade", "()V"⟩
abbrev c_M_refuseArgumentUnless : ByteArray := prog_1_method_17_code
def y_M_refuseArgumentUnless : MethodName := ⟨"MarkedPages", "refuseArgumentUnless", "(Z)V"⟩
abbrev c_M_refuseIndexUnless : ByteArray := prog_1_method_18_code
def y_M_refuseIndexUnless : MethodName := ⟨"MarkedPages", "refuseIndexUnless", "(Z)V"⟩
abbrev c_R_init : ByteArray := prog_8_method_1_code
def y_R_init : MethodName := ⟨"MarkedPagesModel", "<init>", "()V"⟩
abbrev c_R_thrown : ByteArray := prog_8_method_2_code
def y_R_thrown : MethodName := ⟨"MarkedPagesModel", "thrown", "()I"⟩
abbrev c_R_isPage : ByteArray := prog_8_method_3_code
def y_R_isPage : MethodName := ⟨"MarkedPagesModel", "isPage", "(I)Z"⟩
abbrev c_R_nextBehind : ByteArray := prog_8_method_4_code
def y_R_nextBehind : MethodName := ⟨"MarkedPagesModel", "nextBehind", "(II)I"⟩
abbrev c_R_isGone : ByteArray := prog_8_method_5_code
def y_R_isGone : MethodName := ⟨"MarkedPagesModel", "isGone", "(II)Z"⟩
abbrev c_R_look : ByteArray := prog_8_method_6_code
def y_R_look : MethodName := ⟨"MarkedPagesModel", "look", "(I)V"⟩
abbrev c_R_covers : ByteArray := prog_8_method_7_code
def y_R_covers : MethodName := ⟨"MarkedPagesModel", "covers", "(II)Z"⟩
abbrev c_R_formatOf : ByteArray := prog_8_method_8_code
def y_R_formatOf : MethodName := ⟨"MarkedPagesModel", "formatOf", "(II)I"⟩
abbrev c_R_greatest : ByteArray := prog_8_method_9_code
def y_R_greatest : MethodName := ⟨"MarkedPagesModel", "greatest", "(I)I"⟩
abbrev c_R_learn : ByteArray := prog_8_method_10_code
def y_R_learn : MethodName := ⟨"MarkedPagesModel", "learn", "(II)V"⟩
abbrev c_R_make : ByteArray := prog_8_method_11_code
def y_R_make : MethodName := ⟨"MarkedPagesModel", "make", "(IIIII)I"⟩
abbrev c_R_write : ByteArray := prog_8_method_12_code
def y_R_write : MethodName := ⟨"MarkedPagesModel", "write", "(IIC)I"⟩
abbrev c_R_erase : ByteArray := prog_8_method_13_code
def y_R_erase : MethodName := ⟨"MarkedPagesModel", "erase", "(II)C"⟩
abbrev c_R_mark : ByteArray := prog_8_method_14_code
def y_R_mark : MethodName := ⟨"MarkedPagesModel", "mark", "(IIII)I"⟩
abbrev c_R_tell : ByteArray := prog_8_method_15_code
def y_R_tell : MethodName := ⟨"MarkedPagesModel", "tell", "(III)I"⟩
abbrev c_R_length : ByteArray := prog_8_method_16_code
def y_R_length : MethodName := ⟨"MarkedPagesModel", "length", "(I)I"⟩
abbrev c_R_finds : ByteArray := prog_8_method_17_code
def y_R_finds : MethodName := ⟨"MarkedPagesModel", "finds", "(II)Z"⟩
abbrev c_R_at : ByteArray := prog_8_method_18_code
def y_R_at : MethodName := ⟨"MarkedPagesModel", "at", "(II)C"⟩
abbrev c_R_format : ByteArray := prog_8_method_19_code
def y_R_format : MethodName := ⟨"MarkedPagesModel", "format", "(II)I"⟩
abbrev c_R_id : ByteArray := prog_8_method_20_code
def y_R_id : MethodName := ⟨"MarkedPagesModel", "id", "(II)I"⟩
abbrev c_R_begins : ByteArray := prog_8_method_21_code
def y_R_begins : MethodName := ⟨"MarkedPagesModel", "begins", "(II)Z"⟩
abbrev c_R_runs : ByteArray := prog_8_method_22_code
def y_R_runs : MethodName := ⟨"MarkedPagesModel", "runs", "(I)I"⟩
abbrev c_R_run : ByteArray := prog_8_method_23_code
def y_R_run : MethodName := ⟨"MarkedPagesModel", "run", "(III)I"⟩
abbrev c_R_count : ByteArray := prog_8_method_24_code
def y_R_count : MethodName := ⟨"MarkedPagesModel", "count", "(II)I"⟩
abbrev c_R_alike : ByteArray := prog_8_method_25_code
def y_R_alike : MethodName := ⟨"MarkedPagesModel", "alike", "(II)Z"⟩
abbrev c_E_init : ByteArray := prog_2_method_1_code
def y_E_init : MethodName := ⟨"MarkedPages$Erasing", "<init>", "(IIILMarkedPages$Writing;)V"⟩
abbrev c_E_reach : ByteArray := prog_2_method_2_code
def y_E_reach : MethodName := ⟨"MarkedPages$Erasing", "reach", "(LMarkedPages$Page;)V"⟩
abbrev c_K_init : ByteArray := prog_3_method_1_code
def y_K_init : MethodName := ⟨"MarkedPages$Marking", "<init>", "(IIIILMarkedPages$Writing;LMarkedPages$Writing;)V"⟩
abbrev c_K_endsBeforeItsEndLetter : ByteArray := prog_3_method_2_code
def y_K_endsBeforeItsEndLetter : MethodName := ⟨"MarkedPages$Marking", "endsBeforeItsEndLetter", "(I)Z"⟩
abbrev c_K_reach : ByteArray := prog_3_method_3_code
def y_K_reach : MethodName := ⟨"MarkedPages$Marking", "reach", "(LMarkedPages$Page;)V"⟩
abbrev c_K_covers : ByteArray := prog_3_method_4_code
def y_K_covers : MethodName := ⟨"MarkedPages$Marking", "covers", "(I[I)Z"⟩
abbrev c_O_init : ByteArray := prog_4_method_1_code
def y_O_init : MethodName := ⟨"MarkedPages$Operation", "<init>", "(III)V"⟩
abbrev c_P_init : ByteArray := prog_5_method_1_code
def y_P_init : MethodName := ⟨"MarkedPages$Page", "<init>", "()V"⟩
abbrev c_P_nextTime : ByteArray := prog_5_method_2_code
def y_P_nextTime : MethodName := ⟨"MarkedPages$Page", "nextTime", "()I"⟩
abbrev c_P_learn : ByteArray := prog_5_method_3_code
def y_P_learn : MethodName := ⟨"MarkedPages$Page", "learn", "(LMarkedPages$Operation;)V"⟩
abbrev c_P_knowsAllOf : ByteArray := prog_5_method_4_code
def y_P_knowsAllOf : MethodName := ⟨"MarkedPages$Page", "knowsAllOf", "(LMarkedPages$Page;)Z"⟩
abbrev c_P_putIntoRow : ByteArray := prog_5_method_5_code
def y_P_putIntoRow : MethodName := ⟨"MarkedPages$Page", "putIntoRow", "(LMarkedPages$Writing;)V"⟩
abbrev c_P_setInRow : ByteArray := prog_5_method_6_code
def y_P_setInRow : MethodName := ⟨"MarkedPages$Page", "setInRow", "(ILMarkedPages$Writing;)V"⟩
abbrev c_P_addMarking : ByteArray := prog_5_method_7_code
def y_P_addMarking : MethodName := ⟨"MarkedPages$Page", "addMarking", "(LMarkedPages$Marking;)V"⟩
abbrev c_P_gatherText : ByteArray := prog_5_method_8_code
def y_P_gatherText : MethodName := ⟨"MarkedPages$Page", "gatherText", "()V"⟩
abbrev c_P_writingShownAt : ByteArray := prog_5_method_9_code
def y_P_writingShownAt : MethodName := ⟨"MarkedPages$Page", "writingShownAt", "(I)LMarkedPages$Writing;"⟩
abbrev c_P_formatOf : ByteArray := prog_5_method_10_code
def y_P_formatOf : MethodName := ⟨"MarkedPages$Page", "formatOf", "(LMarkedPages$Writing;)I"⟩
abbrev c_P_startsRun : ByteArray := prog_5_method_11_code
def y_P_startsRun : MethodName := ⟨"MarkedPages$Page", "startsRun", "(I)Z"⟩
abbrev c_P_startOfRun : ByteArray := prog_5_method_12_code
def y_P_startOfRun : MethodName := ⟨"MarkedPages$Page", "startOfRun", "(I)I"⟩
abbrev c_W_init : ByteArray := prog_6_method_1_code
def y_W_init : MethodName := ⟨"MarkedPages$Writing", "<init>", "(IIICLMarkedPages$Writing;)V"⟩
abbrev c_W_reach : ByteArray := prog_6_method_2_code
def y_W_reach : MethodName := ⟨"MarkedPages$Writing", "reach", "(LMarkedPages$Page;)V"⟩
abbrev c_L_write : ByteArray := method_3_code
def y_L_write : MethodName := ⟨"MarkedPagesLaw", "write", "(LMarkedPages;IIC[J)I"⟩
abbrev c_L_erase : ByteArray := method_4_code
def y_L_erase : MethodName := ⟨"MarkedPagesLaw", "erase", "(LMarkedPages;II[J)I"⟩
abbrev c_L_mark : ByteArray := method_5_code
def y_L_mark : MethodName := ⟨"MarkedPagesLaw", "mark", "(LMarkedPages;IIII[J)I"⟩
abbrev c_L_tell : ByteArray := method_6_code
def y_L_tell : MethodName := ⟨"MarkedPagesLaw", "tell", "(LMarkedPages;III[J)I"⟩
abbrev c_L_length : ByteArray := method_7_code
def y_L_length : MethodName := ⟨"MarkedPagesLaw", "length", "(LMarkedPages;I[J)I"⟩
abbrev c_L_at : ByteArray := method_8_code
def y_L_at : MethodName := ⟨"MarkedPagesLaw", "at", "(LMarkedPages;II[J)I"⟩
abbrev c_L_format : ByteArray := method_9_code
def y_L_format : MethodName := ⟨"MarkedPagesLaw", "format", "(LMarkedPages;II[J)I"⟩
abbrev c_L_id : ByteArray := method_10_code
def y_L_id : MethodName := ⟨"MarkedPagesLaw", "id", "(LMarkedPages;II[J)I"⟩
abbrev c_L_runs : ByteArray := method_11_code
def y_L_runs : MethodName := ⟨"MarkedPagesLaw", "runs", "(LMarkedPages;I[J)I"⟩
abbrev c_L_run : ByteArray := method_12_code
def y_L_run : MethodName := ⟨"MarkedPagesLaw", "run", "(LMarkedPages;III[J)I"⟩
abbrev c_L_count : ByteArray := method_13_code
def y_L_count : MethodName := ⟨"MarkedPagesLaw", "count", "(LMarkedPages;II[J)I"⟩
abbrev c_L_alike : ByteArray := method_14_code
def y_L_alike : MethodName := ⟨"MarkedPagesLaw", "alike", "(LMarkedPages;II[J)I"⟩
abbrev c_L_law : ByteArray := code
def y_L_law : MethodName := ⟨"MarkedPagesLaw", "law", "([I)Z"⟩
end
section
/-! The order of a row: letters by their paths (ids from the root down), greater ids first, a letter ahead of those behind it. -/
def pq_lt : List Nat → List Nat → Prop
  | _, [] => False
  | [], _ :: _ => True
  | a :: as, b :: bs => b < a ∨ (a = b ∧ pq_lt as bs)
theorem pq_lt_irr : ∀ a : List Nat, ¬ pq_lt a a
  | [], h => h
  | a :: as, h => by
    rcases h with h | ⟨-, h⟩
    · omega
    · exact pq_lt_irr as h
theorem pq_lt_tr : ∀ a b c : List Nat, pq_lt a b → pq_lt b c → pq_lt a c
  | _, _, [], _, h => by
    rename_i b _
    cases b <;> exact h.elim
  | [], _, _ :: _, _, _ => trivial
  | a :: as, [], c :: cs, h, _ => h.elim
  | a :: as, b :: bs, c :: cs, h1, h2 => by
    rcases h1 with h1 | ⟨rfl, h1⟩ <;> rcases h2 with h2 | ⟨rfl, h2⟩
    · exact Or.inl (by omega)
    · exact Or.inl h1
    · exact Or.inl h2
    · exact Or.inr ⟨rfl, pq_lt_tr as bs cs h1 h2⟩
theorem pq_lt_tot : ∀ a b : List Nat, a ≠ b → pq_lt a b ∨ pq_lt b a
  | [], [], h => absurd rfl h
  | [], _ :: _, _ => Or.inl trivial
  | _ :: _, [], _ => Or.inr trivial
  | a :: as, b :: bs, h => by
    rcases Nat.lt_trichotomy a b with h1 | h1 | h1
    · exact Or.inr (Or.inl h1)
    · subst h1
      rcases pq_lt_tot as bs (fun e => h (by rw [e])) with h2 | h2
      · exact Or.inl (Or.inr ⟨rfl, h2⟩)
      · exact Or.inr (Or.inr ⟨rfl, h2⟩)
    · exact Or.inl (Or.inl h1)
theorem pq_lt_app : ∀ (P : List Nat) (c : Nat) (t : List Nat), pq_lt P (P ++ c :: t)
  | [], _, _ => trivial
  | _ :: P, c, t => Or.inr ⟨rfl, pq_lt_app P c t⟩
theorem pq_lt_cons (P : List Nat) : ∀ (a b : Nat) (t t' : List Nat), pq_lt (P ++ a :: t) (P ++ b :: t') ↔ b < a ∨ (a = b ∧ pq_lt t t') := by
  induction P with
  | nil => intro a b t t'; exact Iff.rfl
  | cons p P ih =>
    intro a b t t'
    constructor
    · rintro (h | ⟨-, h⟩)
      · omega
      · exact (ih a b t t').mp h
    · intro h
      exact Or.inr ⟨rfl, (ih a b t t').mpr h⟩
/-- behind P: under P, or parted from it downwards -/
theorem pq_lt_pre : ∀ (P X : List Nat), pq_lt P X → (∃ c t, X = P ++ c :: t) ∨ (∃ Q d d' t t', X = Q ++ d :: t ∧ P = Q ++ d' :: t' ∧ d < d')
  | _, [], h => by
    rename_i P
    cases P <;> exact h.elim
  | [], c :: t, _ => Or.inl ⟨c, t, rfl⟩
  | p :: P, x :: X, h => by
    rcases h with h | ⟨rfl, h⟩
    · exact Or.inr ⟨[], x, p, X, P, rfl, rfl, h⟩
    · rcases pq_lt_pre P X h with ⟨c, t, rfl⟩ | ⟨Q, d, d', t, t', rfl, rfl, hd⟩
      · exact Or.inl ⟨c, t, rfl⟩
      · exact Or.inr ⟨p :: Q, d, d', t, t', rfl, rfl, hd⟩
/-- between P and P ++ [n] lies only what is under P, by a greater id -/
theorem pq_lt_mid {P X : List Nat} {n : Nat} (h1 : pq_lt P X) (h2 : pq_lt X (P ++ [n])) : ∃ c t, X = P ++ c :: t ∧ n < c := by
  rcases pq_lt_pre P X h1 with ⟨c, t, rfl⟩ | ⟨Q, d, d', t, t', rfl, rfl, hd⟩
  · rcases (pq_lt_cons P c n t []).mp h2 with h | ⟨-, h⟩
    · exact ⟨c, t, rfl, h⟩
    · cases t <;> exact h.elim
  · rw [List.append_assoc, List.cons_append] at h2
    rcases (pq_lt_cons Q d d' t (t' ++ [n])).mp h2 with h | ⟨h, -⟩ <;> omega
/-- what is parted from P downwards is behind all that is under P -/
theorem pq_last_inj {P Q : List Nat} {a b : Nat} (h : P ++ [a] = Q ++ [b]) : P = Q ∧ a = b := by
  have h1 := List.append_inj' h rfl
  exact ⟨h1.1, by simpa using h1.2⟩
/-- the place of a new letter in a row -/
theorem pq_place (pa : Nat → List Nat) (ids : Nat → Nat) (r1 r2 : List Nat) (k : Nat) (P : List Nat)
    (hs : (r1 ++ r2).Pairwise fun a b => pq_lt (pa a) (pa b)) (hcl : ∀ x ∈ r1 ++ r2, ∀ Q d t, pa x = Q ++ d :: t → ∃ a ∈ r1 ++ r2, pa a = Q ++ [d])
    (hl : ∀ x ∈ r1 ++ r2, ∃ Q, pa x = Q ++ [ids x]) (hup : ∀ x ∈ r1 ++ r2, (pa x).Pairwise (· < ·))
    (hk : pa k = P ++ [ids k]) (h1 : ∀ x ∈ r1, pa x = P ∨ pq_lt (pa x) P) (h2 : ∀ x ∈ r2, pq_lt P (pa x)) (hP : ∀ z ∈ P, z < ids k) (hne : ∀ x ∈ r1 ++ r2, ids x ≠ ids k) :
    (r1 ++ r2.takeWhile (fun x => decide (ids k < ids x)) ++ k :: r2.dropWhile (fun x => decide (ids k < ids x))).Pairwise fun a b => pq_lt (pa a) (pa b) := by
  generalize hw : r2.takeWhile (fun x => decide (ids k < ids x)) = w
  generalize hv : r2.dropWhile (fun x => decide (ids k < ids x)) = v
  have e : r2 = w ++ v := by rw [← hw, ← hv]; exact List.takeWhile_append_dropWhile.symm
  have hwid : ∀ x ∈ w, ids k < ids x := by
    have ha := List.all_takeWhile (p := fun x => decide (ids k < ids x)) (l := r2)
    rw [hw, List.all_eq_true] at ha
    intro x hx
    simpa using ha x hx
  subst e
  rw [List.pairwise_append] at hs
  obtain ⟨hs1, hs2, hs12⟩ := hs
  rw [List.pairwise_append] at hs2
  obtain ⟨hsw, hsv, hswv⟩ := hs2
  have hkP : pq_lt P (pa k) := by rw [hk]; exact pq_lt_app _ _ _
  -- an ancestor that lies behind P and isn't behind x of w is in w
  have key : ∀ x ∈ w, ∀ a ∈ r1 ++ (w ++ v), pq_lt P (pa a) → pq_lt (pa a) (pa x) → a ∈ w := by
    intro x hx a ha hPa hax
    rcases List.mem_append.mp ha with ha | ha
    · rcases h1 a ha with h | h
      · rw [h] at hPa; exact absurd hPa (pq_lt_irr _)
      · exact absurd (pq_lt_tr _ _ _ h hPa) (pq_lt_irr _)
    · rcases List.mem_append.mp ha with ha | ha
      · exact ha
      · exact absurd (pq_lt_tr _ _ _ (hswv x hx a ha) hax) (pq_lt_irr _)
  have hwk : ∀ x ∈ w, pq_lt (pa x) (pa k) := by
    intro x hx
    have hxm : x ∈ r1 ++ (w ++ v) := by simp [hx]
    have hPx : pq_lt P (pa x) := h2 x (by simp [hx])
    obtain ⟨Qx, hQx⟩ := hl x hxm
    by_cases hxk : pa x = pa k
    · rw [hQx, hk] at hxk
      exact absurd (pq_last_inj hxk).2 (hne x hxm)
    · rcases pq_lt_tot _ _ hxk with h | h
      · exact h
      · exfalso
        -- an ancestor of x with an id below k's, behind P
        have : ∃ a ∈ r1 ++ (w ++ v), pq_lt P (pa a) ∧ (pa a = pa x ∨ pq_lt (pa a) (pa x)) ∧ ids a < ids k := by
          rcases pq_lt_pre P (pa x) hPx with ⟨c, t, ht⟩ | ⟨Q, d, d', t, t', ht, hp, hd⟩
          · obtain ⟨a, ha, hpa⟩ := hcl x hxm P c t ht
            obtain ⟨Qa, hQa⟩ := hl a ha
            have hida : ids a = c := by rw [hpa] at hQa; exact (pq_last_inj hQa).2.symm
            refine ⟨a, ha, by rw [hpa]; exact pq_lt_app _ _ _, ?_, ?_⟩
            · cases t with
              | nil => left; rw [hpa, ht]
              | cons z t => right; rw [hpa, ht, show P ++ c :: z :: t = (P ++ [c]) ++ z :: t by simp]; exact pq_lt_app _ _ _
            · have hne' := hne a ha
              rw [hk, ht] at h
              rcases (pq_lt_cons P (ids k) c [] t).mp h with h | ⟨h, -⟩ <;> omega
          · obtain ⟨a, ha, hpa⟩ := hcl x hxm Q d t ht
            obtain ⟨Qa, hQa⟩ := hl a ha
            have hida : ids a = d := by rw [hpa] at hQa; exact (pq_last_inj hQa).2.symm
            refine ⟨a, ha, ?_, ?_, ?_⟩
            · rw [hpa, hp]; exact (pq_lt_cons Q d' d t' []).mpr (Or.inl hd)
            · cases t with
              | nil => left; rw [hpa, ht]
              | cons z t => right; rw [hpa, ht, show Q ++ d :: z :: t = (Q ++ [d]) ++ z :: t by simp]; exact pq_lt_app _ _ _
            · have := hP d' (by rw [hp]; simp)
              omega
        obtain ⟨a, ha, hPa, hax, hid⟩ := this
        rcases hax with hax | hax
        · obtain ⟨Qa, hQa⟩ := hl a ha
          rw [hax, hQx] at hQa
          have := (pq_last_inj hQa).2
          have := hwid x hx
          omega
        · have := hwid a (key x hx a ha hPa hax)
          omega
  have hkv : ∀ x ∈ v, pq_lt (pa k) (pa x) := by
    cases hv0 : v with
    | nil => intro x hx; cases hx
    | cons x0 v0 =>
      have hx0m : x0 ∈ r1 ++ (w ++ v) := by rw [hv0]; simp
      have hx0 : ¬ ids k < ids x0 := by
        have hd : ((w ++ v).dropWhile (fun x => decide (ids k < ids x))).head? = some x0 := by rw [hv, hv0]; rfl
        have := List.head?_dropWhile_not (p := fun x => decide (ids k < ids x)) (l := w ++ v)
        rw [hd] at this
        simpa using this
      have hlt : pq_lt (pa k) (pa x0) := by
        have hPx : pq_lt P (pa x0) := h2 x0 (by rw [hv0]; simp)
        obtain ⟨Qx, hQx⟩ := hl x0 hx0m
        by_cases hxk : pa x0 = pa k
        · rw [hQx, hk] at hxk
          exact absurd (pq_last_inj hxk).2 (hne x0 hx0m)
        · rcases pq_lt_tot _ _ hxk with h | h
          · exfalso
            rw [hk] at h
            obtain ⟨c, t, ht, hc⟩ := pq_lt_mid hPx h
            have hu := hup x0 hx0m
            -- the last id is not below c
            have hlast : c ≤ ids x0 := by
              rw [ht] at hQx hu
              rw [List.pairwise_append] at hu
              have h3 := hu.2.1
              rw [List.pairwise_cons] at h3
              cases ht2 : t with
              | nil =>
                rw [ht2] at hQx
                have := (pq_last_inj hQx).2
                omega
              | cons z t =>
                have hm : ids x0 ∈ z :: t := by
                  have h4 : (P ++ c :: (z :: t)).getLast? = some (ids x0) := by rw [← ht2, hQx]; simp
                  rw [List.getLast?_append, show (c :: z :: t).getLast? = (z :: t).getLast? by simp, List.getLast?_eq_some_getLast (List.cons_ne_nil z t)] at h4
                  have h5 : (z :: t).getLast (List.cons_ne_nil z t) = ids x0 := by simpa using h4
                  rw [← h5]
                  exact List.getLast_mem _
                have := h3.1 _ (by rw [ht2]; exact hm)
                omega
            omega
          · exact h
      intro x hx
      rcases List.mem_cons.mp hx with rfl | hx
      · exact hlt
      · rw [hv0, List.pairwise_cons] at hsv
        exact pq_lt_tr _ _ _ hlt (hsv.1 x hx)
  rw [List.append_assoc, List.pairwise_append]
  refine ⟨hs1, ?_, ?_⟩
  · rw [List.pairwise_append]
    refine ⟨hsw, ?_, ?_⟩
    · rw [List.pairwise_cons]
      exact ⟨hkv, hsv⟩
    · intro a ha b hb
      rcases List.mem_cons.mp hb with rfl | hb
      · exact hwk a ha
      · exact hswv a ha b hb
  · intro a ha b hb
    rcases List.mem_append.mp hb with hb | hb
    · exact hs12 a ha b (by simp [hb])
    · rcases List.mem_cons.mp hb with rfl | hb
      · rcases h1 a ha with h | h
        · rw [h]; exact hkP
        · exact pq_lt_tr _ _ _ h hkP
      · exact hs12 a ha b (by simp [hb])
/-- the walk down: of the letters under A that come from f on, f has the greatest id -/
theorem pq_dfsA {pa : Nat → List Nat} {ids : Nat → Nat} {F2 : List Nat} {f : Nat} {A : List Nat} (hs : (f :: F2).Pairwise fun a b => pq_lt (pa a) (pa b)) (hf : pa f = A ++ [ids f]) : ∀ x ∈ F2, pa x = A ++ [ids x] → ids x < ids f := by
  intro x hx hpx
  have h := (List.pairwise_cons.mp hs).1 x hx
  rw [hf, hpx] at h
  rcases (pq_lt_cons A (ids f) (ids x) [] []).mp h with h | ⟨-, h⟩
  · exact h
  · exact h.elim
/-- where f is behind a higher letter than a, none from f on is behind a -/
theorem pq_dfsB {pa : Nat → List Nat} {F2 : List Nat} {f n e : Nat} {R t : List Nat} (hs : (f :: F2).Pairwise fun a b => pq_lt (pa a) (pa b)) (hf : pa f = R ++ [n]) (ha : pq_lt (R ++ e :: t) (pa f)) : ∀ x ∈ f :: F2, ∀ c, pa x ≠ (R ++ e :: t) ++ [c] := by
  rw [hf] at ha
  have hne : n < e := by
    rcases (pq_lt_cons R e n t []).mp ha with h | ⟨-, h⟩
    · exact h
    · cases t <;> exact h.elim
  intro x hx c hpx
  rw [List.append_assoc, List.cons_append] at hpx
  rcases List.mem_cons.mp hx with rfl | hx
  · rw [hf] at hpx
    have h := List.append_cancel_left hpx
    simp at h
  · have h := (List.pairwise_cons.mp hs).1 x hx
    rw [hf, hpx] at h
    rcases (pq_lt_cons R n e [] (t ++ [c])).mp h with h | ⟨h, -⟩ <;> omega
/-- the next letter is behind the last one or behind one over it -/
theorem pq_dfsC {pa : Nat → List Nat} {F1 F2 : List Nat} {f q n : Nat} {R : List Nat} (hs : (F1 ++ f :: q :: F2).Pairwise fun a b => pq_lt (pa a) (pa b)) (hq : pa q = R ++ [n]) (hcl : R = [] ∨ ∃ a ∈ F1 ++ f :: q :: F2, pa a = R) : ∃ t, pa f = R ++ t := by
  rcases hcl with rfl | ⟨a, ha, hpa⟩
  · exact ⟨pa f, rfl⟩
  · rw [List.pairwise_append] at hs
    obtain ⟨-, hs2, hs12⟩ := hs
    have hfq := (List.pairwise_cons.mp hs2).1 q (by simp)
    have hqs := (List.pairwise_cons.mp (List.pairwise_cons.mp hs2).2).1
    have haq : pq_lt (pa a) (pa q) := by rw [hpa, hq]; exact pq_lt_app _ _ _
    have hcase : pa a = pa f ∨ pq_lt (pa a) (pa f) := by
      rcases List.mem_append.mp ha with h | h
      · exact Or.inr (hs12 a h f (by simp))
      · rcases List.mem_cons.mp h with rfl | h
        · exact Or.inl rfl
        · exfalso
          rcases List.mem_cons.mp h with rfl | h
          · exact pq_lt_irr _ haq
          · exact pq_lt_irr _ (pq_lt_tr _ _ _ haq (hqs a h))
    rcases hcase with h | h
    · exact ⟨[], by rw [← h, hpa]; simp⟩
    · rw [hpa] at h
      rw [hq] at hfq
      obtain ⟨c, t, ht, -⟩ := pq_lt_mid h hfq
      exact ⟨c :: t, ht⟩
/-- the one with the greatest id among those that c allows -/
def pq_best (ids : Nat → Nat) (c : Nat → Bool) : Nat → Option Nat
  | 0 => none
  | n + 1 => if c n && (match pq_best ids c n with | none => true | some b => decide (ids b < ids n)) then some n else pq_best ids c n
theorem pq_best_spec (ids : Nat → Nat) (c : Nat → Bool) : ∀ n, (∀ b, pq_best ids c n = some b → b < n ∧ c b = true ∧ ∀ j, j < n → c j = true → ids j ≤ ids b) ∧ (pq_best ids c n = none → ∀ j, j < n → c j = false) := by
  intro n
  induction n with
  | zero => exact ⟨fun b h => (by cases h), fun _ j hj => by omega⟩
  | succ n ih =>
    obtain ⟨ih1, ih2⟩ := ih
    unfold pq_best
    cases hb : pq_best ids c n with
    | none =>
      have hn := ih2 hb
      by_cases hc : c n = true
      · simp only [hc, Bool.and_true, if_true]
        refine ⟨fun b h => ?_, fun h => by cases h⟩
        cases h
        refine ⟨by omega, hc, fun j hj hcj => ?_⟩
        rcases Nat.lt_succ_iff_lt_or_eq.mp hj with h | rfl
        · rw [hn j h] at hcj; cases hcj
        · exact Nat.le_refl _
      · have hc' : c n = false := by simpa using hc
        simp only [hc', Bool.false_and, Bool.false_eq_true, if_false]
        refine ⟨fun b h => (by cases h), fun _ j hj => ?_⟩
        rcases Nat.lt_succ_iff_lt_or_eq.mp hj with h | rfl
        · exact hn j h
        · exact hc'
    | some b0 =>
      obtain ⟨h1, h2, h3⟩ := ih1 b0 hb
      by_cases hc : (c n && decide (ids b0 < ids n)) = true
      · rw [if_pos hc]
        simp only [Bool.and_eq_true, decide_eq_true_eq] at hc
        refine ⟨fun b h => ?_, fun h => by cases h⟩
        cases h
        refine ⟨by omega, hc.1, fun j hj hcj => ?_⟩
        rcases Nat.lt_succ_iff_lt_or_eq.mp hj with h | rfl
        · have := h3 j h hcj; omega
        · exact Nat.le_refl _
      · rw [if_neg hc]
        refine ⟨fun b h => ?_, fun h => by cases h⟩
        cases h
        refine ⟨by omega, h2, fun j hj hcj => ?_⟩
        rcases Nat.lt_succ_iff_lt_or_eq.mp hj with h | rfl
        · exact h3 j h hcj
        · simp only [Bool.and_eq_true, decide_eq_true_eq, not_and] at hc
          have := hc hcj
          omega
/-- among different ids: who is allowed and has the greatest is it -/
theorem pq_best_is {ids : Nat → Nat} {c : Nat → Bool} {n f : Nat} (hf : f < n) (hc : c f = true) (hm : ∀ j, j < n → c j = true → j ≠ f → ids j < ids f) : pq_best ids c n = some f := by
  obtain ⟨h1, h2⟩ := pq_best_spec ids c n
  cases hb : pq_best ids c n with
  | none => rw [h2 hb f hf] at hc; cases hc
  | some b =>
    obtain ⟨g1, g2, g3⟩ := h1 b hb
    by_cases hbf : b = f
    · rw [hbf]
    · have := g3 f hf hc
      have := hm b g1 g2 hbf
      omega
theorem pq_best_none {ids : Nat → Nat} {c : Nat → Bool} {n : Nat} (hc : ∀ j, j < n → c j = false) : pq_best ids c n = none := by
  obtain ⟨h1, h2⟩ := pq_best_spec ids c n
  cases hb : pq_best ids c n with
  | none => rfl
  | some b => obtain ⟨g1, g2, -⟩ := h1 b hb; rw [hc b g1] at g2; cases g2
end
section
/-! Operations and what a page that knows some of them shows. An operation: sort, time, page, first, end, what, letter. A page's knowledge: kn 0 .. kn (c - 1), in this order. -/
abbrev pq_O : Type := Nat → Nat × Nat × Nat × Option Nat × Option Nat × Nat × Int32
abbrev pq_so (O : pq_O) (k : Nat) : Nat := (O k).1
abbrev pq_tm (O : pq_O) (k : Nat) : Nat := (O k).2.1
abbrev pq_pg (O : pq_O) (k : Nat) : Nat := (O k).2.2.1
abbrev pq_fi (O : pq_O) (k : Nat) : Option Nat := (O k).2.2.2.1
abbrev pq_en (O : pq_O) (k : Nat) : Option Nat := (O k).2.2.2.2.1
abbrev pq_wh (O : pq_O) (k : Nat) : Nat := (O k).2.2.2.2.2.1
abbrev pq_le (O : pq_O) (k : Nat) : Int32 := (O k).2.2.2.2.2.2
def pq_id (O : pq_O) (k : Nat) : Nat := 4 * pq_tm O k + pq_pg O k
def pq_pth (O : pq_O) : Nat → Nat → List Nat
  | 0, _ => []
  | n + 1, k => (match pq_fi O k with | none => [] | some p => pq_pth O n p) ++ [pq_id O k]
def pq_pa (O : pq_O) (k : Nat) : List Nat := pq_pth O (k + 1) k
/-- the operations made so far hang together -/
def pq_wf (M : Nat) (O : pq_O) : Prop :=
  (∀ k, k < M → ∀ p, pq_fi O k = some p → p < k ∧ pq_so O p = 0 ∧ pq_id O p < pq_id O k) ∧ (∀ k, k < M → ∀ p, pq_en O k = some p → p < k ∧ pq_so O p = 0) ∧
  (∀ j k, j < M → k < M → j ≠ k → pq_id O j ≠ pq_id O k) ∧ (∀ k, k < M → 1 ≤ pq_tm O k ∧ pq_tm O k ≤ k + 1 ∧ pq_pg O k < 3 ∧ pq_so O k < 3 ∧ pq_wh O k < 8) ∧ (∀ k, k < M → pq_so O k = 0 ∨ ∃ p, pq_fi O k = some p)
/-- a page's knowledge: no operation twice, none ahead of what it speaks of -/
def pq_kn (M : Nat) (O : pq_O) (kn : Nat → Nat) (c : Nat) : Prop :=
  (∀ i, i < c → kn i < M) ∧ (∀ i j, i < c → j < c → kn i = kn j → i = j) ∧ ∀ i, i < c → ∀ p, (pq_fi O (kn i) = some p ∨ pq_en O (kn i) = some p) → ∃ j, j < i ∧ kn j = p
theorem pq_pth_ir {M : Nat} {O : pq_O} (hw : pq_wf M O) : ∀ q, q < M → ∀ m1 m2, q < m1 → q < m2 → pq_pth O m1 q = pq_pth O m2 q := by
  intro q
  induction q using Nat.strongRecOn with
  | ind q ihq =>
    intro hq m1 m2 h1 h2
    obtain ⟨a, rfl⟩ : ∃ a, m1 = a + 1 := ⟨m1 - 1, by omega⟩
    obtain ⟨b, rfl⟩ : ∃ b, m2 = b + 1 := ⟨m2 - 1, by omega⟩
    unfold pq_pth
    cases hfq : pq_fi O q with
    | none => rfl
    | some r =>
      have hr := (hw.1 q hq r hfq).1
      show pq_pth O a r ++ _ = pq_pth O b r ++ _
      rw [ihq r hr (by omega) a b (by omega) (by omega)]
theorem pq_pa_eq {M : Nat} {O : pq_O} (hw : pq_wf M O) {k : Nat} (hk : k < M) : pq_pa O k = (match pq_fi O k with | none => [] | some p => pq_pa O p) ++ [pq_id O k] := by
  show (match pq_fi O k with | none => [] | some p => pq_pth O k p) ++ [pq_id O k] = _
  cases hp : pq_fi O k with
  | none => rfl
  | some p =>
    have h1 := (hw.1 k hk p hp).1
    show pq_pth O k p ++ _ = pq_pa O p ++ _
    rw [pq_pth_ir hw p (by omega) k (p + 1) h1 (by omega)]
    rfl
theorem pq_pa_last {M : Nat} {O : pq_O} (hw : pq_wf M O) {k : Nat} (hk : k < M) : ∃ Q, pq_pa O k = Q ++ [pq_id O k] := ⟨_, pq_pa_eq hw hk⟩
/-- ids grow along a path -/
theorem pq_pa_up {M : Nat} {O : pq_O} (hw : pq_wf M O) : ∀ k, k < M → (pq_pa O k).Pairwise (· < ·) ∧ ∀ z ∈ pq_pa O k, z ≤ pq_id O k := by
  intro k
  induction k using Nat.strongRecOn with
  | ind k ih =>
    intro hk
    rw [pq_pa_eq hw hk]
    cases hp : pq_fi O k with
    | none => simp
    | some p =>
      obtain ⟨h1, -, h3⟩ := hw.1 k hk p hp
      obtain ⟨i1, i2⟩ := ih p h1 (by omega)
      simp only []
      refine ⟨List.pairwise_append.mpr ⟨i1, by simp, fun a ha b hb => ?_⟩, fun z hz => ?_⟩
      · rw [List.mem_singleton] at hb
        have := i2 a ha
        omega
      · rcases List.mem_append.mp hz with h | h
        · have := i2 z h; omega
        · rw [List.mem_singleton.mp h]; exact Nat.le_refl _
theorem pq_pa_inj {M : Nat} {O : pq_O} (hw : pq_wf M O) {j k : Nat} (hj : j < M) (hk : k < M) (h : pq_pa O j = pq_pa O k) : j = k := by
  obtain ⟨Q, hQ⟩ := pq_pa_last hw hj
  obtain ⟨Q', hQ'⟩ := pq_pa_last hw hk
  rw [hQ, hQ'] at h
  by_cases e : j = k
  · exact e
  · exact absurd (pq_last_inj h).2 (hw.2.2.1 j k hj hk e)
/-- every piece of a path from the root is a path -/
theorem pq_pa_cut {M : Nat} {O : pq_O} (hw : pq_wf M O) (S : Nat → Prop) (hS : ∀ k, S k → k < M ∧ ∀ p, pq_fi O k = some p → S p) : ∀ k, S k → ∀ Q d t, pq_pa O k = Q ++ d :: t → ∃ a, S a ∧ pq_pa O a = Q ++ [d] := by
  intro k
  induction k using Nat.strongRecOn with
  | ind k ih =>
    intro hk Q d t ht
    cases t with
    | nil => exact ⟨k, hk, ht⟩
    | cons z t =>
      obtain ⟨hM, hp⟩ := hS k hk
      have e := pq_pa_eq hw hM
      -- the last of the list is the own id; the rest is the parent's path
      have hne : Q ++ d :: z :: t ≠ [] := by simp
      rw [ht] at e
      cases hf : pq_fi O k with
      | none =>
        rw [hf] at e
        have hl := congrArg List.length e
        simp at hl
        omega
      | some p =>
        rw [hf] at e
        simp only [] at e
        have hd : pq_pa O p = Q ++ d :: (z :: t).dropLast := by
          have h1 := congrArg List.dropLast e
          rw [List.dropLast_concat] at h1
          rw [← h1, List.dropLast_append_cons]
          rfl
        exact ih p (hw.1 k hM p hf).1 (hp p hf) Q d _ hd
/-- the place of a writing -/
def pq_st (O : pq_O) (r : List Nat) (k : Nat) : Nat := match pq_fi O k with
  | none => 0
  | some p => r.idxOf p + 1
def pq_ins (O : pq_O) (r : List Nat) (k : Nat) : List Nat :=
  r.take (pq_st O r k) ++ (r.drop (pq_st O r k)).takeWhile (fun x => decide (pq_id O k < pq_id O x)) ++ k :: (r.drop (pq_st O r k)).dropWhile (fun x => decide (pq_id O k < pq_id O x))
def pq_row (O : pq_O) (kn : Nat → Nat) : Nat → List Nat
  | 0 => []
  | c + 1 => if pq_so O (kn c) = 0 then pq_ins O (pq_row O kn c) (kn c) else pq_row O kn c
theorem pq_ins_mem {O : pq_O} {r : List Nat} {k x : Nat} : x ∈ pq_ins O r k ↔ x = k ∨ x ∈ r := by
  unfold pq_ins
  have e : r = r.take (pq_st O r k) ++ ((r.drop (pq_st O r k)).takeWhile (fun x => decide (pq_id O k < pq_id O x)) ++ (r.drop (pq_st O r k)).dropWhile (fun x => decide (pq_id O k < pq_id O x))) := by
    rw [List.takeWhile_append_dropWhile, List.take_append_drop]
  constructor
  · intro h
    rcases List.mem_append.mp h with h | h
    · right
      rw [e]
      rcases List.mem_append.mp h with h | h
      · exact List.mem_append_left _ h
      · exact List.mem_append_right _ (List.mem_append_left _ h)
    · rcases List.mem_cons.mp h with h | h
      · exact Or.inl h
      · right
        rw [e]
        exact List.mem_append_right _ (List.mem_append_right _ h)
  · rintro (rfl | h)
    · simp
    · rw [e] at h
      rcases List.mem_append.mp h with h | h
      · exact List.mem_append_left _ (List.mem_append_left _ h)
      · rcases List.mem_append.mp h with h | h
        · exact List.mem_append_left _ (List.mem_append_right _ h)
        · exact List.mem_append_right _ (List.mem_cons_of_mem _ h)
theorem pq_ins_len (O : pq_O) (r : List Nat) (k : Nat) : (pq_ins O r k).length = r.length + 1 := by
  have e : r = r.take (pq_st O r k) ++ ((r.drop (pq_st O r k)).takeWhile (fun x => decide (pq_id O k < pq_id O x)) ++ (r.drop (pq_st O r k)).dropWhile (fun x => decide (pq_id O k < pq_id O x))) := by
    rw [List.takeWhile_append_dropWhile, List.take_append_drop]
  have e2 := congrArg List.length e
  simp only [List.length_append] at e2
  unfold pq_ins
  simp only [List.length_append, List.length_cons]
  omega
/-- a row holds just the writings that are known, in order -/
theorem pq_row_ok {M : Nat} {O : pq_O} (hw : pq_wf M O) {kn : Nat → Nat} : ∀ c, pq_kn M O kn c →
    (∀ x, x ∈ pq_row O kn c ↔ pq_so O x = 0 ∧ ∃ i, i < c ∧ kn i = x) ∧ (pq_row O kn c).Pairwise (fun a b => pq_lt (pq_pa O a) (pq_pa O b)) := by
  intro c
  induction c with
  | zero =>
    intro _
    refine ⟨fun x => ⟨fun h => (by cases h), fun ⟨_, i, hi, _⟩ => by omega⟩, List.Pairwise.nil⟩
  | succ c ih =>
    intro hk
    have hk' : pq_kn M O kn c := ⟨fun i hi => hk.1 i (by omega), fun i j hi hj => hk.2.1 i j (by omega) (by omega), fun i hi => hk.2.2 i (by omega)⟩
    obtain ⟨hm, hs⟩ := ih hk'
    unfold pq_row
    by_cases hso : pq_so O (kn c) = 0
    · rw [if_pos hso]
      have hMc := hk.1 c (by omega)
      have hfresh : ∀ x ∈ pq_row O kn c, x ≠ kn c := by
        intro x hx e
        obtain ⟨-, i, hi, hix⟩ := (hm x).mp hx
        have := hk.2.1 i c (by omega) (by omega) (by rw [hix, e])
        omega
      have hltM : ∀ x ∈ pq_row O kn c, x < M := by
        intro x hx
        obtain ⟨-, i, hi, rfl⟩ := (hm x).mp hx
        exact hk.1 i (by omega)
      refine ⟨fun x => ?_, ?_⟩
      · rw [pq_ins_mem, hm x]
        constructor
        · rintro (rfl | ⟨h1, i, hi, h2⟩)
          · exact ⟨hso, c, by omega, rfl⟩
          · exact ⟨h1, i, by omega, h2⟩
        · rintro ⟨h1, i, hi, h2⟩
          by_cases e : i = c
          · left; rw [← h2, e]
          · right; exact ⟨h1, i, by omega, h2⟩
      · -- the order
        have hcl : ∀ x ∈ pq_row O kn c, ∀ Q d t, pq_pa O x = Q ++ d :: t → ∃ a ∈ pq_row O kn c, pq_pa O a = Q ++ [d] := by
          intro x hx Q d t ht
          refine pq_pa_cut hw (fun a => a ∈ pq_row O kn c) (fun a ha => ⟨hltM a ha, fun p hp => ?_⟩) x hx Q d t ht
          obtain ⟨-, i, hi, rfl⟩ := (hm a).mp ha
          obtain ⟨j, hj, hjp⟩ := hk'.2.2 i hi p (Or.inl hp)
          exact (hm p).mpr ⟨(hw.1 _ (hk.1 i (by omega)) p hp).2.1, j, by omega, hjp⟩
        have hids : ∀ x ∈ pq_row O kn c, pq_id O x ≠ pq_id O (kn c) := fun x hx => hw.2.2.1 x _ (hltM x hx) hMc (hfresh x hx)
        generalize hr : pq_row O kn c = r at *
        unfold pq_ins
        have happ : ∀ z, r.take z ++ r.drop z = r := fun z => List.take_append_drop z r
        cases hf : pq_fi O (kn c) with
        | none =>
          have e0 : pq_st O r (kn c) = 0 := by unfold pq_st; rw [hf]
          rw [e0]
          refine pq_place (pq_pa O) (pq_id O) (r.take 0) (r.drop 0) (kn c) [] (by rw [happ]; exact hs) (by rw [happ]; exact hcl) (by rw [happ]; exact fun x hx => pq_pa_last hw (hltM x hx)) (by rw [happ]; exact fun x hx => (pq_pa_up hw x (hltM x hx)).1) ?_ ?_ ?_ ?_ (by rw [happ]; exact hids)
          · rw [pq_pa_eq hw hMc, hf]
          · intro x hx; simp at hx
          · intro x hx
            have hx' : x ∈ r := by simpa using hx
            obtain ⟨Q, hQ⟩ := pq_pa_last hw (hltM x hx')
            rw [hQ]
            cases Q <;> exact trivial
          · intro z hz; cases hz
        | some p =>
          have e0 : pq_st O r (kn c) = r.idxOf p + 1 := by unfold pq_st; rw [hf]
          rw [e0]
          obtain ⟨j, hj, hjp⟩ := hk.2.2 c (by omega) p (Or.inl hf)
          obtain ⟨w1, w2, w3⟩ := hw.1 _ hMc p hf
          have hp : p ∈ r := (hm p).mpr ⟨w2, j, by omega, hjp⟩
          obtain ⟨s, t, hst⟩ := List.append_of_mem hp
          have hsort := hs
          rw [hst, List.pairwise_append, List.pairwise_cons] at hsort
          obtain ⟨-, ⟨ht2, -⟩, hs12⟩ := hsort
          have hps : p ∉ s := fun h => pq_lt_irr _ (hs12 p h p (by simp))
          have hix : r.idxOf p + 1 = (s ++ [p]).length := by
            rw [hst, List.idxOf_append]
            simp [hps]
          have e1 : r.take (r.idxOf p + 1) = s ++ [p] := by rw [hix, hst, show s ++ p :: t = (s ++ [p]) ++ t by simp, List.take_left]
          have e2 : r.drop (r.idxOf p + 1) = t := by rw [hix, hst, show s ++ p :: t = (s ++ [p]) ++ t by simp, List.drop_left]
          refine pq_place (pq_pa O) (pq_id O) (r.take (r.idxOf p + 1)) (r.drop (r.idxOf p + 1)) (kn c) (pq_pa O p) (by rw [happ]; exact hs) (by rw [happ]; exact hcl) (by rw [happ]; exact fun x hx => pq_pa_last hw (hltM x hx)) (by rw [happ]; exact fun x hx => (pq_pa_up hw x (hltM x hx)).1) ?_ ?_ ?_ ?_ (by rw [happ]; exact hids)
          · rw [pq_pa_eq hw hMc, hf]
          · rw [e1]
            intro x hx
            rcases List.mem_append.mp hx with h | h
            · exact Or.inr (hs12 x h p (by simp))
            · rw [List.mem_singleton.mp h]; exact Or.inl rfl
          · rw [e2]; exact ht2
          · intro z hz
            have := (pq_pa_up hw p (by omega)).2 z hz
            omega
    · rw [if_neg hso]
      refine ⟨fun x => ?_, hs⟩
      rw [hm x]
      constructor
      · rintro ⟨h1, i, hi, h2⟩; exact ⟨h1, i, by omega, h2⟩
      · rintro ⟨h1, i, hi, h2⟩
        by_cases e : i = c
        · rw [← h2, e] at h1; exact absurd h1 hso
        · exact ⟨h1, i, by omega, h2⟩
theorem pq_row_nodup {M : Nat} {O : pq_O} (hw : pq_wf M O) {kn : Nat → Nat} {c : Nat} (hk : pq_kn M O kn c) : (pq_row O kn c).Nodup := by
  refine List.Pairwise.imp (S := fun a b => a ≠ b) ?_ (pq_row_ok hw c hk).2
  intro a b h e
  subst e
  exact pq_lt_irr _ h
theorem pq_row_len (O : pq_O) (kn : Nat → Nat) : ∀ c, (pq_row O kn c).length ≤ c
  | 0 => Nat.le_refl _
  | c + 1 => by
    unfold pq_row
    have := pq_row_len O kn c
    split
    · rw [pq_ins_len]; omega
    · omega
end
section
/-! What a page knows, what is gone, the text, the markings in order, formats. -/
def pq_kw (kn : Nat → Nat) : Nat → Nat → Bool
  | 0, _ => false
  | c + 1, k => pq_kw kn c k || kn c == k
theorem pq_kw_iff (kn : Nat → Nat) (k : Nat) : ∀ c, pq_kw kn c k = true ↔ ∃ i, i < c ∧ kn i = k
  | 0 => ⟨fun h => (by cases h), fun ⟨i, hi, _⟩ => by omega⟩
  | c + 1 => by
    unfold pq_kw
    rw [Bool.or_eq_true, pq_kw_iff kn k c, beq_iff_eq]
    constructor
    · rintro (⟨i, hi, h⟩ | h)
      · exact ⟨i, by omega, h⟩
      · exact ⟨c, by omega, h⟩
    · rintro ⟨i, hi, h⟩
      by_cases e : i = c
      · right; rw [← e]; exact h
      · left; exact ⟨i, by omega, h⟩
def pq_gn (O : pq_O) (kn : Nat → Nat) : Nat → Nat → Bool
  | 0, _ => false
  | c + 1, k => pq_gn O kn c k || (pq_so O (kn c) == 1 && pq_fi O (kn c) == some k)
theorem pq_gn_iff (O : pq_O) (kn : Nat → Nat) (k : Nat) : ∀ c, pq_gn O kn c k = true ↔ ∃ i, i < c ∧ pq_so O (kn i) = 1 ∧ pq_fi O (kn i) = some k
  | 0 => ⟨fun h => (by cases h), fun ⟨i, hi, _⟩ => by omega⟩
  | c + 1 => by
    unfold pq_gn
    rw [Bool.or_eq_true, pq_gn_iff O kn k c, Bool.and_eq_true, beq_iff_eq, beq_iff_eq]
    constructor
    · rintro (⟨i, hi, h⟩ | h)
      · exact ⟨i, by omega, h⟩
      · exact ⟨c, by omega, h⟩
    · rintro ⟨i, hi, h⟩
      by_cases e : i = c
      · right; rw [← e]; exact h
      · left; exact ⟨i, by omega, h⟩
def pq_tx (O : pq_O) (kn : Nat → Nat) (c : Nat) : List Nat := (pq_row O kn c).filter fun k => !pq_gn O kn c k
def pq_tx_len (O : pq_O) (kn : Nat → Nat) (c : Nat) : (pq_tx O kn c).length ≤ c := Nat.le_trans (List.length_filter_le _ _) (pq_row_len O kn c)
/-- the greatest time -/
def pq_mx (O : pq_O) (kn : Nat → Nat) : Nat → Nat
  | 0 => 0
  | c + 1 => max (pq_mx O kn c) (pq_tm O (kn c))
theorem pq_mx_ge (O : pq_O) (kn : Nat → Nat) : ∀ c i, i < c → pq_tm O (kn i) ≤ pq_mx O kn c
  | 0, _, h => by omega
  | c + 1, i, h => by
    unfold pq_mx
    by_cases e : i = c
    · subst e; omega
    · have := pq_mx_ge O kn c i (by omega)
      omega
theorem pq_mx_le {O : pq_O} {kn : Nat → Nat} {B : Nat} : ∀ c, (∀ i, i < c → pq_tm O (kn i) ≤ B) → pq_mx O kn c ≤ B
  | 0, _ => Nat.zero_le _
  | c + 1, h => by
    unfold pq_mx
    have h1 := pq_mx_le c (fun i hi => h i (by omega))
    have h2 := h c (by omega)
    omega
/-- the markings, by rising ids -/
def pq_mins (O : pq_O) (r : List Nat) (k : Nat) : List Nat := r.takeWhile (fun x => decide (pq_id O x < pq_id O k)) ++ k :: r.dropWhile (fun x => decide (pq_id O x < pq_id O k))
def pq_mk (O : pq_O) (kn : Nat → Nat) : Nat → List Nat
  | 0 => []
  | c + 1 => if pq_so O (kn c) = 2 then pq_mins O (pq_mk O kn c) (kn c) else pq_mk O kn c
theorem pq_mins_mem {O : pq_O} {r : List Nat} {k x : Nat} : x ∈ pq_mins O r k ↔ x = k ∨ x ∈ r := by
  unfold pq_mins
  have e : r = r.takeWhile (fun x => decide (pq_id O x < pq_id O k)) ++ r.dropWhile (fun x => decide (pq_id O x < pq_id O k)) := List.takeWhile_append_dropWhile.symm
  constructor
  · intro h
    rcases List.mem_append.mp h with h | h
    · right; rw [e]; exact List.mem_append_left _ h
    · rcases List.mem_cons.mp h with h | h
      · exact Or.inl h
      · right; rw [e]; exact List.mem_append_right _ h
  · rintro (rfl | h)
    · simp
    · rw [e] at h
      rcases List.mem_append.mp h with h | h
      · exact List.mem_append_left _ h
      · exact List.mem_append_right _ (List.mem_cons_of_mem _ h)
theorem pq_mins_len (O : pq_O) (r : List Nat) (k : Nat) : (pq_mins O r k).length = r.length + 1 := by
  have e2 := congrArg List.length (List.takeWhile_append_dropWhile (p := fun x => decide (pq_id O x < pq_id O k)) (l := r))
  unfold pq_mins
  simp only [List.length_append, List.length_cons] at e2 ⊢
  omega
theorem pq_mk_len (O : pq_O) (kn : Nat → Nat) : ∀ c, (pq_mk O kn c).length ≤ c
  | 0 => Nat.le_refl _
  | c + 1 => by
    unfold pq_mk
    have := pq_mk_len O kn c
    split
    · rw [pq_mins_len]; omega
    · omega
theorem pq_mins_sort {O : pq_O} {r : List Nat} {k : Nat} (hs : r.Pairwise fun a b => pq_id O a < pq_id O b) (hne : ∀ x ∈ r, pq_id O x ≠ pq_id O k) : (pq_mins O r k).Pairwise fun a b => pq_id O a < pq_id O b := by
  unfold pq_mins
  generalize hw : r.takeWhile (fun x => decide (pq_id O x < pq_id O k)) = w
  generalize hv : r.dropWhile (fun x => decide (pq_id O x < pq_id O k)) = v
  have e : r = w ++ v := by rw [← hw, ← hv]; exact List.takeWhile_append_dropWhile.symm
  have hwid : ∀ x ∈ w, pq_id O x < pq_id O k := by
    have ha := List.all_takeWhile (p := fun x => decide (pq_id O x < pq_id O k)) (l := r)
    rw [hw, List.all_eq_true] at ha
    intro x hx
    simpa using ha x hx
  have hvid : ∀ x ∈ v, pq_id O k < pq_id O x := by
    cases hv0 : v with
    | nil => intro x hx; cases hx
    | cons x0 v0 =>
      have hx0 : ¬ pq_id O x0 < pq_id O k := by
        have hd : (r.dropWhile (fun x => decide (pq_id O x < pq_id O k))).head? = some x0 := by rw [hv, hv0]; rfl
        have := List.head?_dropWhile_not (p := fun x => decide (pq_id O x < pq_id O k)) (l := r)
        rw [hd] at this
        simpa using this
      have h0 : pq_id O k < pq_id O x0 := by
        have := hne x0 (by rw [e, hv0]; simp)
        omega
      intro x hx
      rcases List.mem_cons.mp hx with rfl | hx
      · exact h0
      · rw [e, List.pairwise_append, hv0, List.pairwise_cons] at hs
        have := hs.2.1.1 x hx
        omega
  rw [e, List.pairwise_append] at hs
  rw [List.pairwise_append, List.pairwise_cons]
  refine ⟨hs.1, ⟨hvid, hs.2.1⟩, fun a ha b hb => ?_⟩
  rcases List.mem_cons.mp hb with rfl | hb
  · exact hwid a ha
  · exact hs.2.2 a ha b hb
theorem pq_mk_ok {M : Nat} {O : pq_O} (hw : pq_wf M O) {kn : Nat → Nat} : ∀ c, pq_kn M O kn c →
    (∀ x, x ∈ pq_mk O kn c ↔ pq_so O x = 2 ∧ ∃ i, i < c ∧ kn i = x) ∧ (pq_mk O kn c).Pairwise (fun a b => pq_id O a < pq_id O b) := by
  intro c
  induction c with
  | zero =>
    intro _
    exact ⟨fun x => ⟨fun h => (by cases h), fun ⟨_, i, hi, _⟩ => by omega⟩, List.Pairwise.nil⟩
  | succ c ih =>
    intro hk
    have hk' : pq_kn M O kn c := ⟨fun i hi => hk.1 i (by omega), fun i j hi hj => hk.2.1 i j (by omega) (by omega), fun i hi => hk.2.2 i (by omega)⟩
    obtain ⟨hm, hs⟩ := ih hk'
    unfold pq_mk
    by_cases hso : pq_so O (kn c) = 2
    · rw [if_pos hso]
      refine ⟨fun x => ?_, pq_mins_sort hs fun x hx => ?_⟩
      · rw [pq_mins_mem, hm x]
        constructor
        · rintro (rfl | ⟨h1, i, hi, h2⟩)
          · exact ⟨hso, c, by omega, rfl⟩
          · exact ⟨h1, i, by omega, h2⟩
        · rintro ⟨h1, i, hi, h2⟩
          by_cases e : i = c
          · left; rw [← h2, e]
          · right; exact ⟨h1, i, by omega, h2⟩
      · obtain ⟨-, i, hi, rfl⟩ := (hm x).mp hx
        refine hw.2.2.1 _ _ (hk.1 i (by omega)) (hk.1 c (by omega)) (fun e => ?_)
        have := hk.2.1 i c (by omega) (by omega) e
        omega
    · rw [if_neg hso]
      refine ⟨fun x => ?_, hs⟩
      rw [hm x]
      constructor
      · rintro ⟨h1, i, hi, h2⟩; exact ⟨h1, i, by omega, h2⟩
      · rintro ⟨h1, i, hi, h2⟩
        by_cases e : i = c
        · rw [← h2, e] at h1; exact absurd h1 hso
        · exact ⟨h1, i, by omega, h2⟩
/-- does the marking m cover the letter l -/
def pq_cv (O : pq_O) (r : List Nat) (m l : Nat) : Bool :=
  (match pq_fi O m with | none => true | some f => decide (r.idxOf f ≤ r.idxOf l)) && (match pq_en O m with | none => true | some e => if pq_wh O m < 4 then decide (r.idxOf l < r.idxOf e) else decide (r.idxOf l ≤ r.idxOf e))
/-- has the letter l the kind, by the markings ms -/
def pq_hs (O : pq_O) (r : List Nat) (l kind : Nat) (ms : List Nat) : Bool := ms.foldl (fun b m => if (decide (pq_wh O m / 2 = kind) && pq_cv O r m l) = true then decide (pq_wh O m % 2 = 1) else b) false
def pq_b (b : Bool) : Nat := if b then 1 else 0
def pq_fm (O : pq_O) (r : List Nat) (l : Nat) (ms : List Nat) : Nat := pq_b (pq_hs O r l 0 ms) + 2 * pq_b (pq_hs O r l 1 ms) + 4 * pq_b (pq_hs O r l 2 ms) + 8 * pq_b (pq_hs O r l 3 ms)
theorem pq_b_le (b : Bool) : pq_b b ≤ 1 := by cases b <;> simp [pq_b]
theorem pq_fm_lt (O : pq_O) (r : List Nat) (l : Nat) (ms : List Nat) : pq_fm O r l ms < 16 := by
  unfold pq_fm
  have h0 := pq_b_le (pq_hs O r l 0 ms)
  have h1 := pq_b_le (pq_hs O r l 1 ms)
  have h2 := pq_b_le (pq_hs O r l 2 ms)
  have h3 := pq_b_le (pq_hs O r l 3 ms)
  omega
theorem pq_fold_none {c : Nat → Bool} {g : Nat → Bool} : ∀ (ms : List Nat) (d : Bool), (∀ m ∈ ms, c m = false) → ms.foldl (fun b m => if c m = true then g m else b) d = d
  | [], _, _ => rfl
  | m :: ms, d, h => by
    rw [List.foldl_cons, if_neg (by rw [h m (by simp)]; decide)]
    exact pq_fold_none ms d (fun x hx => h x (by simp [hx]))
theorem pq_fold_last {ids : Nat → Nat} {c : Nat → Bool} {g : Nat → Bool} : ∀ (ms : List Nat) (d : Bool) (b : Nat), ms.Pairwise (fun a b => ids a < ids b) → b ∈ ms → c b = true → (∀ m ∈ ms, c m = true → ids m ≤ ids b) → ms.foldl (fun b m => if c m = true then g m else b) d = g b
  | [], _, _, _, h, _, _ => by cases h
  | m :: ms, d, b, hs, hb, hc, hm => by
    rw [List.foldl_cons]
    rw [List.pairwise_cons] at hs
    rcases List.mem_cons.mp hb with rfl | hb
    · rw [if_pos hc]
      refine pq_fold_none ms _ (fun x hx => ?_)
      cases hcx : c x with
      | false => rfl
      | true =>
        have h1 := hs.1 x hx
        have h2 := hm x (by simp [hx]) hcx
        omega
    · exact pq_fold_last ms _ b hs.2 hb hc (fun x hx => hm x (by simp [hx]))
/-- the greatest id decides -/
theorem pq_hs_best {M : Nat} {O : pq_O} (hw : pq_wf M O) {kn : Nat → Nat} {c : Nat} (hk : pq_kn M O kn c) (r : List Nat) (l kind : Nat) :
    pq_hs O r l kind (pq_mk O kn c) = (match pq_best (pq_id O) (fun k => (pq_kw kn c k && pq_so O k == 2) && decide (pq_wh O k / 2 = kind) && pq_cv O r k l) M with | none => false | some b => decide (pq_wh O b % 2 = 1)) := by
  obtain ⟨hm, hs⟩ := pq_mk_ok hw c hk
  obtain ⟨h1, h2⟩ := pq_best_spec (pq_id O) (fun k => (pq_kw kn c k && pq_so O k == 2) && decide (pq_wh O k / 2 = kind) && pq_cv O r k l) M
  have hmem : ∀ x, x ∈ pq_mk O kn c → x < M ∧ (pq_kw kn c x && pq_so O x == 2) = true := by
    intro x hx
    obtain ⟨g1, i, hi, g2⟩ := (hm x).mp hx
    refine ⟨by rw [← g2]; exact hk.1 i hi, ?_⟩
    rw [Bool.and_eq_true, pq_kw_iff, beq_iff_eq]
    exact ⟨⟨i, hi, g2⟩, g1⟩
  unfold pq_hs
  cases hb : pq_best (pq_id O) (fun k => (pq_kw kn c k && pq_so O k == 2) && decide (pq_wh O k / 2 = kind) && pq_cv O r k l) M with
  | none =>
    refine pq_fold_none (c := fun m => decide (pq_wh O m / 2 = kind) && pq_cv O r m l) (g := fun m => decide (pq_wh O m % 2 = 1)) _ _ (fun m hmm => ?_)
    obtain ⟨g1, g2⟩ := hmem m hmm
    have := h2 hb m g1
    simp only [g2, Bool.true_and] at this
    exact this
  | some b =>
    obtain ⟨g1, g2, g3⟩ := h1 b hb
    simp only [Bool.and_eq_true, decide_eq_true_eq, beq_iff_eq] at g2
    obtain ⟨⟨⟨g4, g5⟩, g6⟩, g7⟩ := g2
    obtain ⟨i, hi, g8⟩ := (pq_kw_iff kn b c).mp g4
    refine pq_fold_last (ids := pq_id O) (c := fun m => decide (pq_wh O m / 2 = kind) && pq_cv O r m l) (g := fun m => decide (pq_wh O m % 2 = 1)) _ _ b hs ((hm b).mpr ⟨g5, i, hi, g8⟩) (by simp [g6, g7]) (fun m hmm hc => ?_)
    obtain ⟨e1, e2⟩ := hmem m hmm
    refine g3 m e1 ?_
    simp only [e2, Bool.true_and]
    exact hc
end
section
/-! The state of the whole: how many were made, the operations, what each page knows, how many. -/
abbrev pq_S : Type := Nat × pq_O × (Nat → Nat → Nat) × (Nat → Nat)
def pq_ok (S : pq_S) : Prop := S.1 ≤ 90 ∧ pq_wf S.1 S.2.1 ∧ (∀ j, j < 3 → pq_kn S.1 S.2.1 (S.2.2.1 j) (S.2.2.2 j)) ∧ ∀ k, k < S.1 → ∃ i, i < S.2.2.2 (pq_pg S.2.1 k) ∧ S.2.2.1 (pq_pg S.2.1 k) i = k
theorem pq_php : ∀ (M c : Nat) (f : Nat → Nat), (∀ i, i < c → f i < M) → (∀ i j, i < c → j < c → f i = f j → i = j) → c ≤ M
  | 0, c, f, h, _ => by
    rcases Nat.eq_zero_or_pos c with h0 | h0
    · omega
    · have := h 0 h0; omega
  | M + 1, c, f, h, hi => by
    by_cases hx : ∃ i, i < c ∧ f i = M
    · obtain ⟨i0, h0, h1⟩ := hx
      have := pq_php M (c - 1) (fun i => if i < i0 then f i else f (i + 1)) (fun i hic => by
        show (if i < i0 then f i else f (i + 1)) < M
        split
        · have a := h i (by omega)
          have b : f i ≠ M := fun e => by have := hi i i0 (by omega) h0 (by rw [e, h1]); omega
          omega
        · have a := h (i + 1) (by omega)
          have b : f (i + 1) ≠ M := fun e => by have := hi (i + 1) i0 (by omega) h0 (by rw [e, h1]); omega
          omega) (fun i j hic hjc he => by
        have he : (if i < i0 then f i else f (i + 1)) = (if j < i0 then f j else f (j + 1)) := he
        split at he <;> split at he
        · exact hi i j (by omega) (by omega) he
        · have := hi i (j + 1) (by omega) (by omega) he; omega
        · have := hi (i + 1) j (by omega) (by omega) he; omega
        · have := hi (i + 1) (j + 1) (by omega) (by omega) he; omega)
      omega
    · have := pq_php M c f (fun i hic => by
        have a := h i hic
        have b : f i ≠ M := fun e => hx ⟨i, hic, e⟩
        omega) hi
      omega
theorem pq_kn_le {M : Nat} {O : pq_O} {kn : Nat → Nat} {c : Nat} (h : pq_kn M O kn c) : c ≤ M := pq_php M c kn h.1 h.2.1
/-- a page learns -/
def pq_lrn (S : pq_S) (j k : Nat) : pq_S := (S.1, S.2.1, fun a i => if a = j ∧ i = S.2.2.2 j then k else S.2.2.1 a i, fun a => if a = j then S.2.2.2 j + 1 else S.2.2.2 a)
/-- an operation is made (nobody knows it yet) -/
def pq_add (S : pq_S) (o : Nat × Nat × Nat × Option Nat × Option Nat × Nat × Int32) : pq_S := (S.1 + 1, fun k => if k = S.1 then o else S.2.1 k, S.2.2.1, S.2.2.2)
/-- rows and the rest don't look at what isn't known -/
theorem pq_row_ext {O O' : pq_O} {kn kn' : Nat → Nat} : ∀ c, (∀ i, i < c → kn' i = kn i) → (∀ i, i < c → O' (kn i) = O (kn i)) → (∀ i, i < c → ∀ p, pq_fi O (kn i) = some p → ∃ j, j < i ∧ kn j = p) → pq_row O' kn' c = pq_row O kn c := by
  intro c
  induction c with
  | zero => intro _ _ _; rfl
  | succ c ih =>
    intro h1 h2 h3
    have e := ih (fun i hi => h1 i (by omega)) (fun i hi => h2 i (by omega)) (fun i hi => h3 i (by omega))
    have hmem : ∀ c0, c0 ≤ c → ∀ x ∈ pq_row O kn c0, ∃ i, i < c0 ∧ kn i = x := by
      intro c0
      induction c0 with
      | zero => intro _ x hx; cases hx
      | succ c0 ih0 =>
        intro hc0 x hx
        unfold pq_row at hx
        split at hx
        · rcases pq_ins_mem.mp hx with rfl | hx
          · exact ⟨c0, by omega, rfl⟩
          · obtain ⟨i, hi, hix⟩ := ih0 (by omega) x hx
            exact ⟨i, by omega, hix⟩
        · obtain ⟨i, hi, hix⟩ := ih0 (by omega) x hx
          exact ⟨i, by omega, hix⟩
    unfold pq_row
    rw [h1 c (by omega), e]
    have ec : O' (kn c) = O (kn c) := h2 c (by omega)
    have eso : pq_so O' (kn c) = pq_so O (kn c) := by unfold pq_so; rw [ec]
    rw [eso]
    split
    · have eid : ∀ x ∈ pq_row O kn c, pq_id O' x = pq_id O x := by
        intro x hx
        obtain ⟨i, hi, rfl⟩ := hmem c (Nat.le_refl _) x hx
        unfold pq_id pq_tm pq_pg
        rw [h2 i (by omega)]
      have eidc : pq_id O' (kn c) = pq_id O (kn c) := by unfold pq_id pq_tm pq_pg; rw [ec]
      have est : pq_st O' (pq_row O kn c) (kn c) = pq_st O (pq_row O kn c) (kn c) := by
        unfold pq_st pq_fi
        rw [ec]
      unfold pq_ins
      rw [est, eidc]
      have et : ∀ l : List Nat, (∀ x ∈ l, x ∈ pq_row O kn c) → l.takeWhile (fun x => decide (pq_id O (kn c) < pq_id O' x)) = l.takeWhile (fun x => decide (pq_id O (kn c) < pq_id O x)) ∧ l.dropWhile (fun x => decide (pq_id O (kn c) < pq_id O' x)) = l.dropWhile (fun x => decide (pq_id O (kn c) < pq_id O x)) := by
        intro l
        induction l with
        | nil => intro _; exact ⟨rfl, rfl⟩
        | cons a l ihl =>
          intro hl
          have ea := eid a (hl a (by simp))
          obtain ⟨i1, i2⟩ := ihl (fun x hx => hl x (by simp [hx]))
          rw [List.takeWhile_cons, List.takeWhile_cons, List.dropWhile_cons, List.dropWhile_cons, ea, i1, i2]
          exact ⟨rfl, rfl⟩
      obtain ⟨e1, e2⟩ := et ((pq_row O kn c).drop (pq_st O (pq_row O kn c) (kn c))) (fun x hx => List.mem_of_mem_drop hx)
      rw [e1, e2]
    · rfl
theorem pq_kw_ext {kn kn' : Nat → Nat} (k : Nat) : ∀ c, (∀ i, i < c → kn' i = kn i) → pq_kw kn' c k = pq_kw kn c k
  | 0, _ => rfl
  | c + 1, h => by
    unfold pq_kw
    rw [pq_kw_ext k c (fun i hi => h i (by omega)), h c (by omega)]
theorem pq_gn_ext {O O' : pq_O} {kn kn' : Nat → Nat} (k : Nat) : ∀ c, (∀ i, i < c → kn' i = kn i) → (∀ i, i < c → O' (kn i) = O (kn i)) → pq_gn O' kn' c k = pq_gn O kn c k
  | 0, _, _ => rfl
  | c + 1, h, h2 => by
    unfold pq_gn
    rw [pq_gn_ext k c (fun i hi => h i (by omega)) (fun i hi => h2 i (by omega)), h c (by omega)]
    unfold pq_so pq_fi
    rw [h2 c (by omega)]
theorem pq_mx_ext {O O' : pq_O} {kn kn' : Nat → Nat} : ∀ c, (∀ i, i < c → kn' i = kn i) → (∀ i, i < c → O' (kn i) = O (kn i)) → pq_mx O' kn' c = pq_mx O kn c
  | 0, _, _ => rfl
  | c + 1, h, h2 => by
    unfold pq_mx
    rw [pq_mx_ext c (fun i hi => h i (by omega)) (fun i hi => h2 i (by omega)), h c (by omega)]
    unfold pq_tm
    rw [h2 c (by omega)]
theorem pq_wf_add {S : pq_S} {o : Nat × Nat × Nat × Option Nat × Option Nat × Nat × Int32} (h : pq_wf S.1 S.2.1) (hf : ∀ p, o.2.2.2.1 = some p → p < S.1 ∧ pq_so S.2.1 p = 0 ∧ pq_id S.2.1 p < 4 * o.2.1 + o.2.2.1) (he : ∀ p, o.2.2.2.2.1 = some p → p < S.1 ∧ pq_so S.2.1 p = 0)
    (hid : ∀ k, k < S.1 → pq_id S.2.1 k ≠ 4 * o.2.1 + o.2.2.1) (ht : 1 ≤ o.2.1 ∧ o.2.1 ≤ S.1 + 1 ∧ o.2.2.1 < 3 ∧ o.1 < 3 ∧ o.2.2.2.2.2.1 < 8) (hs : o.1 = 0 ∨ ∃ p, o.2.2.2.1 = some p) : pq_wf (pq_add S o).1 (pq_add S o).2.1 := by
  obtain ⟨w1, w2, w3, w4, w5⟩ := h
  have eo : ∀ k, k < S.1 → (pq_add S o).2.1 k = S.2.1 k := fun k hk => by show (if k = S.1 then o else S.2.1 k) = _; rw [if_neg (by omega)]
  have en : (pq_add S o).2.1 S.1 = o := by show (if S.1 = S.1 then o else S.2.1 S.1) = _; rw [if_pos rfl]
  have eid : ∀ k, k < S.1 → pq_id (pq_add S o).2.1 k = pq_id S.2.1 k := fun k hk => by unfold pq_id pq_tm pq_pg; rw [eo k hk]
  have eidn : pq_id (pq_add S o).2.1 S.1 = 4 * o.2.1 + o.2.2.1 := by unfold pq_id pq_tm pq_pg; rw [en]
  have cases2 : ∀ k, k < (pq_add S o).1 → k < S.1 ∨ k = S.1 := fun k hk => by have : k < S.1 + 1 := hk; omega
  refine ⟨fun k hk p hp => ?_, fun k hk p hp => ?_, fun j k hj hk hjk => ?_, fun k hk => ?_, fun k hk => ?_⟩
  · rcases cases2 k hk with h | rfl
    · have hp' : pq_fi S.2.1 k = some p := by unfold pq_fi at hp ⊢; rw [eo k h] at hp; exact hp
      obtain ⟨a, b, c⟩ := w1 k h p hp'
      exact ⟨a, by unfold pq_so; rw [eo p (by omega)]; exact b, by rw [eid p (by omega), eid k h]; exact c⟩
    · have hp' : o.2.2.2.1 = some p := by unfold pq_fi at hp; rw [en] at hp; exact hp
      obtain ⟨a, b, c⟩ := hf p hp'
      exact ⟨a, by unfold pq_so; rw [eo p a]; exact b, by rw [eid p a, eidn]; exact c⟩
  · rcases cases2 k hk with h | rfl
    · have hp' : pq_en S.2.1 k = some p := by unfold pq_en at hp ⊢; rw [eo k h] at hp; exact hp
      obtain ⟨a, b⟩ := w2 k h p hp'
      exact ⟨a, by unfold pq_so; rw [eo p (by omega)]; exact b⟩
    · have hp' : o.2.2.2.2.1 = some p := by unfold pq_en at hp; rw [en] at hp; exact hp
      obtain ⟨a, b⟩ := he p hp'
      exact ⟨a, by unfold pq_so; rw [eo p a]; exact b⟩
  · rcases cases2 j hj with h | rfl <;> rcases cases2 k hk with h' | h'
    · rw [eid j h, eid k h']; exact w3 j k h h' hjk
    · subst h'; rw [eid j h, eidn]; exact hid j h
    · rw [eid k h', eidn]; exact fun e => hid k h' e.symm
    · exact absurd h'.symm hjk
  · rcases cases2 k hk with h | rfl
    · have := w4 k h
      unfold pq_tm pq_pg pq_so pq_wh
      rw [eo k h]; exact this
    · unfold pq_tm pq_pg pq_so pq_wh
      rw [en]; exact ht
  · rcases cases2 k hk with h | rfl
    · have := w5 k h
      unfold pq_so pq_fi
      rw [eo k h]; exact this
    · unfold pq_so pq_fi
      rw [en]; exact hs
/-- a page learns what it does not know, and knows what it speaks of -/
theorem pq_lrn_kn {S : pq_S} {j k : Nat} (hk : pq_kn S.1 S.2.1 (S.2.2.1 j) (S.2.2.2 j)) (hM : k < S.1) (hn : ∀ i, i < S.2.2.2 j → S.2.2.1 j i ≠ k) (hp : ∀ p, (pq_fi S.2.1 k = some p ∨ pq_en S.2.1 k = some p) → ∃ i, i < S.2.2.2 j ∧ S.2.2.1 j i = p) :
    pq_kn (pq_lrn S j k).1 (pq_lrn S j k).2.1 ((pq_lrn S j k).2.2.1 j) ((pq_lrn S j k).2.2.2 j) := by
  have ec : (pq_lrn S j k).2.2.2 j = S.2.2.2 j + 1 := by simp [pq_lrn]
  have e1 : ∀ i, i < S.2.2.2 j → (pq_lrn S j k).2.2.1 j i = S.2.2.1 j i := fun i hi => by
    show (if j = j ∧ i = S.2.2.2 j then k else S.2.2.1 j i) = _
    rw [if_neg (by omega)]
  have e2 : (pq_lrn S j k).2.2.1 j (S.2.2.2 j) = k := by
    show (if j = j ∧ S.2.2.2 j = S.2.2.2 j then k else _) = _
    rw [if_pos ⟨rfl, rfl⟩]
  rw [ec]
  refine ⟨fun i hi => ?_, fun a b ha hb he => ?_, fun i hi p hpp => ?_⟩
  · rcases Nat.lt_succ_iff_lt_or_eq.mp hi with h | rfl
    · rw [e1 i h]; exact hk.1 i h
    · rw [e2]; exact hM
  · rcases Nat.lt_succ_iff_lt_or_eq.mp ha with h | rfl <;> rcases Nat.lt_succ_iff_lt_or_eq.mp hb with h' | h'
    · rw [e1 a h, e1 b h'] at he; exact hk.2.1 a b h h' he
    · subst h'; rw [e1 a h, e2] at he; exact absurd he (hn a h)
    · rw [e2, e1 b h'] at he; exact absurd he.symm (hn b h')
    · exact h'.symm
  · rcases Nat.lt_succ_iff_lt_or_eq.mp hi with h | rfl
    · rw [e1 i h] at hpp
      obtain ⟨q, hq, hqp⟩ := hk.2.2 i h p hpp
      exact ⟨q, hq, by rw [e1 q (by omega)]; exact hqp⟩
    · rw [e2] at hpp
      obtain ⟨q, hq, hqp⟩ := hp p hpp
      exact ⟨q, hq, by rw [e1 q hq]; exact hqp⟩
end
section
/-! Runs: f p is the format at place p, n the length of the text. -/
def pq_bg (f : Nat → Nat) (p : Nat) : Bool := p == 0 || f p != f (p - 1)
def pq_ru (f : Nat → Nat) : Nat → Nat
  | 0 => 0
  | p + 1 => pq_ru f p + (if pq_bg f p then 1 else 0)
theorem pq_ru_le (f : Nat → Nat) : ∀ p, pq_ru f p ≤ p
  | 0 => Nat.le_refl _
  | p + 1 => by
    unfold pq_ru
    have := pq_ru_le f p
    split <;> omega
theorem pq_ru_mono (f : Nat → Nat) (a : Nat) : ∀ b, a ≤ b → pq_ru f a ≤ pq_ru f b
  | 0, h => by have : a = 0 := by omega
               subst this; exact Nat.le_refl _
  | b + 1, h => by
    by_cases e : a = b + 1
    · rw [e]; exact Nat.le_refl _
    · have := pq_ru_mono f a b (by omega)
      have e : pq_ru f (b + 1) = pq_ru f b + (if pq_bg f b then 1 else 0) := rfl
      rw [e]
      omega
theorem pq_ru_pos (f : Nat → Nat) {p : Nat} (h : 0 < p) : 0 < pq_ru f p := by
  have := pq_ru_mono f 1 p h
  have e : pq_ru f 1 = 1 := by simp [pq_ru, pq_bg]
  omega
/-- the start of run k: the first place whose run is k or later; n if there is none -/
def pq_sr (f : Nat → Nat) (k : Nat) : Nat → Nat
  | 0 => 0
  | n + 1 => if pq_ru f (n + 1) ≤ k then n + 1 else pq_sr f k n
theorem pq_sr_le (f : Nat → Nat) (k : Nat) : ∀ n, pq_sr f k n ≤ n
  | 0 => Nat.le_refl _
  | n + 1 => by
    unfold pq_sr
    have := pq_sr_le f k n
    split <;> omega
/-- places ahead of it belong to earlier runs, those behind it to k or later ones -/
theorem pq_sr_spec (f : Nat → Nat) (k : Nat) : ∀ n p, p < n → (p < pq_sr f k n ↔ pq_ru f (p + 1) ≤ k)
  | 0, p, h => by omega
  | n + 1, p, h => by
    unfold pq_sr
    split
    · rename_i h1
      have := pq_ru_mono f (p + 1) (n + 1) (by omega)
      constructor
      · intro _; omega
      · intro _; exact h
    · rename_i h1
      have hle := pq_sr_le f k n
      by_cases e : p = n
      · subst e
        constructor
        · intro _; omega
        · intro _; omega
      · exact pq_sr_spec f k n p (by omega)
theorem pq_sr_eq {f : Nat → Nat} {k n q : Nat} (hq : q ≤ n) (h1 : ∀ p, p < q → pq_ru f (p + 1) ≤ k) (h2 : ∀ p, q ≤ p → p < n → ¬ pq_ru f (p + 1) ≤ k) : pq_sr f k n = q := by
  have hle := pq_sr_le f k n
  rcases Nat.lt_trichotomy (pq_sr f k n) q with h | h | h
  · have := (pq_sr_spec f k n (pq_sr f k n) (by omega)).mpr (h1 _ h)
    omega
  · exact h
  · exact absurd ((pq_sr_spec f k n q (by omega)).mp h) (h2 q (Nat.le_refl _) (by omega))
/-- a place starts run k just if it is where k starts -/
theorem pq_sr_bg {f : Nat → Nat} {k n p : Nat} (hp : p < n) (hb : pq_bg f p = true) (hr : pq_ru f p = k) : pq_sr f k n = p := by
  refine pq_sr_eq (by omega) (fun q hq => ?_) (fun q hq _ => ?_)
  · have := pq_ru_mono f (q + 1) p (by omega)
    omega
  · have := pq_ru_mono f (p + 1) (q + 1) (by omega)
    have e : pq_ru f (p + 1) = pq_ru f p + 1 := by
      show pq_ru f p + (if pq_bg f p then 1 else 0) = _
      rw [hb]; rfl
    omega
/-- how many places are in run k -/
def pq_mn (f : Nat → Nat) (k : Nat) : Nat → Nat
  | 0 => 0
  | n + 1 => pq_mn f k n + (if pq_ru f (n + 1) = k + 1 then 1 else 0)
theorem pq_mn_eq (f : Nat → Nat) (k : Nat) : ∀ n, pq_mn f k n = pq_sr f (k + 1) n - pq_sr f k n
  | 0 => rfl
  | n + 1 => by
    have ih := pq_mn_eq f k n
    have l1 := pq_sr_le f k n
    have l2 := pq_sr_le f (k + 1) n
    have hx : pq_sr f k n ≤ pq_sr f (k + 1) n := by
      rcases Nat.lt_or_ge (pq_sr f (k + 1) n) (pq_sr f k n) with h | h
      · have h1 := (pq_sr_spec f k n (pq_sr f (k + 1) n) (by omega)).mp h
        have h2 := (pq_sr_spec f (k + 1) n (pq_sr f (k + 1) n) (by omega)).mpr (by omega)
        omega
      · exact h
    have full : ∀ j, pq_ru f (n + 1) ≤ j → pq_sr f j n = n := by
      intro j hj
      refine pq_sr_eq (Nat.le_refl _) (fun p hp => ?_) (fun p hp hp2 => by omega)
      have := pq_ru_mono f (p + 1) (n + 1) (by omega)
      omega
    unfold pq_mn pq_sr
    by_cases c1 : pq_ru f (n + 1) ≤ k
    · rw [if_pos c1, if_neg (show ¬ pq_ru f (n + 1) = k + 1 by omega), if_pos (show pq_ru f (n + 1) ≤ k + 1 by omega), ih, full k c1, full (k + 1) (by omega)]
      omega
    · rw [if_neg c1]
      by_cases c2 : pq_ru f (n + 1) = k + 1
      · rw [if_pos c2, if_pos (show pq_ru f (n + 1) ≤ k + 1 by omega), ih, full (k + 1) (by omega)]
        omega
      · rw [if_neg c2, if_neg (show ¬ pq_ru f (n + 1) ≤ k + 1 by omega), ih]
        omega
end
section
/-! My own layer: one abstract heap (kinds, contents, size; its cells lie from G.1 on), a judgement mp_W over it, a contract mp_M whose end may be a throw. -/
abbrev mp_H : Type := (Nat → Nat × Nat) × (Nat → Nat → Value) × Nat
/-- base address, heap below it, classes and slots, array classes, exception classes -/
abbrev mp_G : Type := Nat × Heap × va_G × (Nat → ClassId) × (Nat → ClassId)
abbrev mp_E : Type := Program × Launch × Env × Room × State × MethodId × Array Value × List Frame × Method × Code
abbrev mp_E.p (E : mp_E) : Program := E.1
abbrev mp_E.l (E : mp_E) : Launch := E.2.1
abbrev mp_E.e (E : mp_E) : Env := E.2.2.1
abbrev mp_E.R (E : mp_E) : Room := E.2.2.2.1
abbrev mp_E.s (E : mp_E) : State := E.2.2.2.2.1
abbrev mp_E.m (E : mp_E) : MethodId := E.2.2.2.2.2.1
abbrev mp_E.args (E : mp_E) : Array Value := E.2.2.2.2.2.2.1
abbrev mp_E.below (E : mp_E) : List Frame := E.2.2.2.2.2.2.2.1
abbrev mp_E.meth (E : mp_E) : Method := E.2.2.2.2.2.2.2.2.1
abbrev mp_E.c (E : mp_E) : Code := E.2.2.2.2.2.2.2.2.2
def mp_set (h : mp_H) (o i : Nat) (v : Value) : mp_H := (h.1, fun a j => if a = o ∧ j = i then v else h.2.1 a j, h.2.2)
def mp_new (h : mp_H) (k n : Nat) (f : Nat → Value) : mp_H := (fun a => if a = h.2.2 then (k, n) else h.1 a, fun a j => if a = h.2.2 then f j else h.2.1 a j, h.2.2 + 1)
theorem mp_set_kd (h : mp_H) (o i : Nat) (v : Value) : (mp_set h o i v).1 = h.1 := rfl
theorem mp_set_sz (h : mp_H) (o i : Nat) (v : Value) : (mp_set h o i v).2.2 = h.2.2 := rfl
theorem mp_set_at (h : mp_H) (o i : Nat) (v : Value) : (mp_set h o i v).2.1 o i = v := by simp [mp_set]
theorem mp_set_ne (h : mp_H) {o i : Nat} (v : Value) {a j : Nat} (hn : ¬ (a = o ∧ j = i)) : (mp_set h o i v).2.1 a j = h.2.1 a j := by simp [mp_set, hn]
/-- a cell of the heap is of a kind and holds f -/
def mp_cell (G : mp_G) (k : Nat × Nat) (f : Nat → Value) (o : Nat) (H : Heap) : Prop :=
  if k.1 < 10 then t_OB (G.1 + o) (G.2.2.1.1 k.1) k.2 (G.2.2.1.2 k.1) H f
  else if k.1 < 20 then H[G.1 + o]? = some (arrV (G.2.2.2.1 (k.1 - 10)) k.2 f)
  else ∃ cell : Cell, H[G.1 + o]? = some cell ∧ cell.cls = G.2.2.2.2 (k.1 - 20) ∧ cell.vm = .none
def mp_R (G : mp_G) (h : mp_H) (H : Heap) : Prop := G.1 + h.2.2 = H.size ∧ (∀ q, q < G.1 → H[q]? = G.2.1[q]?) ∧ ∀ o, o < h.2.2 → mp_cell G (h.1 o) (h.2.1 o) o H
theorem mp_cell.obj {G : mp_G} {k n : Nat} {f : Nat → Value} {o : Nat} {H : Heap} (h : mp_cell G (k, n) f o H) (hk : k < 10) : t_OB (G.1 + o) (G.2.2.1.1 k) n (G.2.2.1.2 k) H f := by
  unfold mp_cell at h
  rw [if_pos hk] at h
  exact h
theorem mp_cell.arr {G : mp_G} {t n : Nat} {f : Nat → Value} {o : Nat} {H : Heap} (h : mp_cell G (10 + t, n) f o H) (ht : t < 10) : H[G.1 + o]? = some (arrV (G.2.2.2.1 t) n f) := by
  unfold mp_cell at h
  rw [if_neg (by show ¬ 10 + t < 10; omega), if_pos (by show 10 + t < 20; omega)] at h
  rw [h]
  show some (arrV (G.2.2.2.1 (10 + t - 10)) n f) = _
  rw [show 10 + t - 10 = t by omega]
theorem mp_cell.kept {G : mp_G} {k : Nat × Nat} {f : Nat → Value} {o : Nat} {H H1 : Heap} (h : mp_cell G k f o H) (hq : H1[G.1 + o]? = H[G.1 + o]?) : mp_cell G k f o H1 := by
  unfold mp_cell at h ⊢
  split
  · rename_i h1
    rw [if_pos h1] at h
    exact h.kept hq
  · rename_i h1
    rw [if_neg h1] at h
    split
    · rename_i h2
      rw [if_pos h2] at h
      rw [hq]; exact h
    · rename_i h2
      rw [if_neg h2] at h
      obtain ⟨cell, e1, e2⟩ := h
      exact ⟨cell, by rw [hq]; exact e1, e2⟩
/-- a store into one cell -/
theorem mp_R.put {G : mp_G} {h : mp_H} {H H1 : Heap} {o i : Nat} {v : Value} (hR : mp_R G h H) (z : H1.size = H.size) (oq : ∀ q, q ≠ G.1 + o → H1[q]? = H[q]?) (hc : mp_cell G (h.1 o) (updV (h.2.1 o) i v) o H1) : mp_R G (mp_set h o i v) H1 := by
  obtain ⟨h1, h2, h3⟩ := hR
  refine ⟨by rw [z]; exact h1, fun q hq => by rw [oq q (by omega)]; exact h2 q hq, fun a ha => ?_⟩
  by_cases hao : a = o
  · subst hao
    have e : (mp_set h a i v).2.1 a = updV (h.2.1 a) i v := by
      funext j
      simp [mp_set, updV]
    rw [e]
    exact hc
  · have e : (mp_set h o i v).2.1 a = h.2.1 a := by
      funext j
      simp [mp_set, hao]
    rw [e]
    exact (h3 a ha).kept (oq _ (by omega))
/-- a new cell -/
theorem mp_R.push {G : mp_G} {h : mp_H} {H H1 : Heap} {k n : Nat} {f : Nat → Value} (hR : mp_R G h H) (z : H1.size = H.size + 1) (oq : ∀ q, q < H.size → H1[q]? = H[q]?) (hc : mp_cell G (k, n) f h.2.2 H1) : mp_R G (mp_new h k n f) H1 := by
  obtain ⟨h1, h2, h3⟩ := hR
  refine ⟨by rw [z, ← h1]; show G.1 + (h.2.2 + 1) = _; omega, fun q hq => by rw [oq q (by omega)]; exact h2 q hq, fun a ha => ?_⟩
  have ha' : a < h.2.2 + 1 := ha
  by_cases hao : a = h.2.2
  · have e1 : (mp_new h k n f).1 a = (k, n) := by simp [mp_new, hao]
    have e2 : (mp_new h k n f).2.1 a = f := by funext j; simp [mp_new, hao]
    rw [e1, e2, hao]
    exact hc
  · have e1 : (mp_new h k n f).1 a = h.1 a := by simp [mp_new, hao]
    have e2 : (mp_new h k n f).2.1 a = h.2.1 a := by funext j; simp [mp_new, hao]
    rw [e1, e2]
    exact (h3 a (by omega)).kept (oq _ (by omega))
/-- words that stay under warmer tables -/
def mp_okw : Cond → Bool
  | .arrayClass _ => true
  | .fieldLinkNest .. => true
  | .methodLinkNest .. => true
  | .declares _ => true
  | .castable .. => true
  | .arrayOver (.object _) => true
  | w => w.onTables && w.keeps
theorem mp_keep {w : Cond} (hk : mp_okw w = true) {args a' : Array Value} {s U : State} (hW : s.WarmedH U.vm) (h : w.before args s = true) : w.before a' U = true := by
  by_cases h1 : (w.onTables && w.keeps) = true
  · exact word_at hW (Or.inl h1) h
  · cases w with
    | arrayClass ty => exact word_at hW (Or.inr ⟨ty, rfl⟩) h
    | fieldLinkNest a i b n d h0 => exact va_Nw.use rfl (va_Nw.warmF hW (va_Nw.of rfl h))
    | methodLinkNest a i x h0 => exact va_Nw.use rfl (va_Nw.warmM hW (va_Nw.of rfl h))
    | declares x => exact va_Nw.use rfl (va_Nw.warmD hW (va_Nw.of rfl h))
    | castable C T => exact va_Nw.use rfl (va_Nw.warmC hW (va_Nw.of rfl h))
    | arrayOver ty =>
      cases ty with
      | object C => exact va_AO.use (va_AO.moved hW.alike (va_AO.of h))
      | _ => exact absurd hk h1
    | _ => exact absurd hk h1
def mp_rm (d mc ms : Nat) : Room := { frames := d, cells := mc, slots := ms, locals := 32 * d }
/-- the array types, by number -/
def mp_ty : Nat → FieldType
  | 0 => .int
  | 1 => .boolean
  | 2 => .char
  | 3 => .long
  | 4 => .object "MarkedPages$Page"
  | 5 => .object "MarkedPages$Operation"
  | 6 => .object "MarkedPages$Writing"
  | _ => .object "MarkedPages$Marking"
def mp_T (G : mp_G) : List (ClassId × FieldType) := [(G.2.2.2.1 0, mp_ty 0), (G.2.2.2.1 1, mp_ty 1), (G.2.2.2.1 2, mp_ty 2), (G.2.2.2.1 3, mp_ty 3), (G.2.2.2.1 4, mp_ty 4), (G.2.2.2.1 5, mp_ty 5), (G.2.2.2.1 6, mp_ty 6), (G.2.2.2.1 7, mp_ty 7)]
/-- the exceptions, by number -/
def mp_xn : Nat → String
  | 0 => "java/lang/IllegalArgumentException"
  | 1 => "java/lang/IndexOutOfBoundsException"
  | _ => "java/lang/IllegalStateException"
/-- words that look at the heap below the base -/
def mp_xw : List Cond := [.isRef (.static "java/lang/Throwable" "UNASSIGNED_STACK" "[Ljava/lang/StackTraceElement;"), .isRef (.static "java/lang/Throwable" "SUPPRESSED_SENTINEL" "Ljava/util/List;"), .laysStatic "java/lang/Throwable" "UNASSIGNED_STACK" "[Ljava/lang/StackTraceElement;", .laysStatic "java/lang/Throwable" "SUPPRESSED_SENTINEL" "Ljava/util/List;"]
def mp_X (G : mp_G) (U : State) : Prop := G.2.1.size = G.1 ∧ ∀ w ∈ mp_xw, w.before #[] ({ U with heap := G.2.1 } : State) = true
def mp_K (G : mp_G) (U : State) : Prop := va_K G.2.2.1 vwCl (mp_T G) U ∧ (∀ x, x < 3 → U.vm.findClass (mp_xn x) = some (G.2.2.2.2 x)) ∧ mp_X G U ∧ ∀ x z, x < 3 → z < 3 → x ≠ z → U.vm.assignable (G.2.2.2.2 x) (G.2.2.2.2 z) = false
theorem mp_X.moved {G : mp_G} {U V : State} (hal : U.vm.Alike V.vm) (h : mp_X G U) : mp_X G V := by
  refine ⟨h.1, fun w hw => ?_⟩
  have h1 := h.2 w hw
  have hs : w.steady = true := by
    simp only [mp_xw, List.mem_cons, List.not_mem_nil, or_false] at hw
    rcases hw with rfl | rfl | rfl | rfl <;> rfl
  have e := Cond.value_setVm₂ (args := #[]) (o := none) (s := ({ U with heap := G.2.1 } : State)) (vm₁ := V.vm) (vm' := V.vm) hal hal w [] hs
  have h2 : w.value #[] ({ U with heap := G.2.1 } : State) none ({ U with heap := G.2.1 } : State) [] = some true := by
    simpa [Cond.before, Cond.holds] using h1
  rw [h2] at e
  have h3 : w.value #[] ({ V with heap := G.2.1 } : State) none ({ V with heap := G.2.1 } : State) [] = some true := by
    rw [← e]
    simp only [mp_xw, List.mem_cons, List.not_mem_nil, or_false] at hw
    rcases hw with rfl | rfl | rfl | rfl <;> rfl
  simp [Cond.before, Cond.holds, h3]
theorem mp_K.moved {G : mp_G} {U V : State} (hal : U.vm.Alike V.vm) (h : mp_K G U) : mp_K G V :=
  ⟨h.1.moved hal, fun x hx => by rw [hal.findClass]; exact h.2.1 x hx, h.2.2.1.moved hal, fun x z hx hz hn => by rw [hal.assignable]; exact h.2.2.2 x z hx hz hn⟩
def mp_P (G : mp_G) (Pr : Option Value → mp_H → Prop) (Pt : Nat → mp_H → Prop) (o : Outcome) (h : mp_H) : Prop := match o with
  | .returned v => Pr v h
  | .threw a => ∃ q x, a = G.1 + q ∧ q < h.2.2 ∧ h.1 q = (20 + x, 0) ∧ x < 3 ∧ Pt x h
def mp_F (G : mp_G) (mc ms : Nat) (st t : State) : Prop := st.WarmedH t.vm ∧ ∃ L, st.sameButNew ({ t with vm := st.vm } : State) L mc ms ∧ ∀ q ∈ L, G.1 ≤ q.base
/-- the end of a method -/
def mp_Q (G : mp_G) (E : mp_E) (mc ms : Nat) (Pr : Option Value → mp_H → Prop) (Pt : Nat → mp_H → Prop) : State → Prop := fun t =>
  ∃ o h, t.status = .running ∧ Ended t E.below o ∧ mp_F G mc ms E.s t ∧ mp_R G h t.heap ∧ mp_P G Pr Pt o h
/-- a contract: from h with these arguments, at most mc cells of ms slots; d frames deep -/
def mp_M (G : mp_G) (Ts : List Cond) (l : Launch) (y : MethodName) (d mc ms : Nat) (as : List Value) (h : mp_H) (Pr : Option Value → mp_H → Prop) (Pt : Nat → mp_H → Prop) : Prop :=
  MetFree l y (headSpec Ts (mp_rm d mc ms)) (fun a U => a = as.toArray ∧ mp_K G U ∧ mp_R G h U.heap) (fun _ _ _ _ _ => True)
    (fun _ st o t => mp_F G mc ms st t ∧ ∃ h', mp_R G h' t.heap ∧ mp_P G Pr Pt o h')
/-- a method's code, by the words -/
def mp_Y (Ts : List Cond) (y : MethodName) (cc : ByteArray) (nL : Nat) (rt : Option FieldType) (hh : List (Nat × Nat × Nat × Nat)) : Prop :=
  ∀ (args : Array Value) (s : State), (∀ w ∈ Ts, w.before args s = true) → ∃ (m : MethodId) (meth : Method) (c : Code), s.methodNamed? y = some m ∧ s.vm.method? m = some meth ∧ meth.code = some c ∧ c.code = cc ∧ c.maxLocals = nL ∧
    (c.exceptionTable.toList.map fun x => (x.startPc, x.endPc, x.handlerPc, x.catchType)) = hh ∧ meth.sig.returnType = rt ∧ meth.locks = false ∧ parseMethodDescriptor y.desc = some meth.sig
theorem mp_Y.of {Ts : List Cond} {y : MethodName} {cc : ByteArray} {nL : Nat} {rt : Option FieldType} (h : Cond.code y cc nL rt ∈ Ts) : mp_Y Ts y cc nL rt [] := by
  intro args s ht
  have hc := ht _ h
  obtain ⟨m, hn⟩ := Cond.code_named hc
  obtain ⟨meth, c, h1, h2, h3, h4, h5, h6, h7, h8⟩ := Cond.code_spec hn hc
  refine ⟨m, meth, c, hn, h1, h2, h3, h4, ?_, h5, h6, h8⟩
  have e : c.exceptionTable = #[] := Array.isEmpty_iff.mp h7
  rw [e]
  rfl
theorem mp_Y.ofWith {Ts : List Cond} {y : MethodName} {cc : ByteArray} {nL : Nat} {rt : Option FieldType} {hh : List (Nat × Nat × Nat × Nat)} (h : Cond.codeWith y cc nL rt hh ∈ Ts) : mp_Y Ts y cc nL rt hh := by
  intro args s ht
  obtain ⟨m, meth, c, h0, h1, h2, h3, h4, h5, h6, h7, h8⟩ := Cond.codeWith_spec (ht _ h)
  exact ⟨m, meth, c, h0, h1, h2, h3, h4, h5, h6, h7, h8⟩
/-- what a walk knows -/
def mp_C (G : mp_G) (Ts : List Cond) (E : mp_E) (y : MethodName) (cc : ByteArray) (nL : Nat) (rt : Option FieldType) (hh : List (Nat × Nat × Nat × Nat)) (d mc ms : Nat) : Prop :=
  E.p.tables.exec = Jvm.exec ∧ E.c.code = cc ∧ E.c.maxLocals = nL ∧ E.s.vm.findClass y.cls = some E.m.cls ∧ (∀ w ∈ Ts, w.before E.args E.s = true) ∧ mp_K G E.s ∧
    E.meth.sig.returnType = rt ∧ E.meth.locks = false ∧ (d ≤ E.R.frames ∧ 32 * d ≤ E.R.locals ∧ mc ≤ E.R.cells ∧ ms ≤ E.R.slots) ∧ (E.c.exceptionTable.toList.map fun x => (x.startPc, x.endPc, x.handlerPc, x.catchType)) = hh ∧ E.meth.name = y.name
/-- the judgement -/
def mp_W (G : mp_G) (E : mp_E) (h : mp_H) (cs sl : Nat) (Q : State → Prop) (pc : Nat) (L : List Slot) (st : List Value) : Prop :=
  ∀ (H : Heap) (locs : List Loc), mp_R G h H → (∀ q ∈ locs, G.1 ≤ q.base) → W E.p E.l E.e E.R E.s E.m E.args E.below E.meth E.c H locs cs sl Q (F0 E.m pc L.toArray st)
section MPC
variable {G : mp_G} {Ts : List Cond} {E : mp_E} {y : MethodName} {cc : ByteArray} {nL : Nat} {rt : Option FieldType} {hh : List (Nat × Nat × Nat × Nat)} {d mc ms : Nat}
theorem mp_C.own (X : mp_C G Ts E y cc nL rt hh d mc ms) : E.s.vm.findClass y.cls = some E.m.cls := X.2.2.2.1
theorem mp_C.hts (X : mp_C G Ts E y cc nL rt hh d mc ms) : ∀ w ∈ Ts, w.before E.args E.s = true := X.2.2.2.2.1
theorem mp_C.K (X : mp_C G Ts E y cc nL rt hh d mc ms) : mp_K G E.s := X.2.2.2.2.2.1
theorem mp_C.ret (X : mp_C G Ts E y cc nL rt hh d mc ms) : E.meth.sig.returnType = rt := X.2.2.2.2.2.2.1
theorem mp_C.locks (X : mp_C G Ts E y cc nL rt hh d mc ms) : E.meth.locks = false := X.2.2.2.2.2.2.2.1
theorem mp_C.room (X : mp_C G Ts E y cc nL rt hh d mc ms) : d ≤ E.R.frames ∧ 32 * d ≤ E.R.locals ∧ mc ≤ E.R.cells ∧ ms ≤ E.R.slots := X.2.2.2.2.2.2.2.2.1
theorem mp_C.exc (X : mp_C G Ts E y cc nL rt hh d mc ms) : (E.c.exceptionTable.toList.map fun x => (x.startPc, x.endPc, x.handlerPc, x.catchType)) = hh := X.2.2.2.2.2.2.2.2.2.1
theorem mp_C.nm (X : mp_C G Ts E y cc nL rt hh d mc ms) : E.meth.name = y.name := X.2.2.2.2.2.2.2.2.2.2
theorem mp_C.rc (X : mp_C G Ts E y cc nL rt hh d mc ms) {n : Nat} (h : n ≤ mc) : n ≤ E.R.cells := Nat.le_trans h X.room.2.2.1
theorem mp_C.rs (X : mp_C G Ts E y cc nL rt hh d mc ms) {n : Nat} (h : n ≤ ms) : n ≤ E.R.slots := Nat.le_trans h X.room.2.2.2
theorem mp_C.rf (X : mp_C G Ts E y cc nL rt hh d mc ms) {n : Nat} (h : n ≤ d) : n ≤ E.R.frames := Nat.le_trans h X.room.1
theorem mp_C.rl (X : mp_C G Ts E y cc nL rt hh d mc ms) {n : Nat} (h : n ≤ 32 * d) : n ≤ E.R.locals := Nat.le_trans h X.room.2.1
/-- a method's contract is its body's walk; the heap is the start's -/
theorem mp_enter0 {l : Launch} {as : List Value} {h : mp_H} {Pr : Option Value → mp_H → Prop} {Pt : Nat → mp_H → Prop} (hy : plainName y.cls = true) (hY : mp_Y Ts y cc nL rt hh)
    (body : ∀ E : mp_E, E.l = l → mp_C G Ts E y cc nL rt hh d mc ms → mp_R G h E.s.heap → W E.p E.l E.e E.R E.s E.m E.args E.below E.meth E.c E.s.heap [] 0 0 (mp_Q G E mc ms Pr Pt) (F0 E.m 0 (lg_sl as ++ List.replicate (nL - (lg_sl as).length) Slot.unset).toArray [])) : mp_M G Ts l y d mc ms as h Pr Pt := by
  refine MetFree.of_bodyS (code := cc) (maxLocals := nL) (ret := rt) hy ?_ ?_
  · intro args s m hp hn
    obtain ⟨m9, meth, c, h0, h1, h2, h3, h4, h5, h6, h7, h8⟩ := hY args s (atoms_spec (ws := Ts) hp)
    cases hn.symm.trans h0
    exact ⟨meth, c, h1, h2, h3, h4, h6, h7⟩
  · intro p e s m args below meth c s₁ B hml hP _
    obtain ⟨rfl, hK, hR⟩ := hP
    have hts := atoms_spec (ws := Ts) B.pre
    obtain ⟨m9, meth9, c9, h0, h1, h2, h3, h4, h5, h6, h7, h8⟩ := hY _ s hts
    cases B.named.symm.trans h0
    cases B.method.symm.trans h1
    cases (Stand.of_body B).code.symm.trans h2
    have w := body (p, l, e, (headSpec Ts (mp_rm d mc ms)).room, s, m, as.toArray, below, meth, c) rfl ⟨B.exec, B.bytes, hml, findClass_of_methodNamed B.named, hts, hK, B.returns, B.notSynchronized, ⟨Nat.le_refl _, Nat.le_refl _, Nat.le_refl _, Nat.le_refl _⟩, h5, (name_of_methodNamed B.named B.method).1⟩ hR
    have w2 : W p l e (headSpec Ts (mp_rm d mc ms)).room s m as.toArray below meth c s.heap [] 0 0 (mp_Q G (p, l, e, (headSpec Ts (mp_rm d mc ms)).room, s, m, as.toArray, below, meth, c) mc ms Pr Pt) (entryFrame m as.toArray nL) := by
      rw [lg_entry_eq]
      exact w
    obtain ⟨t, a1, o, h', b1, b2, b3, b4, b5⟩ := w2 s₁ (by rw [B.state]; rfl) (Stand.of_body B)
    exact ⟨t, o, a1, b1, b2, b3, h', b4, b5⟩
theorem mp_enter {l : Launch} {as : List Value} {h : mp_H} {Pr : Option Value → mp_H → Prop} {Pt : Nat → mp_H → Prop} (hy : plainName y.cls = true) (hY : mp_Y Ts y cc nL rt hh)
    (body : ∀ E : mp_E, E.l = l → mp_C G Ts E y cc nL rt hh d mc ms → mp_W G E h 0 0 (mp_Q G E mc ms Pr Pt) 0 (lg_sl as ++ List.replicate (nL - (lg_sl as).length) Slot.unset) []) : mp_M G Ts l y d mc ms as h Pr Pt :=
  mp_enter0 hy hY fun E hl X hR => body E hl X E.s.heap [] hR (fun q hq => by cases hq)
theorem mp_mono {p : Program} {l : Launch} {e : Env} {R : Room} {s : State} {m : MethodId} {args : Array Value} {below : List Frame} {meth : Method} {c : Code} {H : Heap} {locs : List Loc} {cells slots : Nat} {Q Q' : State → Prop} {g : JFrame} (hq : ∀ t, Q t → Q' t) (w : W p l e R s m args below meth c H locs cells slots Q g) : W p l e R s m args below meth c H locs cells slots Q' g := by
  intro T hT S
  obtain ⟨t, a, b⟩ := w T hT S
  exact ⟨t, a, hq t b⟩
variable {h : mp_H} {cs sl : Nat} {pc : Nat} {L : List Slot} {Pr : Option Value → mp_H → Prop} {Pt : Nat → mp_H → Prop}
theorem mp_MQ {E : mp_E} (t : State) (hq : MQ E.below (fun _ _ o t => ∃ h', mp_R G h' t.heap ∧ mp_P G Pr Pt o h') E.args E.s mc ms (fun q => G.1 ≤ q) t) : mp_Q G E mc ms Pr Pt t := by
  obtain ⟨o, r, en, ⟨h', hR, hP⟩, L, ⟨-, hW, hs⟩, hf⟩ := hq
  exact ⟨o, h', r, en, ⟨hW, L, hs, hf⟩, hR, hP⟩
theorem mp_iret (X : mp_C G Ts E y cc nL rt hh d mc ms) {v : Int32} {ty : FieldType} (hd : decode cc pc = .ok (.ireturn, 1)) (hr : rt = some ty) (hn : narrow ty (.int v) = .int v) (hc : cs ≤ mc) (hs : sl ≤ ms) (hp : Pr (some (.int v)) h) : mp_W G E h cs sl (mp_Q G E mc ms Pr Pt) pc L [.int v] := by
  intro H locs hR hl
  exact W.widen hc hs (mp_mono mp_MQ (W.zret (ty := ty) X.1 X.2.1 (by rw [X.ret, hr]) hn (fun t ht hW => ⟨h, by rw [ht]; exact hR, hp⟩) hl hd X.locks))
theorem mp_vret (X : mp_C G Ts E y cc nL rt hh d mc ms) (hd : decode cc pc = .ok (.return_, 1)) (hr : rt = none) (hc : cs ≤ mc) (hs : sl ≤ ms) (hp : Pr none h) : mp_W G E h cs sl (mp_Q G E mc ms Pr Pt) pc L [] := by
  intro H locs hR hl
  exact W.widen hc hs (mp_mono mp_MQ (W.vret X.1 X.2.1 (by rw [X.ret, hr]) (fun t ht hW => ⟨h, by rw [ht]; exact hR, hp⟩) hl hd X.locks))
theorem mp_aret (X : mp_C G Ts E y cc nL rt hh d mc ms) {v : Value} {n : String} (hd : decode cc pc = .ok (.areturn, 1)) (hr : rt = some (.object n)) (hv : v = .null ∨ ∃ a, v = .ref a) (hc : cs ≤ mc) (hs : sl ≤ ms) (hp : Pr (some v) h) : mp_W G E h cs sl (mp_Q G E mc ms Pr Pt) pc L [v] := by
  intro H locs hR hl
  exact W.widen hc hs (mp_mono mp_MQ (W.aret X.1 X.2.1 (by rw [X.ret, hr]) (Or.inl ⟨n, rfl⟩) hv (fun t ht hW => ⟨h, by rw [ht]; exact hR, hp⟩) hl hd X.locks))
theorem mp_eq {Q : State → Prop} {h2 : mp_H} {st st2 : List Value} {L2 : List Slot} (eh : h = h2) (eL : L = L2) (es : st = st2) (k : mp_W G E h2 cs sl Q pc L2 st2) : mp_W G E h cs sl Q pc L st := by
  subst eh; subst eL; subst es; exact k
end MPC
end
section
section MPR
variable {G : mp_G} {Ts : List Cond} {E : mp_E} {y : MethodName} {cc : ByteArray} {nL : Nat} {rt : Option FieldType} {hh : List (Nat × Nat × Nat × Nat)} {d mc ms : Nat} {h : mp_H} {cs sl : Nat} {Q : State → Prop} {pc : Nat} {L : List Slot} {st : List Value}
theorem mp_iconst (X : mp_C G Ts E y cc nL rt hh d mc ms) (pc' : Nat) {n : Int} {v : Int32} (hd : decode cc pc = .ok (.iconst n, 1)) (hp : pc + 1 = pc') (hv : Int32.ofInt n = v) (k : mp_W G E h cs sl Q pc' L (.int v :: st)) : mp_W G E h cs sl Q pc L (st) := by
  subst hp
  exact fun H locs hR hl => lv_iconst X.1 X.2.1 hd hv (k H locs hR hl)
theorem mp_bipush (X : mp_C G Ts E y cc nL rt hh d mc ms) (pc' : Nat) {n : Int} {v : Int32} (hd : decode cc pc = .ok (.bipush n, 2)) (hp : pc + 2 = pc') (hv : (Int8.ofInt n).toInt32 = v) (k : mp_W G E h cs sl Q pc' L (.int v :: st)) : mp_W G E h cs sl Q pc L (st) := by
  subst hp
  exact fun H locs hR hl => lv_bipush X.1 X.2.1 hd hv (k H locs hR hl)
theorem mp_sipush (X : mp_C G Ts E y cc nL rt hh d mc ms) (pc' : Nat) {n : Int} {v : Int32} (hd : decode cc pc = .ok (.sipush n, 3)) (hp : pc + 3 = pc') (hv : (Int16.ofInt n).toInt32 = v) (k : mp_W G E h cs sl Q pc' L (.int v :: st)) : mp_W G E h cs sl Q pc L (st) := by
  subst hp
  exact fun H locs hR hl => lv_sipush X.1 X.2.1 hd hv (k H locs hR hl)
theorem mp_lconst (X : mp_C G Ts E y cc nL rt hh d mc ms) (pc' : Nat) {n : Fin 2} {v : Int64} (hd : decode cc pc = .ok (.lconst n, 1)) (hp : pc + 1 = pc') (hv : Int64.ofNat (n : Nat) = v) (k : mp_W G E h cs sl Q pc' L (.long v :: st)) : mp_W G E h cs sl Q pc L (st) := by
  subst hp
  exact fun H locs hR hl => lv_lconst X.1 X.2.1 hd hv (k H locs hR hl)
theorem mp_null (X : mp_C G Ts E y cc nL rt hh d mc ms) (pc' : Nat)  (hd : decode cc pc = .ok (.aconst_null, 1)) (hp : pc + 1 = pc')  (k : mp_W G E h cs sl Q pc' L (.null :: st)) : mp_W G E h cs sl Q pc L (st) := by
  subst hp
  exact fun H locs hR hl => lv_null X.1 X.2.1 hd  (k H locs hR hl)
theorem mp_iload_n (X : mp_C G Ts E y cc nL rt hh d mc ms) (pc' : Nat) {k : Fin 4} {i : Nat} {x : Int32} (hd : decode cc pc = .ok (.iload_n k, 1)) (hi : (k : Nat) = i) (hp : pc + 1 = pc') (hl0 : L[i]? = some (.val (.int x))) (kk : mp_W G E h cs sl Q pc' L (.int x :: st)) : mp_W G E h cs sl Q pc L (st) := by
  subst hp
  exact fun H locs hR hl => lv_iload_n X.1 X.2.1 hd hi (by rw [List.getElem?_toArray]; exact hl0) (kk H locs hR hl)
theorem mp_iload (X : mp_C G Ts E y cc nL rt hh d mc ms) (pc' : Nat) {i : Nat} {x : Int32} (hd : decode cc pc = .ok (.iload i, 2)) (hp : pc + 2 = pc') (hl0 : L[i]? = some (.val (.int x))) (kk : mp_W G E h cs sl Q pc' L (.int x :: st)) : mp_W G E h cs sl Q pc L (st) := by
  subst hp
  exact fun H locs hR hl => lv_iload X.1 X.2.1 hd (by rw [List.getElem?_toArray]; exact hl0) (kk H locs hR hl)
theorem mp_aload_n (X : mp_C G Ts E y cc nL rt hh d mc ms) (pc' : Nat) {k : Fin 4} {i : Nat} {x : Nat} (hd : decode cc pc = .ok (.aload_n k, 1)) (hi : (k : Nat) = i) (hp : pc + 1 = pc') (hl0 : L[i]? = some (.val (.ref x))) (kk : mp_W G E h cs sl Q pc' L (.ref x :: st)) : mp_W G E h cs sl Q pc L (st) := by
  subst hp
  exact fun H locs hR hl => lv_aload_n X.1 X.2.1 hd hi (by rw [List.getElem?_toArray]; exact hl0) (kk H locs hR hl)
theorem mp_aload (X : mp_C G Ts E y cc nL rt hh d mc ms) (pc' : Nat) {i : Nat} {x : Nat} (hd : decode cc pc = .ok (.aload i, 2)) (hp : pc + 2 = pc') (hl0 : L[i]? = some (.val (.ref x))) (kk : mp_W G E h cs sl Q pc' L (.ref x :: st)) : mp_W G E h cs sl Q pc L (st) := by
  subst hp
  exact fun H locs hR hl => lv_aload X.1 X.2.1 hd (by rw [List.getElem?_toArray]; exact hl0) (kk H locs hR hl)
theorem mp_aload_nN (X : mp_C G Ts E y cc nL rt hh d mc ms) (pc' : Nat) {k : Fin 4} {i : Nat} (hd : decode cc pc = .ok (.aload_n k, 1)) (hi : (k : Nat) = i) (hp : pc + 1 = pc') (hl0 : L[i]? = some (.val (.null))) (kk : mp_W G E h cs sl Q pc' L (.null :: st)) : mp_W G E h cs sl Q pc L (st) := by
  subst hp
  exact fun H locs hR hl => lv_aload_nN X.1 X.2.1 hd hi (by rw [List.getElem?_toArray]; exact hl0) (kk H locs hR hl)
theorem mp_aloadN (X : mp_C G Ts E y cc nL rt hh d mc ms) (pc' : Nat) {i : Nat} (hd : decode cc pc = .ok (.aload i, 2)) (hp : pc + 2 = pc') (hl0 : L[i]? = some (.val (.null))) (kk : mp_W G E h cs sl Q pc' L (.null :: st)) : mp_W G E h cs sl Q pc L (st) := by
  subst hp
  exact fun H locs hR hl => lv_aloadN X.1 X.2.1 hd (by rw [List.getElem?_toArray]; exact hl0) (kk H locs hR hl)
def mp_s1 : Slot → Bool
  | .unset => true
  | .second => false
  | .val v => v.category == 1
theorem mp_store {L : List Slot} {i : Nat} {x : Slot} {v : Value} (h : L[i]? = some x) (hx : mp_s1 x = true) (hv : v.category = 1) : storeLocals L.toArray i v = some (L.set i (.val v)).toArray := by
  have hi : i < L.length := (List.getElem?_eq_some_iff.mp h).1
  have e1 : L.toArray[i]? = some x := by rw [List.getElem?_toArray]; exact h
  have e2 : storeSelf L.toArray i v = some (L.set i (.val v)).toArray := by
    simp [storeSelf, setAt, hi, hv]
  unfold storeLocals
  rw [e1]
  cases x with
  | unset => exact e2
  | second => simp [mp_s1] at hx
  | val w =>
    have hw : w.category = 1 := by simpa [mp_s1] using hx
    simp [hw]
    exact e2
theorem mp_istore_n (X : mp_C G Ts E y cc nL rt hh d mc ms) (pc' : Nat) {k : Fin 4} {i : Nat} {x : Int32} {z : Slot} {L' : List Slot} (hd : decode cc pc = .ok (.istore_n k, 1)) (hi : (k : Nat) = i) (hp : pc + 1 = pc') (hz : L[i]? = some z) (hz1 : mp_s1 z = true) (hL : L.set i (.val (.int x)) = L') (kk : mp_W G E h cs sl Q pc' L' (st)) : mp_W G E h cs sl Q pc L (.int x :: st) := by
  subst hp
  subst hL
  subst hi
  intro H locs hR hl T hT S
  obtain ⟨t, a, b⟩ := kk H locs hR hl T hT S
  have hexec := X.1
  have hb := X.2.1
  have e' := mp_store (v := .int x) hz hz1 rfl
  refine ⟨t, ?_, b⟩
  jvm_step S.here [S.here.top, ↓top_set S.here.top, hexec, hb, hd, e']
  exact a
theorem mp_istore (X : mp_C G Ts E y cc nL rt hh d mc ms) (pc' : Nat) {i : Nat} {x : Int32} {z : Slot} {L' : List Slot} (hd : decode cc pc = .ok (.istore i, 2)) (hp : pc + 2 = pc') (hz : L[i]? = some z) (hz1 : mp_s1 z = true) (hL : L.set i (.val (.int x)) = L') (kk : mp_W G E h cs sl Q pc' L' (st)) : mp_W G E h cs sl Q pc L (.int x :: st) := by
  subst hp
  subst hL
  intro H locs hR hl T hT S
  obtain ⟨t, a, b⟩ := kk H locs hR hl T hT S
  have hexec := X.1
  have hb := X.2.1
  have e' := mp_store (v := .int x) hz hz1 rfl
  refine ⟨t, ?_, b⟩
  jvm_step S.here [S.here.top, ↓top_set S.here.top, hexec, hb, hd, e']
  exact a
theorem mp_astore_n (X : mp_C G Ts E y cc nL rt hh d mc ms) (pc' : Nat) {k : Fin 4} {i : Nat} {x : Nat} {z : Slot} {L' : List Slot} (hd : decode cc pc = .ok (.astore_n k, 1)) (hi : (k : Nat) = i) (hp : pc + 1 = pc') (hz : L[i]? = some z) (hz1 : mp_s1 z = true) (hL : L.set i (.val (.ref x)) = L') (kk : mp_W G E h cs sl Q pc' L' (st)) : mp_W G E h cs sl Q pc L (.ref x :: st) := by
  subst hp
  subst hL
  subst hi
  intro H locs hR hl T hT S
  obtain ⟨t, a, b⟩ := kk H locs hR hl T hT S
  have hexec := X.1
  have hb := X.2.1
  have e' := mp_store (v := .ref x) hz hz1 rfl
  refine ⟨t, ?_, b⟩
  jvm_step S.here [S.here.top, ↓top_set S.here.top, hexec, hb, hd, e', Value.isRef]
  exact a
theorem mp_astore (X : mp_C G Ts E y cc nL rt hh d mc ms) (pc' : Nat) {i : Nat} {x : Nat} {z : Slot} {L' : List Slot} (hd : decode cc pc = .ok (.astore i, 2)) (hp : pc + 2 = pc') (hz : L[i]? = some z) (hz1 : mp_s1 z = true) (hL : L.set i (.val (.ref x)) = L') (kk : mp_W G E h cs sl Q pc' L' (st)) : mp_W G E h cs sl Q pc L (.ref x :: st) := by
  subst hp
  subst hL
  intro H locs hR hl T hT S
  obtain ⟨t, a, b⟩ := kk H locs hR hl T hT S
  have hexec := X.1
  have hb := X.2.1
  have e' := mp_store (v := .ref x) hz hz1 rfl
  refine ⟨t, ?_, b⟩
  jvm_step S.here [S.here.top, ↓top_set S.here.top, hexec, hb, hd, e', Value.isRef]
  exact a
theorem mp_astoreN (X : mp_C G Ts E y cc nL rt hh d mc ms) (pc' : Nat) {i : Nat} {z : Slot} {L' : List Slot} (hd : decode cc pc = .ok (.astore i, 2)) (hp : pc + 2 = pc') (hz : L[i]? = some z) (hz1 : mp_s1 z = true) (hL : L.set i (.val .null) = L') (kk : mp_W G E h cs sl Q pc' L' (st)) : mp_W G E h cs sl Q pc L (.null :: st) := by
  subst hp
  subst hL
  intro H locs hR hl T hT S
  obtain ⟨t, a, b⟩ := kk H locs hR hl T hT S
  have hexec := X.1
  have hb := X.2.1
  have e' := mp_store (v := .null) hz hz1 rfl
  refine ⟨t, ?_, b⟩
  jvm_step S.here [S.here.top, ↓top_set S.here.top, hexec, hb, hd, e', Value.isRef]
  exact a
theorem mp_iinc (X : mp_C G Ts E y cc nL rt hh d mc ms) (pc' : Nat) {i : Nat} {n : Int} {x v : Int32} {L' : List Slot} (hd : decode cc pc = .ok (.iinc i n, 3)) (hp : pc + 3 = pc') (hz : L[i]? = some (.val (.int x))) (hv : x + Int32.ofInt n = v) (hL : L.set i (.val (.int v)) = L') (kk : mp_W G E h cs sl Q pc' L' (st)) : mp_W G E h cs sl Q pc L (st) := by
  subst hp
  subst hL
  subst hv
  intro H locs hR hl T hT S
  obtain ⟨t, a, b⟩ := kk H locs hR hl T hT S
  have hexec := X.1
  have hb := X.2.1
  have hg : L.toArray[i]? = some (.val (.int x)) := by rw [List.getElem?_toArray]; exact hz
  have e' := mp_store (v := .int (x + Int32.ofInt n)) hz rfl rfl
  refine ⟨t, ?_, b⟩
  jvm_step S.here [S.here.top, ↓top_set S.here.top, hexec, hb, hd, hg, e']
  exact a
theorem mp_iadd (X : mp_C G Ts E y cc nL rt hh d mc ms) (pc' : Nat) {a b : Int32} (hd : decode cc pc = .ok (.iadd, 1)) (hp : pc + 1 = pc')  (k : mp_W G E h cs sl Q pc' L (.int (a + b) :: st)) : mp_W G E h cs sl Q pc L (.int b :: .int a :: st) := by
  subst hp
  exact fun H locs hR hl => lv_iadd X.1 X.2.1 hd  (k H locs hR hl)
theorem mp_isub (X : mp_C G Ts E y cc nL rt hh d mc ms) (pc' : Nat) {a b : Int32} (hd : decode cc pc = .ok (.isub, 1)) (hp : pc + 1 = pc')  (k : mp_W G E h cs sl Q pc' L (.int (a - b) :: st)) : mp_W G E h cs sl Q pc L (.int b :: .int a :: st) := by
  subst hp
  exact fun H locs hR hl => lv_isub X.1 X.2.1 hd  (k H locs hR hl)
theorem mp_imul (X : mp_C G Ts E y cc nL rt hh d mc ms) (pc' : Nat) {a b : Int32} (hd : decode cc pc = .ok (.imul, 1)) (hp : pc + 1 = pc')  (k : mp_W G E h cs sl Q pc' L (.int (a * b) :: st)) : mp_W G E h cs sl Q pc L (.int b :: .int a :: st) := by
  subst hp
  exact fun H locs hR hl => lv_imul X.1 X.2.1 hd  (k H locs hR hl)
theorem mp_iand (X : mp_C G Ts E y cc nL rt hh d mc ms) (pc' : Nat) {a b : Int32} (hd : decode cc pc = .ok (.iand, 1)) (hp : pc + 1 = pc')  (k : mp_W G E h cs sl Q pc' L (.int (a &&& b) :: st)) : mp_W G E h cs sl Q pc L (.int b :: .int a :: st) := by
  subst hp
  exact fun H locs hR hl => lv_iand X.1 X.2.1 hd  (k H locs hR hl)
theorem mp_ior (X : mp_C G Ts E y cc nL rt hh d mc ms) (pc' : Nat) {a b : Int32} (hd : decode cc pc = .ok (.ior, 1)) (hp : pc + 1 = pc')  (k : mp_W G E h cs sl Q pc' L (.int (a ||| b) :: st)) : mp_W G E h cs sl Q pc L (.int b :: .int a :: st) := by
  subst hp
  exact fun H locs hR hl => lv_ior X.1 X.2.1 hd  (k H locs hR hl)
theorem mp_ixor (X : mp_C G Ts E y cc nL rt hh d mc ms) (pc' : Nat) {a b : Int32} (hd : decode cc pc = .ok (.ixor, 1)) (hp : pc + 1 = pc')  (k : mp_W G E h cs sl Q pc' L (.int (a ^^^ b) :: st)) : mp_W G E h cs sl Q pc L (.int b :: .int a :: st) := by
  subst hp
  exact fun H locs hR hl => lv_ixor X.1 X.2.1 hd  (k H locs hR hl)
theorem mp_ishl (X : mp_C G Ts E y cc nL rt hh d mc ms) (pc' : Nat) {a b : Int32} (hd : decode cc pc = .ok (.ishl, 1)) (hp : pc + 1 = pc')  (k : mp_W G E h cs sl Q pc' L (.int (a <<< (b &&& 31)) :: st)) : mp_W G E h cs sl Q pc L (.int b :: .int a :: st) := by
  subst hp
  exact fun H locs hR hl => lv_ishl X.1 X.2.1 hd  (k H locs hR hl)
theorem mp_idiv (X : mp_C G Ts E y cc nL rt hh d mc ms) (pc' : Nat) {a b : Int32} (hd : decode cc pc = .ok (.idiv, 1)) (hp : pc + 1 = pc') (hne : ¬ b = 0) (k : mp_W G E h cs sl Q pc' L (.int (a / b) :: st)) : mp_W G E h cs sl Q pc L (.int b :: .int a :: st) := by
  subst hp
  exact fun H locs hR hl => lv_idiv X.1 X.2.1 hd hne (k H locs hR hl)
theorem mp_irem (X : mp_C G Ts E y cc nL rt hh d mc ms) (pc' : Nat) {a b : Int32} (hd : decode cc pc = .ok (.irem, 1)) (hp : pc + 1 = pc') (hne : ¬ b = 0) (k : mp_W G E h cs sl Q pc' L (.int (a - a / b * b) :: st)) : mp_W G E h cs sl Q pc L (.int b :: .int a :: st) := by
  subst hp
  exact fun H locs hR hl => lv_irem X.1 X.2.1 hd hne (k H locs hR hl)
theorem mp_i2l (X : mp_C G Ts E y cc nL rt hh d mc ms) (pc' : Nat) {a : Int32} {v : Int64} (hd : decode cc pc = .ok (.i2l, 1)) (hp : pc + 1 = pc') (hv : a.toInt64 = v) (k : mp_W G E h cs sl Q pc' L (.long v :: st)) : mp_W G E h cs sl Q pc L (.int a :: st) := by
  subst hp
  exact fun H locs hR hl => lv_i2l X.1 X.2.1 hd hv (k H locs hR hl)
theorem mp_i2c (X : mp_C G Ts E y cc nL rt hh d mc ms) (pc' : Nat) {a v : Int32} (hd : decode cc pc = .ok (.i2c, 1)) (hp : pc + 1 = pc') (hv : (a.toUInt32 % 65536).toInt32 = v) (k : mp_W G E h cs sl Q pc' L (.int v :: st)) : mp_W G E h cs sl Q pc L (.int a :: st) := by
  subst hp
  exact fun H locs hR hl => lv_i2c X.1 X.2.1 hd hv (k H locs hR hl)
theorem mp_lcmp (X : mp_C G Ts E y cc nL rt hh d mc ms) (pc' : Nat) {a b : Int64} (hd : decode cc pc = .ok (.lcmp, 1)) (hp : pc + 1 = pc')  (k : mp_W G E h cs sl Q pc' L (.int (lg_cmp a b) :: st)) : mp_W G E h cs sl Q pc L (.long b :: .long a :: st) := by
  subst hp
  exact fun H locs hR hl => W.lcmp X.1 X.2.1 hd  (k H locs hR hl)
theorem mp_dup (X : mp_C G Ts E y cc nL rt hh d mc ms) (pc' : Nat) {va : Value} (hd : decode cc pc = .ok (.dup, 1)) (hp : pc + 1 = pc') (hva : va.category = 1) (k : mp_W G E h cs sl Q pc' L (va :: va :: st)) : mp_W G E h cs sl Q pc L (va :: st) := by
  subst hp
  exact fun H locs hR hl => lv_dup X.1 X.2.1 hd hva (k H locs hR hl)
theorem mp_pop (X : mp_C G Ts E y cc nL rt hh d mc ms) (pc' : Nat) {va : Value} (hd : decode cc pc = .ok (.pop, 1)) (hp : pc + 1 = pc') (hva : va.category = 1) (k : mp_W G E h cs sl Q pc' L (st)) : mp_W G E h cs sl Q pc L (va :: st) := by
  subst hp
  exact fun H locs hR hl => lv_pop X.1 X.2.1 hd hva (k H locs hR hl)
theorem mp_dup_x1 (X : mp_C G Ts E y cc nL rt hh d mc ms) (pc' : Nat) {va vb : Value} (hd : decode cc pc = .ok (.dup_x1, 1)) (hp : pc + 1 = pc') (hva : va.category = 1) (hvb : vb.category = 1) (k : mp_W G E h cs sl Q pc' L (va :: vb :: va :: st)) : mp_W G E h cs sl Q pc L (va :: vb :: st) := by
  subst hp
  exact fun H locs hR hl => lv_dup_x1 X.1 X.2.1 hd hva hvb (k H locs hR hl)
theorem mp_dup2 (X : mp_C G Ts E y cc nL rt hh d mc ms) (pc' : Nat) {va vb : Value} (hd : decode cc pc = .ok (.dup2, 1)) (hp : pc + 1 = pc') (hva : va.category = 1) (hvb : vb.category = 1) (k : mp_W G E h cs sl Q pc' L (va :: vb :: va :: vb :: st)) : mp_W G E h cs sl Q pc L (va :: vb :: st) := by
  subst hp
  exact fun H locs hR hl => lv_dup2_11 X.1 X.2.1 hd hva hvb (k H locs hR hl)
theorem mp_if_eq (X : mp_C G Ts E y cc nL rt hh d mc ms) (tgt pc' : Nat) {a : Int32} {off : Int} (hd : decode cc pc = .ok (.ifCond .eq off, 3)) (ht : (pc : Int) + off = (tgt : Int)) (hp : pc + 3 = pc') (kt : a = 0 → mp_W G E h cs sl Q tgt L (st)) (kf : ¬ a = 0 → mp_W G E h cs sl Q pc' L (st)) : mp_W G E h cs sl Q pc L (.int a :: st) := by
  subst hp
  exact fun H locs hR hl => lv_if_eq X.1 X.2.1 hd ht (fun q => kt q H locs hR hl) (fun q => kf q H locs hR hl)
theorem mp_icmp_eq (X : mp_C G Ts E y cc nL rt hh d mc ms) (tgt pc' : Nat) {a b : Int32} {off : Int} (hd : decode cc pc = .ok (.if_icmp .eq off, 3)) (ht : (pc : Int) + off = (tgt : Int)) (hp : pc + 3 = pc') (kt : a = b → mp_W G E h cs sl Q tgt L (st)) (kf : ¬ a = b → mp_W G E h cs sl Q pc' L (st)) : mp_W G E h cs sl Q pc L (.int b :: .int a :: st) := by
  subst hp
  exact fun H locs hR hl => lv_icmp_eq X.1 X.2.1 hd ht (fun q => kt q H locs hR hl) (fun q => kf q H locs hR hl)
theorem mp_if_ne (X : mp_C G Ts E y cc nL rt hh d mc ms) (tgt pc' : Nat) {a : Int32} {off : Int} (hd : decode cc pc = .ok (.ifCond .ne off, 3)) (ht : (pc : Int) + off = (tgt : Int)) (hp : pc + 3 = pc') (kt : ¬ a = 0 → mp_W G E h cs sl Q tgt L (st)) (kf : a = 0 → mp_W G E h cs sl Q pc' L (st)) : mp_W G E h cs sl Q pc L (.int a :: st) := by
  subst hp
  exact fun H locs hR hl => lv_if_ne X.1 X.2.1 hd ht (fun q => kt q H locs hR hl) (fun q => kf q H locs hR hl)
theorem mp_icmp_ne (X : mp_C G Ts E y cc nL rt hh d mc ms) (tgt pc' : Nat) {a b : Int32} {off : Int} (hd : decode cc pc = .ok (.if_icmp .ne off, 3)) (ht : (pc : Int) + off = (tgt : Int)) (hp : pc + 3 = pc') (kt : ¬ a = b → mp_W G E h cs sl Q tgt L (st)) (kf : a = b → mp_W G E h cs sl Q pc' L (st)) : mp_W G E h cs sl Q pc L (.int b :: .int a :: st) := by
  subst hp
  exact fun H locs hR hl => lv_icmp_ne X.1 X.2.1 hd ht (fun q => kt q H locs hR hl) (fun q => kf q H locs hR hl)
theorem mp_if_lt (X : mp_C G Ts E y cc nL rt hh d mc ms) (tgt pc' : Nat) {a : Int32} {off : Int} (hd : decode cc pc = .ok (.ifCond .lt off, 3)) (ht : (pc : Int) + off = (tgt : Int)) (hp : pc + 3 = pc') (kt : a < 0 → mp_W G E h cs sl Q tgt L (st)) (kf : ¬ a < 0 → mp_W G E h cs sl Q pc' L (st)) : mp_W G E h cs sl Q pc L (.int a :: st) := by
  subst hp
  exact fun H locs hR hl => lv_if_lt X.1 X.2.1 hd ht (fun q => kt q H locs hR hl) (fun q => kf q H locs hR hl)
theorem mp_icmp_lt (X : mp_C G Ts E y cc nL rt hh d mc ms) (tgt pc' : Nat) {a b : Int32} {off : Int} (hd : decode cc pc = .ok (.if_icmp .lt off, 3)) (ht : (pc : Int) + off = (tgt : Int)) (hp : pc + 3 = pc') (kt : a < b → mp_W G E h cs sl Q tgt L (st)) (kf : ¬ a < b → mp_W G E h cs sl Q pc' L (st)) : mp_W G E h cs sl Q pc L (.int b :: .int a :: st) := by
  subst hp
  exact fun H locs hR hl => lv_icmp_lt X.1 X.2.1 hd ht (fun q => kt q H locs hR hl) (fun q => kf q H locs hR hl)
theorem mp_if_ge (X : mp_C G Ts E y cc nL rt hh d mc ms) (tgt pc' : Nat) {a : Int32} {off : Int} (hd : decode cc pc = .ok (.ifCond .ge off, 3)) (ht : (pc : Int) + off = (tgt : Int)) (hp : pc + 3 = pc') (kt : 0 ≤ a → mp_W G E h cs sl Q tgt L (st)) (kf : ¬ 0 ≤ a → mp_W G E h cs sl Q pc' L (st)) : mp_W G E h cs sl Q pc L (.int a :: st) := by
  subst hp
  exact fun H locs hR hl => lv_if_ge X.1 X.2.1 hd ht (fun q => kt q H locs hR hl) (fun q => kf q H locs hR hl)
theorem mp_icmp_ge (X : mp_C G Ts E y cc nL rt hh d mc ms) (tgt pc' : Nat) {a b : Int32} {off : Int} (hd : decode cc pc = .ok (.if_icmp .ge off, 3)) (ht : (pc : Int) + off = (tgt : Int)) (hp : pc + 3 = pc') (kt : b ≤ a → mp_W G E h cs sl Q tgt L (st)) (kf : ¬ b ≤ a → mp_W G E h cs sl Q pc' L (st)) : mp_W G E h cs sl Q pc L (.int b :: .int a :: st) := by
  subst hp
  exact fun H locs hR hl => lv_icmp_ge X.1 X.2.1 hd ht (fun q => kt q H locs hR hl) (fun q => kf q H locs hR hl)
theorem mp_if_gt (X : mp_C G Ts E y cc nL rt hh d mc ms) (tgt pc' : Nat) {a : Int32} {off : Int} (hd : decode cc pc = .ok (.ifCond .gt off, 3)) (ht : (pc : Int) + off = (tgt : Int)) (hp : pc + 3 = pc') (kt : 0 < a → mp_W G E h cs sl Q tgt L (st)) (kf : ¬ 0 < a → mp_W G E h cs sl Q pc' L (st)) : mp_W G E h cs sl Q pc L (.int a :: st) := by
  subst hp
  exact fun H locs hR hl => lv_if_gt X.1 X.2.1 hd ht (fun q => kt q H locs hR hl) (fun q => kf q H locs hR hl)
theorem mp_icmp_gt (X : mp_C G Ts E y cc nL rt hh d mc ms) (tgt pc' : Nat) {a b : Int32} {off : Int} (hd : decode cc pc = .ok (.if_icmp .gt off, 3)) (ht : (pc : Int) + off = (tgt : Int)) (hp : pc + 3 = pc') (kt : b < a → mp_W G E h cs sl Q tgt L (st)) (kf : ¬ b < a → mp_W G E h cs sl Q pc' L (st)) : mp_W G E h cs sl Q pc L (.int b :: .int a :: st) := by
  subst hp
  exact fun H locs hR hl => lv_icmp_gt X.1 X.2.1 hd ht (fun q => kt q H locs hR hl) (fun q => kf q H locs hR hl)
theorem mp_if_le (X : mp_C G Ts E y cc nL rt hh d mc ms) (tgt pc' : Nat) {a : Int32} {off : Int} (hd : decode cc pc = .ok (.ifCond .le off, 3)) (ht : (pc : Int) + off = (tgt : Int)) (hp : pc + 3 = pc') (kt : a ≤ 0 → mp_W G E h cs sl Q tgt L (st)) (kf : ¬ a ≤ 0 → mp_W G E h cs sl Q pc' L (st)) : mp_W G E h cs sl Q pc L (.int a :: st) := by
  subst hp
  exact fun H locs hR hl => lv_if_le X.1 X.2.1 hd ht (fun q => kt q H locs hR hl) (fun q => kf q H locs hR hl)
theorem mp_icmp_le (X : mp_C G Ts E y cc nL rt hh d mc ms) (tgt pc' : Nat) {a b : Int32} {off : Int} (hd : decode cc pc = .ok (.if_icmp .le off, 3)) (ht : (pc : Int) + off = (tgt : Int)) (hp : pc + 3 = pc') (kt : a ≤ b → mp_W G E h cs sl Q tgt L (st)) (kf : ¬ a ≤ b → mp_W G E h cs sl Q pc' L (st)) : mp_W G E h cs sl Q pc L (.int b :: .int a :: st) := by
  subst hp
  exact fun H locs hR hl => lv_icmp_le X.1 X.2.1 hd ht (fun q => kt q H locs hR hl) (fun q => kf q H locs hR hl)
theorem mp_goto (X : mp_C G Ts E y cc nL rt hh d mc ms) (tgt : Nat) {off : Int} (hd : decode cc pc = .ok (.goto off, 3)) (ht : (pc : Int) + off = (tgt : Int)) (k : mp_W G E h cs sl Q tgt L (st)) : mp_W G E h cs sl Q pc L (st) :=
  fun H locs hR hl => lv_goto X.1 X.2.1 hd ht (k H locs hR hl)
theorem mp_ifnonnull (X : mp_C G Ts E y cc nL rt hh d mc ms) (tgt : Nat) {x : Nat} {off : Int} (hd : decode cc pc = .ok (.ifnonnull off, 3)) (ht : (pc : Int) + off = (tgt : Int)) (k : mp_W G E h cs sl Q tgt L (st)) : mp_W G E h cs sl Q pc L (.ref x :: st) :=
  fun H locs hR hl => lv_ifnonnull X.1 X.2.1 hd ht (k H locs hR hl)
theorem mp_ifnonnullN (X : mp_C G Ts E y cc nL rt hh d mc ms) (pc' : Nat) {off : Int} (hd : decode cc pc = .ok (.ifnonnull off, 3)) (hp : pc + 3 = pc') (k : mp_W G E h cs sl Q pc' L (st)) : mp_W G E h cs sl Q pc L (.null :: st) := by
  subst hp
  exact fun H locs hR hl => lv_ifnonnullN X.1 X.2.1 hd (k H locs hR hl)
theorem mp_ifnull (X : mp_C G Ts E y cc nL rt hh d mc ms) (pc' : Nat) {x : Nat} {off : Int} (hd : decode cc pc = .ok (.ifnull off, 3)) (hp : pc + 3 = pc') (k : mp_W G E h cs sl Q pc' L (st)) : mp_W G E h cs sl Q pc L (.ref x :: st) := by
  subst hp
  exact fun H locs hR hl => lv_ifnull X.1 X.2.1 hd (k H locs hR hl)
theorem mp_ifnullN (X : mp_C G Ts E y cc nL rt hh d mc ms) (tgt : Nat) {off : Int} (hd : decode cc pc = .ok (.ifnull off, 3)) (ht : (pc : Int) + off = (tgt : Int)) (k : mp_W G E h cs sl Q tgt L (st)) : mp_W G E h cs sl Q pc L (.null :: st) :=
  fun H locs hR hl => lv_ifnullN X.1 X.2.1 hd ht (k H locs hR hl)
theorem mp_tableIn (X : mp_C G Ts E y cc nL rt hh d mc ms) (tgt : Nat) {dflt lo hi : Int} {offs : Array Int} {len : Nat} {x : Int32} {off : Int} (hd : decode cc pc = .ok (.tableswitch dflt lo hi offs, len)) (h1 : ¬ x.toInt < lo) (h2 : ¬ hi < x.toInt) (ho : offs[(x.toInt - lo).toNat]? = some off) (ht : (pc : Int) + off = (tgt : Int)) (k : mp_W G E h cs sl Q tgt L (st)) : mp_W G E h cs sl Q pc L (.int x :: st) :=
  fun H locs hR hl => lv_tableIn X.1 X.2.1 hd h1 h2 ho ht (k H locs hR hl)
theorem mp_tableOut (X : mp_C G Ts E y cc nL rt hh d mc ms) (tgt : Nat) {dflt lo hi : Int} {offs : Array Int} {len : Nat} {x : Int32} (hd : decode cc pc = .ok (.tableswitch dflt lo hi offs, len)) (hq : x.toInt < lo ∨ hi < x.toInt) (ht : (pc : Int) + dflt = (tgt : Int)) (k : mp_W G E h cs sl Q tgt L (st)) : mp_W G E h cs sl Q pc L (.int x :: st) :=
  fun H locs hR hl => lv_tableOut X.1 X.2.1 hd hq ht (k H locs hR hl)
theorem mp_lookup (X : mp_C G Ts E y cc nL rt hh d mc ms) (tgt : Nat) {dflt : Int} {ps : Array (Int × Int)} {len : Nat} {x : Int32} {off : Int} (hd : decode cc pc = .ok (.lookupswitch dflt ps, len)) (hs : (ps.toList.zip (ps.toList.drop 1)).all (fun (a, next) => a.1 < next.1) = true) (ho : Op.lookupswitch.offset ps.toList dflt x.toInt = off) (ht : (pc : Int) + off = (tgt : Int)) (k : mp_W G E h cs sl Q tgt L (st)) : mp_W G E h cs sl Q pc L (.int x :: st) :=
  fun H locs hR hl => lv_lookup X.1 X.2.1 hd hs ho ht (k H locs hR hl)
end MPR
end
section
/-- a field as the instruction names it: of class number ci with N fields, the k-th -/
def mp_L (Ts : List Cond) (own : String) (index ci N k : Nat) : Prop := ci < 10 ∧ k < N ∧ ∃ (C : String) (T : u_T) (ref : String), vwCl[ci]? = some (C, T, N) ∧ (∀ w ∈ u_ws C T N, w ∈ Ts) ∧ Cond.fieldLink own index ref (T k).2.1 (T k).2.2.1 ∈ Ts ∧ (ref = (T k).1 ∨ Cond.sameField ref (T k).1 (T k).2.1 (T k).2.2.1 ∈ Ts)
/-- the same, for a store: its type, final or not -/
def mp_LS (Ts : List Cond) (own : String) (index ci N k : Nat) (fin : Bool) (ty : FieldType) : Prop := ci < 10 ∧ k < N ∧ ∃ (C : String) (T : u_T) (ref : String) (ty0 : Nat → FieldType), vwCl[ci]? = some (C, T, N) ∧ (∀ w ∈ u_ws C T N, w ∈ Ts) ∧ Cond.fieldLink own index ref (T k).2.1 (T k).2.2.1 ∈ Ts ∧ (ref = (T k).1 ∨ Cond.sameField ref (T k).1 (T k).2.1 (T k).2.2.1 ∈ Ts) ∧
  (∀ k, k < N → parseFieldDescriptor (T k).2.2.1 = some (ty0 k)) ∧ (∀ a, a < N → ∀ b, b < N → a ≠ b → (T a).2.1 ≠ (T b).2.1) ∧ (T k).2.2.2 = fin ∧ ((T k).1 = own ∨ fin = false) ∧ ty0 k = ty
/-- a class that is made -/
def mp_LN (Ts : List Cond) (own : String) (index ci N : Nat) (f : Nat → Value) : Prop := ci < 10 ∧ ∃ (C : String) (T : u_T) (ty0 : Nat → FieldType), vwCl[ci]? = some (C, T, N) ∧ (∀ w ∈ u_ws C T N, w ∈ Ts) ∧ (∀ k, k < N → parseFieldDescriptor (T k).2.2.1 = some (ty0 k)) ∧ Cond.classLink own index C ∈ Ts ∧ Cond.instantiable C N ∈ Ts ∧ Cond.initialized C ∈ Ts ∧ ∀ k, k < N → defaultValue (ty0 k) = f k
section MPH
variable {G : mp_G} {Ts : List Cond} {E : mp_E} {y : MethodName} {cc : ByteArray} {nL : Nat} {rt : Option FieldType} {hh : List (Nat × Nat × Nat × Nat)} {d mc ms : Nat} {h : mp_H} {cs sl : Nat} {Q : State → Prop} {pc : Nat} {L : List Slot} {st : List Value}
theorem mp_same {Ts : List Cond} {args : Array Value} {s : State} {ref O n dd : String} (hts : ∀ w ∈ Ts, w.before args s = true) (h : ref = O ∨ Cond.sameField ref O n dd ∈ Ts) {x : ClassId × Class × Nat × Field} (hi : s.fieldFound? O n dd = some x) : s.fieldFound? ref n dd = some x := by
  rcases h with rfl | h
  · exact hi
  · exact u_same (hts _ h) x hi
theorem mp_getf (X : mp_C G Ts E y cc nL rt hh d mc ms) (pc' : Nat) {index ci N k o : Nat} {v : Value} (hL : mp_L Ts y.cls index ci N k) (hd : decode cc pc = .ok (.getfield index, 3)) (hp : pc + 3 = pc') (ho : o < h.2.2) (hkd : h.1 o = (ci, N)) (hv : h.2.1 o k = v)
    (kk : mp_W G E h cs sl Q pc' L (v :: st)) : mp_W G E h cs sl Q pc L (.ref (G.1 + o) :: st) := by
  subst hp
  intro H locs hR hl
  obtain ⟨hci, hk, C, T, ref, hc, hin, hlk, hsm⟩ := hL
  have hcell := hR.2.2 o ho
  rw [hkd] at hcell
  obtain ⟨cell, q1, q2, q3, q4⟩ := hcell.obj hci
  obtain ⟨hS, hfc, kC, hkC, hkind⟩ := X.K.1.1 ci _ hc
  obtain ⟨cf, kf, fi, f, hi, hsl⟩ := hS k hk
  refine W.getf X.1 X.2.1 X.own (X.hts _ hlk) (mp_same X.hts hsm hi) (u_facts hfc hkC (u_lays X.hts hin hk) hi).1 q1 (by rw [q3]; exact fun q => by cases q) (v := v) ?_ rfl rfl hd (kk H locs hR hl)
  rw [hsl, q4 k hk, hv]
theorem mp_putf (X : mp_C G Ts E y cc nL rt hh d mc ms) (pc' : Nat) {index ci N k o : Nat} {v : Value} {fin : Bool} {ty : FieldType} (hL : mp_LS Ts y.cls index ci N k fin ty) (hd : decode cc pc = .ok (.putfield index, 3)) (hp : pc + 3 = pc') (hini : fin = false ∨ y.name = "<init>") (ho : o < h.2.2) (hkd : h.1 o = (ci, N)) (hn : narrow ty v = v) (hfit : fits ty v = true)
    (kk : mp_W G E (mp_set h o k v) cs sl Q pc' L st) : mp_W G E h cs sl Q pc L (v :: .ref (G.1 + o) :: st) := by
  subst hp
  intro H locs hR hl
  obtain ⟨hci, hk, C, T, ref, ty0, hc, hin, hlk, hsm, hty, hnm, hfin, hdecl, rfl⟩ := hL
  have hap := va_apart (own := y.cls) X.hts hin ty0 hty hnm X.K.1 hc
  have hcell := hR.2.2 o ho
  rw [hkd] at hcell
  obtain ⟨cell, q1, q2, q3, q4⟩ := hcell.obj hci
  obtain ⟨hS, hfc, kC, hkC, hkind⟩ := X.K.1.1 ci _ hc
  obtain ⟨cf, kf, fi, f, hi, hsl⟩ := hS k hk
  have hlay := X.hts _ (hin _ (u_in_lay hk))
  have hst := (u_facts hfc hkC (u_lays X.hts hin hk) hi).1
  have fin2 : ∀ H' : Heap, H'[G.1 + o]? = some (cell.setSlot f.slot v) → H'.size = H.size → (∀ q, q ≠ G.1 + o → H'[q]? = H[q]?) → W E.p E.l E.e E.R E.s E.m E.args E.below E.meth E.c H' (locs ++ [⟨G.1 + o, f.slot⟩]) cs sl Q (F0 E.m (pc + 3) L.toArray st) := by
    intro H' e1 e2 e3
    refine kk H' _ (hR.put e2 e3 ?_) (fun q hq => ?_)
    · rw [hkd]
      unfold mp_cell
      rw [if_pos hci]
      rw [hsl] at e1
      exact ⟨_, e1, q2, q3, t_set q4 hap hk v⟩
    · rcases List.mem_append.mp hq with h1 | h1
      · exact hl q h1
      · rw [List.mem_singleton.mp h1]; exact Nat.le_add_right _ _
  cases fin with
  | false =>
    unfold u_lay at hlay
    rw [if_neg (by rw [hfin]; decide)] at hlay
    have h6 := u_store hfc hkC hkind hlay hi (hty k hk) hn hfit
    exact W.putK X.1 X.2.1 (f := f) ⟨X.own, X.hts _ hlk, ⟨_, _, _, mp_same X.hts hsm hi⟩, hst⟩ (by rw [q2]; exact h6) q1 q3 (by rw [hsl]; exact k2_hasslot (q4 k hk)) rfl rfl hd fin2
  | true =>
    have hin2 : y.name = "<init>" := by rcases hini with h1 | h1; cases h1; exact h1
    have hdecl' : (T k).1 = y.cls := by rcases hdecl with h1 | h1; exact h1; cases h1
    unfold u_lay at hlay
    rw [if_pos hfin] at hlay
    have hcf : E.m.cls = cf := by
      obtain ⟨_, _, c', _, _, _, -, -, hf', -, -, -, hown2, -⟩ := Cond.laysFinal_spec hlay
      have e1 : c' = cf := by have := hi.symm.trans hf'; simp at this; exact this.1.symm
      rw [hdecl'] at hown2
      rw [← e1]; exact Option.some.inj (X.own.symm.trans hown2)
    have h6 := u_fits hfc hkC hkind (Or.inr hlay) hi (hty k hk) hn hfit
    exact W.putFinK X.1 X.2.1 X.own (X.hts _ hlk) (mp_same X.hts hsm hi) hst hcf (by rw [X.nm]; exact hin2) (by rw [q2]; exact h6) q1 q3 (by rw [hsl]; exact k2_hasslot (q4 k hk)) rfl rfl hd fin2
theorem mp_newo (X : mp_C G Ts E y cc nL rt hh d mc ms) (pc' : Nat) {index ci N : Nat} {f : Nat → Value} (hL : mp_LN Ts y.cls index ci N f) (hd : decode cc pc = .ok (.new index, 3)) (hp : pc + 3 = pc') (hcs : cs + 1 ≤ mc) (hsl : sl + N ≤ ms)
    (kk : mp_W G E (mp_new h ci N f) (cs + 1) (sl + N) Q pc' L (.ref (G.1 + h.2.2) :: st)) : mp_W G E h cs sl Q pc L st := by
  subst hp
  intro H locs hR hl
  obtain ⟨hci, C, T, ty0, hc, hin, hty, hlk, hins, hini, hf⟩ := hL
  have hKn := X.K.1.1 ci _ hc
  refine W.newcK X.1 X.2.1 X.own (X.hts _ hlk) (X.hts _ hins) (X.hts _ hini) rfl hd (X.rc hcs) (X.rs hsl) hKn.2.1 hR.1.symm fun H1 kC hkC e1 z1 o1 => ?_
  refine kk H1 locs (hR.push (by rw [z1, hR.1]) (fun q hq => o1 q (by rw [hR.1]; exact hq)) ?_) hl
  unfold mp_cell
  rw [if_pos hci]
  exact (u_born ty0 X.hts hin hKn hkC e1 hty).to hf
theorem mp_tyAt (G : mp_G) {t : Nat} (ht : t < 8) : (mp_T G)[t]? = some (G.2.2.2.1 t, mp_ty t) := by
  rcases (show t = 0 ∨ t = 1 ∨ t = 2 ∨ t = 3 ∨ t = 4 ∨ t = 5 ∨ t = 6 ∨ t = 7 by omega) with rfl | rfl | rfl | rfl | rfl | rfl | rfl | rfl <;> rfl
theorem mp_arrOf (X : mp_C G Ts E y cc nL rt hh d mc ms) {t : Nat} (ht : t < 8) : ArrOfT E.s (G.2.2.2.1 t) (mp_ty t) ∧ va_RA E.s (G.2.2.2.1 t) (mp_ty t) := X.K.1.2 t _ (mp_tyAt G ht)
theorem mp_R.arr {H : Heap} {o t n : Nat} (hR : mp_R G h H) (ho : o < h.2.2) (hkd : h.1 o = (10 + t, n)) (ht : t < 8) : H[G.1 + o]? = some (arrV (G.2.2.2.1 t) n (h.2.1 o)) := by
  have hc := hR.2.2 o ho
  rw [hkd] at hc
  exact hc.arr (by omega)
theorem mp_ix {j n : Nat} {i : Int32} (hi : i = nI j) (hj : j < n) (hn : n < 2 ^ 31) (cA : ClassId) (f : Nat → Value) : ¬ (i < 0 ∨ (arrV cA n f).slots.size ≤ i.toNatClampNeg) := by
  rw [arrV_size, hi]
  exact vp_in_nI hj hn
theorem mp_cl {j n : Nat} {i : Int32} (hi : i = nI j) (hj : j < n) (hn : n < 2 ^ 31) : i.toNatClampNeg = j := by
  rw [hi]
  exact nI_clamp (by omega)
theorem mp_rd {j n : Nat} {i : Int32} (hi : i = nI j) (hj : j < n) (hn : n < 2 ^ 31) (cA : ClassId) (f : Nat → Value) {v : Value} (hv : f j = v) : (arrV cA n f).slots[i.toNatClampNeg]? = some v := by
  rw [mp_cl hi hj hn, arrV_read _ _ hj, hv]
/-- behind a store into an array -/
theorem mp_aput {H : Heap} {locs : List Loc} {o t n j : Nat} {i : Int32} {v : Value} (hR : mp_R G h H) (hl : ∀ q ∈ locs, G.1 ≤ q.base) (hkd : h.1 o = (10 + t, n)) (ht : t < 8) (hi : i = nI j) (hj : j < n) (hn : n < 2 ^ 31) {pc : Nat} {st : List Value}
    (kk : mp_W G E (mp_set h o j v) cs sl Q pc L st) : ∀ H' : Heap, H'[G.1 + o]? = some ((arrV (G.2.2.2.1 t) n (h.2.1 o)).setSlot i.toNatClampNeg v) → H'.size = H.size → (∀ q, q ≠ G.1 + o → H'[q]? = H[q]?) → W E.p E.l E.e E.R E.s E.m E.args E.below E.meth E.c H' (locs ++ [⟨G.1 + o, i.toNatClampNeg⟩]) cs sl Q (F0 E.m pc L.toArray st) := by
  intro H' e1 e2 e3
  refine kk H' _ (hR.put e2 e3 ?_) (fun q hq => ?_)
  · rw [hkd]
    unfold mp_cell
    rw [if_neg (by show ¬ 10 + t < 10; omega), if_pos (by show 10 + t < 20; omega), e1, mp_cl hi hj hn, arrV_store]
    show _ = some (arrV (G.2.2.2.1 (10 + t - 10)) n _)
    rw [show 10 + t - 10 = t by omega]
  · rcases List.mem_append.mp hq with h1 | h1
    · exact hl q h1
    · rw [List.mem_singleton.mp h1]; exact Nat.le_add_right _ _
theorem mp_iald (X : mp_C G Ts E y cc nL rt hh d mc ms) (pc' : Nat) {o n : Nat} (j : Nat) {i : Int32} {v : Value} (hd : decode cc pc = .ok (.iaload, 1)) (hp : pc + 1 = pc') (ho : o < h.2.2) (hkd : h.1 o = (10, n)) (hi : i = nI j) (hj : j < n) (hn : n < 2 ^ 31) (hv : h.2.1 o j = v)
    (kk : mp_W G E h cs sl Q pc' L (v :: st)) : mp_W G E h cs sl Q pc L (.int i :: .ref (G.1 + o) :: st) := by
  subst hp
  intro H locs hR hl
  exact W.iald (v := v) X.1 X.2.1 (hR.arr (t := 0) ho hkd (by decide)) ((mp_arrOf X (t := 0) (by decide)).1 n _) (fun q => by cases q) (mp_ix hi hj hn _ _) (mp_rd hi hj hn _ _ hv) rfl rfl hd (kk H locs hR hl)
theorem mp_zald (X : mp_C G Ts E y cc nL rt hh d mc ms) (pc' : Nat) {o n : Nat} (j : Nat) {i : Int32} {v : Value} (hd : decode cc pc = .ok (.baload, 1)) (hp : pc + 1 = pc') (ho : o < h.2.2) (hkd : h.1 o = (11, n)) (hi : i = nI j) (hj : j < n) (hn : n < 2 ^ 31) (hv : h.2.1 o j = v)
    (kk : mp_W G E h cs sl Q pc' L (v :: st)) : mp_W G E h cs sl Q pc L (.int i :: .ref (G.1 + o) :: st) := by
  subst hp
  intro H locs hR hl
  exact W.zald (v := v) X.1 X.2.1 (hR.arr (t := 1) ho hkd (by decide)) ((mp_arrOf X (t := 1) (by decide)).1 n _) (fun q => by cases q) (mp_ix hi hj hn _ _) (mp_rd hi hj hn _ _ hv) rfl rfl hd (kk H locs hR hl)
theorem mp_cald (X : mp_C G Ts E y cc nL rt hh d mc ms) (pc' : Nat) {o n : Nat} (j : Nat) {i : Int32} {v : Value} (hd : decode cc pc = .ok (.caload, 1)) (hp : pc + 1 = pc') (ho : o < h.2.2) (hkd : h.1 o = (12, n)) (hi : i = nI j) (hj : j < n) (hn : n < 2 ^ 31) (hv : h.2.1 o j = v)
    (kk : mp_W G E h cs sl Q pc' L (v :: st)) : mp_W G E h cs sl Q pc L (.int i :: .ref (G.1 + o) :: st) := by
  subst hp
  intro H locs hR hl
  exact W.cald (v := v) X.1 X.2.1 (hR.arr (t := 2) ho hkd (by decide)) ((mp_arrOf X (t := 2) (by decide)).1 n _) (fun q => by cases q) (mp_ix hi hj hn _ _) (mp_rd hi hj hn _ _ hv) rfl rfl hd (kk H locs hR hl)
theorem mp_lald (X : mp_C G Ts E y cc nL rt hh d mc ms) (pc' : Nat) {o n : Nat} (j : Nat) {i : Int32} {v : Value} (hd : decode cc pc = .ok (.laload, 1)) (hp : pc + 1 = pc') (ho : o < h.2.2) (hkd : h.1 o = (13, n)) (hi : i = nI j) (hj : j < n) (hn : n < 2 ^ 31) (hv : h.2.1 o j = v)
    (kk : mp_W G E h cs sl Q pc' L (v :: st)) : mp_W G E h cs sl Q pc L (.int i :: .ref (G.1 + o) :: st) := by
  subst hp
  intro H locs hR hl
  exact W.lald (v := v) X.1 X.2.1 (hR.arr (t := 3) ho hkd (by decide)) ((mp_arrOf X (t := 3) (by decide)).1 n _) (fun q => by cases q) (mp_ix hi hj hn _ _) (mp_rd hi hj hn _ _ hv) rfl rfl hd (kk H locs hR hl)
theorem mp_aald (X : mp_C G Ts E y cc nL rt hh d mc ms) (pc' : Nat) {o n t : Nat} (j : Nat) {i : Int32} {v : Value} (hd : decode cc pc = .ok (.aaload, 1)) (hp : pc + 1 = pc') (ho : o < h.2.2) (hkd : h.1 o = (10 + t, n)) (ht : t < 8) (ht4 : 4 ≤ t) (hi : i = nI j) (hj : j < n) (hn : n < 2 ^ 31) (hv : h.2.1 o j = v)
    (kk : mp_W G E h cs sl Q pc' L (v :: st)) : mp_W G E h cs sl Q pc L (.int i :: .ref (G.1 + o) :: st) := by
  subst hp
  intro H locs hR hl
  have href : (mp_ty t).isReference = true := by
    rcases (show t = 4 ∨ t = 5 ∨ t = 6 ∨ t = 7 by omega) with rfl | rfl | rfl | rfl <;> rfl
  exact W.aald (v := v) X.1 X.2.1 (hR.arr (t := t) ho hkd ht) ((mp_arrOf X (t := t) ht).1 n _) href (fun q => by cases q) (mp_ix hi hj hn _ _) (mp_rd hi hj hn _ _ hv) rfl rfl hd (kk H locs hR hl)
theorem mp_iast (X : mp_C G Ts E y cc nL rt hh d mc ms) (pc' : Nat) {o n : Nat} (j : Nat) {i x : Int32} (hd : decode cc pc = .ok (.iastore, 1)) (hp : pc + 1 = pc') (ho : o < h.2.2) (hkd : h.1 o = (10, n)) (hi : i = nI j) (hj : j < n) (hn : n < 2 ^ 31)
    (kk : mp_W G E (mp_set h o j (.int x)) cs sl Q pc' L st) : mp_W G E h cs sl Q pc L (.int x :: .int i :: .ref (G.1 + o) :: st) := by
  subst hp
  intro H locs hR hl
  exact W.iast X.1 X.2.1 (hR.arr (t := 0) ho hkd (by decide)) ((mp_arrOf X (t := 0) (by decide)).1 n _) (fun q => by cases q) (mp_ix hi hj hn _ _) rfl rfl hd (mp_aput hR hl hkd (by decide) hi hj hn kk)
theorem mp_zast (X : mp_C G Ts E y cc nL rt hh d mc ms) (pc' : Nat) {o n : Nat} (j : Nat) {i x : Int32} (hd : decode cc pc = .ok (.bastore, 1)) (hp : pc + 1 = pc') (ho : o < h.2.2) (hkd : h.1 o = (11, n)) (hi : i = nI j) (hj : j < n) (hn : n < 2 ^ 31) (hx : narrow .boolean (.int x) = .int x)
    (kk : mp_W G E (mp_set h o j (.int x)) cs sl Q pc' L st) : mp_W G E h cs sl Q pc L (.int x :: .int i :: .ref (G.1 + o) :: st) := by
  subst hp
  intro H locs hR hl
  refine W.zast X.1 X.2.1 (hR.arr (t := 1) ho hkd (by decide)) ((mp_arrOf X (t := 1) (by decide)).1 n _) (fun q => by cases q) (mp_ix hi hj hn _ _) rfl rfl hd ?_
  rw [hx]
  exact mp_aput hR hl hkd (by decide) hi hj hn kk
theorem mp_cast (X : mp_C G Ts E y cc nL rt hh d mc ms) (pc' : Nat) {o n : Nat} (j : Nat) {i x : Int32} (hd : decode cc pc = .ok (.castore, 1)) (hp : pc + 1 = pc') (ho : o < h.2.2) (hkd : h.1 o = (12, n)) (hi : i = nI j) (hj : j < n) (hn : n < 2 ^ 31) (hx : narrow .char (.int x) = .int x)
    (kk : mp_W G E (mp_set h o j (.int x)) cs sl Q pc' L st) : mp_W G E h cs sl Q pc L (.int x :: .int i :: .ref (G.1 + o) :: st) := by
  subst hp
  intro H locs hR hl
  refine W.cast X.1 X.2.1 (hR.arr (t := 2) ho hkd (by decide)) ((mp_arrOf X (t := 2) (by decide)).1 n _) (fun q => by cases q) (mp_ix hi hj hn _ _) rfl rfl hd ?_
  rw [hx]
  exact mp_aput hR hl hkd (by decide) hi hj hn kk
theorem mp_last (X : mp_C G Ts E y cc nL rt hh d mc ms) (pc' : Nat) {o n : Nat} (j : Nat) {i : Int32} {x : Int64} (hd : decode cc pc = .ok (.lastore, 1)) (hp : pc + 1 = pc') (ho : o < h.2.2) (hkd : h.1 o = (13, n)) (hi : i = nI j) (hj : j < n) (hn : n < 2 ^ 31)
    (kk : mp_W G E (mp_set h o j (.long x)) cs sl Q pc' L st) : mp_W G E h cs sl Q pc L (.long x :: .int i :: .ref (G.1 + o) :: st) := by
  subst hp
  intro H locs hR hl
  exact W.last X.1 X.2.1 (hR.arr (t := 3) ho hkd (by decide)) ((mp_arrOf X (t := 3) (by decide)).1 n _) (fun q => by cases q) (mp_ix hi hj hn _ _) rfl rfl hd (mp_aput hR hl hkd (by decide) hi hj hn kk)
/-- a reference into an array: class ci fits the array's component -/
def mp_LA (Ts : List Cond) (t ci N : Nat) : Prop := t < 8 ∧ ci < 10 ∧ ∃ (C : String) (T : u_T) (D : String), vwCl[ci]? = some (C, T, N) ∧ mp_ty t = .object D ∧ (C = D ∨ Cond.castable C D ∈ Ts)
theorem mp_aast (X : mp_C G Ts E y cc nL rt hh d mc ms) (pc' : Nat) {o n t ci N q : Nat} (j : Nat) {i : Int32} (hL : mp_LA Ts t ci N) (hd : decode cc pc = .ok (.aastore, 1)) (hp : pc + 1 = pc') (ho : o < h.2.2) (hkd : h.1 o = (10 + t, n)) (hq : q < h.2.2) (hkq : h.1 q = (ci, N)) (hi : i = nI j) (hj : j < n) (hn : n < 2 ^ 31)
    (kk : mp_W G E (mp_set h o j (.ref (G.1 + q))) cs sl Q pc' L st) : mp_W G E h cs sl Q pc L (.ref (G.1 + q) :: .int i :: .ref (G.1 + o) :: st) := by
  subst hp
  intro H locs hR hl
  obtain ⟨ht, hci, C, T, D, hc, hty, hcast⟩ := hL
  have hcell := hR.2.2 q hq
  rw [hkq] at hcell
  obtain ⟨cell, q1, q2, q3, q4⟩ := hcell.obj hci
  obtain ⟨hS, hfc, kC, hkC, hkind⟩ := X.K.1.1 ci _ hc
  have hRA := (mp_arrOf X (t := t) ht).2
  rw [hty] at hRA
  obtain ⟨kA, comp, k1, k2, k3, -⟩ := hRA
  obtain ⟨kD, hkD, hasg⟩ : ∃ kD, E.s.vm.classes[comp]? = some kD ∧ E.s.vm.assignable (G.2.2.1.1 ci) comp = true := by
    rcases hcast with rfl | hcast
    · have e1 : comp = G.2.2.1.1 ci := Option.some.inj (k3.symm.trans hfc)
      subst e1
      exact ⟨kC, hkC, va_assign ⟨hfc, kC, hkC, hkind⟩⟩
    · obtain ⟨c0, t0, f1, f2, f3⟩ := Cond.castable_spec (X.hts _ hcast)
      cases hfc.symm.trans f1
      cases k3.symm.trans f2
      obtain ⟨kD, hkD, -⟩ := Vm.findClass_spec k3
      exact ⟨kD, hkD, f3⟩
  have h0 : ¬ i < 0 := fun z => mp_ix hi hj hn (G.2.2.2.1 t) (h.2.1 o) (Or.inl z)
  exact W.aast X.1 X.2.1 (hR.arr (t := t) ho hkd ht) (fun z h => by cases h) (fun h => by cases h) k1 k2 rfl hkD ⟨h0, Nat.not_le.mp fun z => mp_ix hi hj hn (G.2.2.2.1 t) (h.2.1 o) (Or.inr z)⟩ q1 (fun z h => by rw [q3] at h; cases h) (by rw [q2]; exact hkC) (by rw [q2]; exact hasg) rfl rfl hd (mp_aput hR hl hkd ht hi hj hn kk)
theorem mp_newa (X : mp_C G Ts E y cc nL rt hh d mc ms) (pc' : Nat) {t n : Nat} {z : Int32} {atype : ArrayType} {v0 : Value} (ht : t < 4) (hat : newarray.typeOf atype = mp_ty t) (hw : Cond.arrayClass (mp_ty t) ∈ Ts) (hv0 : defaultValue (mp_ty t) = v0) (hd : decode cc pc = .ok (.newarray atype, 2)) (hp : pc + 2 = pc') (hz : z = nI n) (hn : n ≤ 1000) (hcs : cs + 1 ≤ mc) (hsl : sl + n ≤ ms)
    (kk : mp_W G E (mp_new h (10 + t) n (fun _ => v0)) (cs + 1) (sl + n) Q pc' L (.ref (G.1 + h.2.2) :: st)) : mp_W G E h cs sl Q pc L (.int z :: st) := by
  subst hp
  intro H locs hR hl
  have hz0 : ¬ z < 0 := by rw [hz]; exact nI_pos (by omega)
  have hzn : z.toNatClampNeg = n := by rw [hz]; exact nI_clamp (by omega)
  have hby : n * componentBytes (newarray.typeOf atype) ≤ 536870912 := by
    rw [hat]
    rcases (show t = 0 ∨ t = 1 ∨ t = 2 ∨ t = 3 by omega) with rfl | rfl | rfl | rfl <;> simp [mp_ty, componentBytes] <;> omega
  refine va_newaK X.1 X.2.1 (by rw [hat]; exact X.hts _ hw) rfl hd rfl hz0 hzn hby (X.rc hcs) (X.rs hsl) hR.1.symm fun H1 cA e1 z1 o1 hAr hNm => ?_
  have hRA := (mp_arrOf X (t := t) (by omega)).2
  have ecA : cA = G.2.2.2.1 t := by
    rw [hat] at hNm
    rcases (show t = 0 ∨ t = 1 ∨ t = 2 ∨ t = 3 by omega) with rfl | rfl | rfl | rfl <;> exact Option.some.inj (hNm.symm.trans hRA)
  refine kk H1 locs (hR.push (by rw [z1, hR.1]) (fun q hq => o1 q (by rw [hR.1]; exact hq)) ?_) hl
  unfold mp_cell
  rw [if_neg (by show ¬ 10 + t < 10; omega), if_pos (by show 10 + t < 20; omega), e1, hat, ecA, hv0]
  show _ = some (arrV (G.2.2.2.1 (10 + t - 10)) n _)
  rw [show 10 + t - 10 = t by omega]
theorem mp_newr (X : mp_C G Ts E y cc nL rt hh d mc ms) (pc' : Nat) {t n index : Nat} {z : Int32} {C : String} (ht : t < 8) (hty : mp_ty t = .object C) (hlk : Cond.classLink y.cls index C ∈ Ts) (hov : Cond.arrayOver (.object C) ∈ Ts) (hd : decode cc pc = .ok (.anewarray index, 3)) (hp : pc + 3 = pc') (hz : z = nI n) (hn : n ≤ 1000) (hcs : cs + 1 ≤ mc) (hsl : sl + n ≤ ms)
    (kk : mp_W G E (mp_new h (10 + t) n (fun _ => .null)) (cs + 1) (sl + n) Q pc' L (.ref (G.1 + h.2.2) :: st)) : mp_W G E h cs sl Q pc L (.int z :: st) := by
  subst hp
  intro H locs hR hl
  have hz0 : ¬ z < 0 := by rw [hz]; exact nI_pos (by omega)
  have hzn : z.toNatClampNeg = n := by rw [hz]; exact nI_clamp (by omega)
  refine W.anew X.1 X.2.1 X.own (X.hts _ hlk) (X.hts _ hov) rfl hd rfl hz0 (by rw [hzn]; omega) (X.rc hcs) (by rw [hzn]; exact X.rs hsl) fun cA kA comp f1 f2 f3 f4 => ?_
  have hRA := (mp_arrOf X (t := t) ht).2
  rw [hty] at hRA
  obtain ⟨kA', comp', k1, k2, k3, k4⟩ := hRA
  have ecA : cA = G.2.2.2.1 t := Option.some.inj (f1.symm.trans k4)
  rw [hzn, ← hR.1]
  refine kk _ locs (hR.push (by simp) (fun q hq => by rw [Array.getElem?_push, if_neg (Nat.ne_of_lt hq)]) ?_) hl
  unfold mp_cell
  rw [if_neg (by show ¬ 10 + t < 10; omega), if_pos (by show 10 + t < 20; omega), hR.1, Array.getElem?_push_size, arrV_new, ecA]
  show _ = some (arrV (G.2.2.2.1 (10 + t - 10)) n _)
  rw [show 10 + t - 10 = t by omega]
end MPH
end
section
section MPK
variable {p : Program} {l : Launch} {e : Env} {R : Room} {s : State} {m : MethodId} {args : Array Value} {below : List Frame} {meth : Method} {c : Code} {U : State} {locs : List Loc} {cells slots : Nat}
/-- a callee's run, from its contract: it returns or it throws -/
theorem mp_back {G : mp_G} {Ts : List Cond} {y : MethodName} {cc : ByteArray} {nL : Nat} {rt : Option FieldType} {hh : List (Nat × Nat × Nat × Nat)} {d mc ms : Nat} {as : List Value} {h : mp_H} {Pr : Option Value → mp_H → Prop} {Pt : Nat → mp_H → Prop}
    (hM : mp_M G Ts l y d mc ms as h Pr Pt) (hY : mp_Y Ts y cc nL rt hh) (X : Stand p l e R s m args below meth c U locs cells slots) (hK : mp_K G U) (hR : mp_R G h U.heap) (hts : ∀ w ∈ Ts, ∀ a', w.before a' U = true) (hini : (Cond.initialized y.cls).before as.toArray U = true)
    (hfr : d + 1 ≤ R.frames) (hlo : 8 + (nL + 11) + 32 * d ≤ R.locals) (hce : cells + mc ≤ R.cells) (hsl : slots + ms ≤ R.slots)
    {g : JFrame} (hg : g.method = m) (hsize : g.locals.size = c.maxLocals) {ig : Instr} {len : Nat} (hdg : decode c.code g.pc = .ok (ig, len)) (hW : 2 * g.monitorRoom + (g.stack.map fun v => v.category).sum ≤ 8) {mk : MethodId} (hn : U.methodNamed? y = some mk) :
    ∃ (o : Outcome) (h' : mp_H) (T : State) (L : List Loc), Stand p l e R s m args below meth c T (locs ++ L) (cells + mc) (slots + ms) ∧ (∀ q ∈ L, G.1 ≤ q.base) ∧ mp_R G h' T.heap ∧ mp_P G Pr Pt o h' ∧
      (match o with
        | .returned v => Steps p.tables e below (doInvoke e (U.setTop g) [] mk as.toArray).1 (T.setTop { g with pc := g.pc + len, stack := v.toList ++ g.stack })
        | .threw a => Steps p.tables e below (doInvoke e (U.setTop g) [] mk as.toArray).1 ((T.setTop g).pushFrame (.throwing a))) := by
  obtain ⟨m9, methY, cY, hn9, hmY, hcY, hbY, hlY, -⟩ := hY as.toArray U (fun w hw => hts w hw _)
  cases hn.symm.trans hn9
  obtain ⟨kY, hkY, -⟩ := className_of_methodNamed hn
  have hinitY : kY.init = .initialized := Cond.initialized_spec (findClass_of_methodNamed hn) hkY hini
  have hA : At U g.method c below := by rw [hg]; exact X.here
  have happ : (headSpec Ts (mp_rm d mc ms)).appliesLoose y e.platform (U.calling g mk as.toArray) = true :=
    Spec.appliesLoose_calling (g := g) hA hdg hn hkY hinitY
      (X.room_calling (g := g) (R' := mp_rm d mc ms) hsize hmY hcY hfr (by rw [hlY]; show _ + _ + 32 * d ≤ _; omega) hce hsl) (atoms_intro fun w hw => hts w hw _)
  obtain ⟨mid, hmid⟩ := hA.above
  have hfr2 : (U.setTop g).frames = (.java g :: mid) ++ below := by rw [State.frames_setTop' g hA.top, hmid]; rfl
  obtain ⟨o, s₂, hsteps, -, hend, hq⟩ := Steps.callFree hM p X.admits X.cas X.clock (acts := []) hfr2 happ ⟨rfl, hK.moved (Vm.Alike.refl U.vm), hR⟩ trivial
  rw [State.frames_setTop' g hA.top] at hend
  have hq' : mp_F G mc ms (U.calling g mk as.toArray) s₂ ∧ ∃ h', mp_R G h' s₂.heap ∧ mp_P G Pr Pt o h' := hq
  obtain ⟨⟨hW₂, L, ⟨e2, q2, q3, q4, q5, q6⟩, hLb⟩, h', hR', hP'⟩ := hq'
  have e3 : s₂ = ({ (U.calling g mk as.toArray).setFrames s₂.frames with heap := s₂.heap, slotsUsed := s₂.slotsUsed } : State).setVm s₂.vm := by
    have : s₂ = ({ s₂ with vm := (U.calling g mk as.toArray).vm } : State).setVm s₂.vm := rfl
    rw [e2] at this
    exact this
  have hW' : U.WarmedH s₂.vm := hW₂
  obtain ⟨g₀, hg0⟩ := Option.isSome_iff_exists.mp hA.top
  obtain ⟨r, hr⟩ := State.topJava?_eq_some.mp hg0
  have hr' : (({ U with heap := s₂.heap, slotsUsed := s₂.slotsUsed } : State).setVm s₂.vm).frames = .java g₀ :: r := hr
  have hsame : U.sameButNew ({ U with heap := s₂.heap, slotsUsed := s₂.slotsUsed } : State) L mc ms := by
    refine ⟨?_, q2, q3, q4, q5, q6⟩
    obtain ⟨t, ht, -⟩ := State.frames_cons hr
    show ({ U with heap := s₂.heap, slotsUsed := s₂.slotsUsed } : State) = { U.setFrames U.frames with heap := s₂.heap, slotsUsed := s₂.slotsUsed }
    rw [State.setFrames_self ht]
  subst hg
  refine ⟨o, h', (({ U with heap := s₂.heap, slotsUsed := s₂.slotsUsed } : State).setVm s₂.vm), L,
    ⟨X.admits, X.cas, X.clock, X.frames, X.room, X.hears, X.method, X.code, (X.here.setHeapUsed s₂.heap s₂.slotsUsed).setVm hW'.alike, X.tail, State.WarmedH.trans X.warmed hW', X.limits, X.bytes, X.same.trans (hsame.setVm s.vm)⟩, hLb, hR', hP', ?_⟩
  cases o with
  | returned v =>
    obtain ⟨c₂, i₂, len₂, hc₂, hd₂, hf₂⟩ := hend
    have hcc : c₂ = c := by
      have h1 : s₂.code? g.method = U.code? g.method := by
        rw [State.code?_eq, State.code?_eq, hW'.alike.method?]
      exact Option.some.inj (hc₂.symm.trans (h1.trans hA.code))
    subst hcc
    have hlen : len₂ = len := by rw [hdg] at hd₂; cases hd₂; rfl
    subst hlen
    have hs₂ : s₂ = (({ U with heap := s₂.heap, slotsUsed := s₂.slotsUsed } : State).setVm s₂.vm).setTop { g with pc := g.pc + len₂, stack := v.toList ++ g.stack } := by
      refine e3.trans ?_
      rw [hf₂, State.calling_eq hA.top, State.setFrames_setFrames, State.setTop_of_frames _ hr', hr]
      rfl
    show Steps p.tables e below _ ((({ U with heap := s₂.heap, slotsUsed := s₂.slotsUsed } : State).setVm s₂.vm).setTop { g with pc := g.pc + len₂, stack := v.toList ++ g.stack })
    rw [← hs₂]
    exact hsteps
  | threw a =>
    have hf₂ : s₂.frames = .throwing a :: .java g :: U.frames.tail := hend
    have hs₂ : s₂ = ((({ U with heap := s₂.heap, slotsUsed := s₂.slotsUsed } : State).setVm s₂.vm).setTop g).pushFrame (.throwing a) := by
      refine e3.trans ?_
      rw [hf₂, State.calling_eq hA.top, State.setFrames_setFrames, State.pushFrame, State.frames_setTop _ hr', State.setTop_of_frames _ hr', State.setFrames_setFrames, hr]
      rfl
    show Steps p.tables e below _ (((({ U with heap := s₂.heap, slotsUsed := s₂.slotsUsed } : State).setVm s₂.vm).setTop g).pushFrame (.throwing a))
    rw [← hs₂]
    exact hsteps
end MPK
/-- the instruction at pc invokes y with as, from this stack (three bytes) -/
def mp_I (G : mp_G) (E : mp_E) (h : mp_H) (cc : ByteArray) (pc : Nat) (y : MethodName) (as : List Value) (st rest : List Value) : Prop :=
  ∀ (T : State) (locs : List Loc) (cs sl : Nat) (ls : Array Slot), mp_R G h T.heap → Stand E.p E.l E.e E.R E.s E.m E.args E.below E.meth E.c T locs cs sl →
    ∃ (vm₁ : Vm) (mk : MethodId) (ig : Instr), decode cc pc = .ok (ig, 3) ∧ Stand E.p E.l E.e E.R E.s E.m E.args E.below E.meth E.c (T.setVm vm₁) locs cs sl ∧ (T.setVm vm₁).methodNamed? y = some mk ∧
      ∀ target, Steps E.p.tables E.e E.below (doInvoke E.e ((T.setVm vm₁).setTop (F0 E.m pc ls rest)) [] mk as.toArray).1 target → Steps E.p.tables E.e E.below (T.setTop (F0 E.m pc ls st)) target
/-- an exception is on its way at pc -/
def mp_U (G : mp_G) (E : mp_E) (h : mp_H) (cs sl : Nat) (Q : State → Prop) (pc : Nat) (L : List Slot) (st : List Value) (a : Nat) : Prop :=
  ∀ (T : State) (locs : List Loc), mp_R G h T.heap → (∀ q ∈ locs, G.1 ≤ q.base) → Stand E.p E.l E.e E.R E.s E.m E.args E.below E.meth E.c T locs cs sl → ∃ t, Steps E.p.tables E.e E.below ((T.setTop (F0 E.m pc L.toArray st)).pushFrame (.throwing a)) t ∧ Q t
section MPCALL
variable {G : mp_G} {Ts : List Cond} {E : mp_E} {y z : MethodName} {cc cz : ByteArray} {nL nz : Nat} {rt rz : Option FieldType} {hh hz : List (Nat × Nat × Nat × Nat)} {d mc ms dz mz sz : Nat} {h : mp_H} {cs sl : Nat} {Q : State → Prop} {pc : Nat} {L : List Slot} {st rest as : List Value}
  {Pr : Option Value → mp_H → Prop} {Pt : Nat → mp_H → Prop}
theorem mp_call (X : mp_C G Ts E y cc nL rt hh d mc ms) (hok : ∀ w ∈ Ts, mp_okw w = true) (pc' : Nat) (hM : mp_M G Ts E.l z dz mz sz as h Pr Pt) (hY : mp_Y Ts z cz nz rz hz) (hini : Cond.initialized z.cls ∈ Ts) (hI : mp_I G E h cc pc z as st rest) (hp : pc + 3 = pc')
    (hfr : dz + 1 ≤ d) (hlo : 19 + nz ≤ 32) (hce : cs + mz ≤ mc) (hsl : sl + sz ≤ ms) (hLn : L.length = nL) (hW : (rest.map fun v => v.category).sum ≤ 8)
    (kr : ∀ v h', Pr v h' → mp_W G E h' (cs + mz) (sl + sz) Q pc' L (v.toList ++ rest))
    (kt : ∀ x h' q, Pt x h' → q < h'.2.2 → h'.1 q = (20 + x, 0) → x < 3 → mp_U G E h' (cs + mz) (sl + sz) Q pc L rest (G.1 + q)) : mp_W G E h cs sl Q pc L st := by
  subst hp
  intro H locs hR hl T hT S
  have hR' : mp_R G h T.heap := by rw [hT]; exact hR
  obtain ⟨vm₁, mk, ig, hdg, S₁, hnm, hst⟩ := hI T locs cs sl L.toArray hR' S
  have hWm : E.s.WarmedH (T.setVm vm₁).vm := S₁.warmed
  obtain ⟨o, h', T', L', S', hL', hR2, hP, hsteps⟩ := mp_back (g := F0 E.m pc L.toArray rest) hM hY S₁ (X.K.moved hWm.alike) hR' (fun w hw a' => mp_keep (hok w hw) hWm (X.hts w hw)) (mp_keep (hok _ hini) hWm (X.hts _ hini))
    (X.rf hfr) (X.rl (by omega)) (X.rc hce) (X.rs hsl) rfl (by rw [X.2.2.1]; simpa using hLn) (by rw [X.2.1]; exact hdg) (by simpa using hW) hnm
  have hl' : ∀ q ∈ locs ++ L', G.1 ≤ q.base := fun q hq => by
    rcases List.mem_append.mp hq with h1 | h1
    · exact hl q h1
    · exact hL' q h1
  cases o with
  | returned v =>
    obtain ⟨t, a1, b1⟩ := kr v h' hP T'.heap _ hR2 hl' T' rfl S'
    exact ⟨t, hst t (hsteps.trans a1), b1⟩
  | threw a =>
    obtain ⟨q, x, rfl, hq, hk, hx, hPt⟩ := hP
    obtain ⟨t, a1, b1⟩ := kt x h' q hPt hq hk hx T' _ hR2 hl' S'
    exact ⟨t, hst t (hsteps.trans a1), b1⟩
/-- nobody here catches -/
theorem mp_out (X : mp_C G Ts E y cc nL rt [] d mc ms) {q x : Nat} (hc : cs ≤ mc) (hs : sl ≤ ms) (hq : q < h.2.2) (hk : h.1 q = (20 + x, 0)) (hx : x < 3) (hPt : Pt x h) : mp_U G E h cs sl (mp_Q G E mc ms Pr Pt) pc L st (G.1 + q) := by
  intro T locs hR hl S
  have hout : ∀ x ∈ E.c.exceptionTable.toList, covers x (F0 E.m pc L.toArray st).pc = false := by
    have e := X.exc
    intro x hx
    have : E.c.exceptionTable.toList = [] := List.map_eq_nil_iff.mp e
    rw [this] at hx
    cases hx
  obtain ⟨hw, hrun, hend, hWm, hsame⟩ := S.leaveThrown (G.1 + q) (g := F0 E.m pc L.toArray st) rfl rfl rfl hout X.locks
  exact ⟨_, hw, .threw (G.1 + q), h, hrun, hend, ⟨hWm, locs, hsame.mono hc hs, hl⟩, hR, q, x, rfl, hq, hk, hx, hPt⟩
/-- invokestatic -/
theorem mp_IS (X : mp_C G Ts E y cc nL rt hh d mc ms) {index : Nat} (hd : decode cc pc = .ok (.invokestatic index, 3)) (hY : mp_Y Ts z cz nz rz hz) (hlk : Cond.methodLink y.cls index z ∈ Ts) (hst : Cond.static z ∈ Ts) (hini : Cond.initialized z.cls ∈ Ts)
    (hz0 : z.cls ≠ "java/lang/invoke/MethodHandle" ∧ z.cls ≠ "java/lang/invoke/VarHandle") (hlen : (parseMethodDescriptor z.desc).map (fun dd => dd.parameters.length) = some as.length) : mp_I G E h cc pc z as (as.reverse ++ rest) rest := by
  intro T locs cs sl ls hR S
  obtain ⟨mk, methM, cM, hnamed, hmethM, -, -, -, -, -, -, hsigM⟩ := hY _ _ X.hts
  have hstatic : methM.isStatic = true := Cond.static_spec hnamed hmethM (X.hts _ hst)
  obtain ⟨kP, hkP, -⟩ := className_of_methodNamed hnamed
  have hinitP : kP.init = .initialized := Cond.initialized_spec (findClass_of_methodNamed hnamed) hkP (X.hts _ hini)
  have hl2 : as.length = methM.sig.parameters.length := by rw [hsigM] at hlen; exact (Option.some.inj hlen).symm
  obtain ⟨vm₁, X₁, hstep₁⟩ := S.invokestatic X.1 X.own (X.hts _ hlk) hnamed hmethM hstatic hkP hinitP hz0 (g := F0 E.m pc ls (as.reverse ++ rest)) rfl (argsL := as) (rest := rest) hl2 rfl (by rw [X.2.1]; exact hd)
  exact ⟨vm₁, mk, _, hd, X₁, X₁.named hnamed, fun target ht => hstep₁ _ fun acts => by rw [doInvoke_state]; exact ht⟩
/-- invokestatic of a nest mate's private method -/
theorem mp_ISN (X : mp_C G Ts E y cc nL rt hh d mc ms) {index : Nat} {host : String} (hd : decode cc pc = .ok (.invokestatic index, 3)) (hY : mp_Y Ts z cz nz rz hz) (hlk : Cond.methodLinkNest y.cls index z host ∈ Ts) (hst : Cond.static z ∈ Ts) (hini : Cond.initialized z.cls ∈ Ts)
    (hz0 : z.cls ≠ "java/lang/invoke/MethodHandle" ∧ z.cls ≠ "java/lang/invoke/VarHandle") (hlen : (parseMethodDescriptor z.desc).map (fun dd => dd.parameters.length) = some as.length) : mp_I G E h cc pc z as (as.reverse ++ rest) rest := by
  intro T locs cs sl ls hR S
  obtain ⟨mk, methM, cM, hnamed, hmethM, -, -, -, -, -, -, hsigM⟩ := hY _ _ X.hts
  have hstatic : methM.isStatic = true := Cond.static_spec hnamed hmethM (X.hts _ hst)
  obtain ⟨kP, hkP, -⟩ := className_of_methodNamed hnamed
  have hinitP : kP.init = .initialized := Cond.initialized_spec (findClass_of_methodNamed hnamed) hkP (X.hts _ hini)
  have hl2 : as.length = methM.sig.parameters.length := by rw [hsigM] at hlen; exact (Option.some.inj hlen).symm
  obtain ⟨vm₁, X₁, hstep₁⟩ := S.invokestaticNest X.1 X.own (X.hts _ hlk) hnamed hmethM hstatic hkP hinitP hz0 (g := F0 E.m pc ls (as.reverse ++ rest)) rfl (argsL := as) (rest := rest) hl2 rfl (by rw [X.2.1]; exact hd)
  exact ⟨vm₁, mk, _, hd, X₁, X₁.named hnamed, fun target ht => hstep₁ _ fun acts => by rw [doInvoke_state]; exact ht⟩
theorem mp_recv {H : Heap} {ci N o : Nat} {q : vw_C} (X : mp_C G Ts E y cc nL rt hh d mc ms) (hR : mp_R G h H) (ho : o < h.2.2) (hkd : h.1 o = (ci, N)) (hci : ci < 10) (hc : vwCl[ci]? = some q) : ∃ cell : Cell, H[G.1 + o]? = some cell ∧ cell.vm.isStatics = false ∧ E.s.vm.findClass q.1 = some cell.cls := by
  have hcell := hR.2.2 o ho
  rw [hkd] at hcell
  obtain ⟨cell, q1, q2, q3, q4⟩ := hcell.obj hci
  exact ⟨cell, q1, by rw [q3]; rfl, by rw [q2]; exact (X.K.1.1 ci q hc).2.1⟩
/-- invokevirtual of z on an object of class number ci, which selects z itself -/
theorem mp_IV (X : mp_C G Ts E y cc nL rt hh d mc ms) {index ci N o : Nat} {q : vw_C} (hd : decode cc pc = .ok (.invokevirtual index, 3)) (hY : mp_Y Ts z cz nz rz hz) (hlk : Cond.methodLink y.cls index z ∈ Ts) (hin : Cond.instanceMethod z ∈ Ts) (hse : Cond.selects q.1 z z ∈ Ts) (hci : ci < 10) (hc : vwCl[ci]? = some q)
    (hz0 : z.cls ≠ "java/lang/invoke/MethodHandle" ∧ z.cls ≠ "java/lang/invoke/VarHandle") (hlen : (parseMethodDescriptor z.desc).map (fun dd => dd.parameters.length) = some as.length) (ho : o < h.2.2) (hkd : h.1 o = (ci, N)) : mp_I G E h cc pc z (.ref (G.1 + o) :: as) (as.reverse ++ .ref (G.1 + o) :: rest) rest := by
  intro T locs cs sl ls hR S
  obtain ⟨mk, methM, hnamed, hmethM, hstM, habM⟩ := Cond.instanceMethod_spec (X.hts _ hin)
  obtain ⟨mk', methM', cM, hnamed', hmethM', -, -, -, -, -, -, hsigM⟩ := hY _ _ X.hts
  cases hnamed.symm.trans hnamed'
  cases hmethM.symm.trans hmethM'
  obtain ⟨cellB, hcB, hoB, hclB⟩ := mp_recv X hR ho hkd hci hc
  obtain ⟨c2, r2, m2, q1, q2, q3, q4, kP, hkP, hkPi⟩ := Cond.selects_spec (X.hts _ hse)
  cases hclB.symm.trans q1
  cases (State.methodFound?_of_named hnamed hz0).symm.trans q2
  cases hnamed.symm.trans q3
  have hselP : selectMethod E.e.platform E.s.vm cellB.cls mk = .method mk := by rw [Launch.admits_selectMethod S.admits]; exact q4
  have hl2 : as.length = methM.sig.parameters.length := by rw [hsigM] at hlen; exact (Option.some.inj hlen).symm
  obtain ⟨vm₁, X₁, hstep₁⟩ := S.invokevirtual X.1 X.own (X.hts _ hlk) hnamed hmethM hstM hkP hkPi hz0 (a := G.1 + o) (cell := cellB) hcB
    (fun z h => by rw [h] at hoB; cases hoB) hselP hmethM habM hkP hkPi (g := F0 E.m pc ls (as.reverse ++ .ref (G.1 + o) :: rest)) rfl (argsL := as) (rest := rest) hl2 rfl (by rw [X.2.1]; exact hd)
  exact ⟨vm₁, mk, _, hd, X₁, X₁.named hnamed, fun target ht => hstep₁ _ fun acts => by rw [doInvoke_state]; exact ht⟩
/-- the same, private (a nest mate's) -/
theorem mp_IVN (X : mp_C G Ts E y cc nL rt hh d mc ms) {index ci N o : Nat} {host : String} {q : vw_C} (hd : decode cc pc = .ok (.invokevirtual index, 3)) (hY : mp_Y Ts z cz nz rz hz) (hlk : Cond.methodLinkNest y.cls index z host ∈ Ts) (hin : Cond.instanceMethod z ∈ Ts) (hse : Cond.selects q.1 z z ∈ Ts) (hci : ci < 10) (hc : vwCl[ci]? = some q)
    (hz0 : z.cls ≠ "java/lang/invoke/MethodHandle" ∧ z.cls ≠ "java/lang/invoke/VarHandle") (hlen : (parseMethodDescriptor z.desc).map (fun dd => dd.parameters.length) = some as.length) (ho : o < h.2.2) (hkd : h.1 o = (ci, N)) : mp_I G E h cc pc z (.ref (G.1 + o) :: as) (as.reverse ++ .ref (G.1 + o) :: rest) rest := by
  intro T locs cs sl ls hR S
  obtain ⟨mk, methM, hnamed, hmethM, hstM, habM⟩ := Cond.instanceMethod_spec (X.hts _ hin)
  obtain ⟨mk', methM', cM, hnamed', hmethM', -, -, -, -, -, -, hsigM⟩ := hY _ _ X.hts
  cases hnamed.symm.trans hnamed'
  cases hmethM.symm.trans hmethM'
  obtain ⟨cellB, hcB, hoB, hclB⟩ := mp_recv X hR ho hkd hci hc
  obtain ⟨c2, r2, m2, q1, q2, q3, q4, kP, hkP, hkPi⟩ := Cond.selects_spec (X.hts _ hse)
  cases hclB.symm.trans q1
  cases (State.methodFound?_of_named hnamed hz0).symm.trans q2
  cases hnamed.symm.trans q3
  have hselP : selectMethod E.e.platform E.s.vm cellB.cls mk = .method mk := by rw [Launch.admits_selectMethod S.admits]; exact q4
  have hl2 : as.length = methM.sig.parameters.length := by rw [hsigM] at hlen; exact (Option.some.inj hlen).symm
  obtain ⟨vm₁, X₁, hstep₁⟩ := S.invokevirtualNest X.1 X.own (X.hts _ hlk) hnamed hmethM hstM hkP hkPi hz0 (a := G.1 + o) (cell := cellB) hcB
    (fun z h => by rw [h] at hoB; cases hoB) hselP hmethM habM hkP hkPi (g := F0 E.m pc ls (as.reverse ++ .ref (G.1 + o) :: rest)) rfl (argsL := as) (rest := rest) hl2 rfl (by rw [X.2.1]; exact hd)
  exact ⟨vm₁, mk, _, hd, X₁, X₁.named hnamed, fun target ht => hstep₁ _ fun acts => by rw [doInvoke_state]; exact ht⟩
/-- invokevirtual of x, abstract in its class: the object of class number ci selects z -/
theorem mp_IVA (X : mp_C G Ts E y cc nL rt hh d mc ms) {index ci N o : Nat} {x : MethodName} {q : vw_C} (hd : decode cc pc = .ok (.invokevirtual index, 3)) (hlk : Cond.methodLink y.cls index x ∈ Ts) (hsm : Cond.sameMethod x.cls x.cls x.name x.desc ∈ Ts) (hdc : Cond.declares x ∈ Ts) (hin : Cond.instanceMethod z ∈ Ts) (hse : Cond.selects q.1 x z ∈ Ts) (hci : ci < 10) (hc : vwCl[ci]? = some q)
    (hx0 : x.cls ≠ "java/lang/invoke/MethodHandle" ∧ x.cls ≠ "java/lang/invoke/VarHandle") (hlen : (parseMethodDescriptor x.desc).map (fun dd => dd.parameters.length) = some as.length) (ho : o < h.2.2) (hkd : h.1 o = (ci, N)) : mp_I G E h cc pc z (.ref (G.1 + o) :: as) (as.reverse ++ .ref (G.1 + o) :: rest) rest := by
  intro T locs cs sl ls hR S
  obtain ⟨r0, r, hn, hrm, hstR, hsigR⟩ := va_Decl.abs (va_Nw.of rfl (X.hts _ hdc))
  obtain ⟨cn, ck, r1, hcn, hck, hni, hf, hn1⟩ := Cond.sameMethod_found (X.hts _ hsm)
  cases hn.symm.trans hn1
  obtain ⟨mk, methM, hnamed, hmethM, -, habM⟩ := Cond.instanceMethod_spec (X.hts _ hin)
  obtain ⟨cellB, hcB, hoB, hclB⟩ := mp_recv X hR ho hkd hci hc
  obtain ⟨c2, r2, m2, q1, q2, q3, q4, kP, hkP, hkPi⟩ := Cond.selects_spec (X.hts _ hse)
  cases hclB.symm.trans q1
  cases hf.symm.trans q2
  cases hnamed.symm.trans q3
  have hselP : selectMethod E.e.platform E.s.vm cellB.cls r0 = .method mk := by rw [Launch.admits_selectMethod S.admits]; exact q4
  have hl2 : as.length = r.sig.parameters.length := by rw [hsigR] at hlen; exact (Option.some.inj hlen).symm
  obtain ⟨vm₁, X₁, hstep₁⟩ := S.invokevirtualUp X.1 X.own (X.hts _ hlk) (X.hts _ hsm) hx0 hn hrm hstR (a := G.1 + o) (cell := cellB) hcB
    (fun z h => by rw [h] at hoB; cases hoB) hselP hmethM habM hkP hkPi (g := F0 E.m pc ls (as.reverse ++ .ref (G.1 + o) :: rest)) rfl (argsL := as) (rest := rest) hl2 rfl (by rw [X.2.1]; exact hd)
  exact ⟨vm₁, mk, _, hd, X₁, X₁.named hnamed, fun target ht => hstep₁ _ fun acts => by rw [doInvoke_state]; exact ht⟩
/-- invokespecial of a constructor -/
theorem mp_II (X : mp_C G Ts E y cc nL rt hh d mc ms) {index o : Nat} (hd : decode cc pc = .ok (.invokespecial index, 3)) (hz1 : z.name = "<init>") (hcode : Cond.code z cz nz none ∈ Ts) (hlk : Cond.methodLink y.cls index z ∈ Ts) (hin : Cond.instanceMethod z ∈ Ts)
    (hz0 : z.cls ≠ "java/lang/invoke/MethodHandle" ∧ z.cls ≠ "java/lang/invoke/VarHandle") (hlen : (parseMethodDescriptor z.desc).map (fun dd => dd.parameters.length) = some as.length) : mp_I G E h cc pc z (.ref (G.1 + o) :: as) (as.reverse ++ .ref (G.1 + o) :: rest) rest := by
  intro T locs cs sl ls hR S
  have hpl : E.e.platform.magicAccessors = ({} : Platform).magicAccessors := by rw [S.admits.platform]
  have hl2 : ∀ sig, parseMethodDescriptor z.desc = some sig → as.length = sig.parameters.length := fun sig hs => by rw [hs] at hlen; exact (Option.some.inj hlen).symm
  obtain ⟨mk, methM, cM, kP, vm₁, hnamed, hmethM, hcodeM, -, hlocalsM, -, hkP, -, hW₁, hstep₁⟩ := Steps.initColdArgs (e := E.e) S.here X.1 S.warmed hpl X.own hz1 hz0 (X.hts _ hlk) (X.hts _ hin) (X.hts _ hcode) (f := F0 E.m pc ls (as.reverse ++ .ref (G.1 + o) :: rest)) rfl hl2 rfl (by rw [X.2.1]; exact hd)
  have X₁ := S.noted hW₁
  exact ⟨vm₁, mk, _, hd, X₁, X₁.named hnamed, fun target ht => hstep₁ _ fun acts => by rw [doInvoke_state]; exact ht⟩
theorem mp_objInit (X : mp_C G Ts E y cc nL rt hh d mc ms) (pc' : Nat) {idx a : Nat} (hlk : Cond.methodLink y.cls idx Lib.objectInit ∈ Ts) (hin : Cond.instanceMethod Lib.objectInit ∈ Ts) (hco : Cond.code Lib.objectInit ⟨#[0xb1]⟩ 1 none ∈ Ts) (hd : decode cc pc = .ok (.invokespecial idx, 3)) (hp : pc + 3 = pc') (hLn : L.length = nL) (hd1 : 1 ≤ d) (hW : (st.map fun v => v.category).sum ≤ 8)
    (kk : mp_W G E h cs sl Q pc' L st) : mp_W G E h cs sl Q pc L (.ref a :: st) := by
  subst hp
  intro H locs hR hl
  exact W.objInit X.1 X.2.1 X.own (X.hts _ hlk) (X.hts _ hin) (X.hts _ hco) rfl (by rw [X.2.2.1]; simpa using hLn) rfl hd (X.rf hd1) (X.rl (by simp; omega)) (kk H locs hR hl)
end MPCALL
end
section
theorem mp_xuse {G : mp_G} {U : State} (hX : mp_X G U) (hb : ∀ q, q < G.1 → U.heap[q]? = G.2.1[q]?) (args : Array Value) : ∀ w ∈ mp_xw, w.before args U = true := by
  obtain ⟨hsz, hX⟩ := hX
  have key : ∀ a cell, G.2.1[a]? = some cell → U.heap[a]? = some cell := fun a cell hc => by
    rw [hb a (by rw [← hsz]; exact (Array.getElem?_eq_some_iff.mp hc).1)]; exact hc
  have hst : ∀ C n dd, (Cond.isRef (.static C n dd)).before #[] ({ U with heap := G.2.1 } : State) = true → (Cond.isRef (.static C n dd)).before args U = true := by
    intro C n dd h
    have e : ({ U with heap := G.2.1 } : State).fieldNamed? C n dd true = U.fieldNamed? C n dd true := rfl
    simp only [Cond.before, Cond.holds, Cond.value, Term.eval] at h ⊢
    rw [e] at h
    cases hf : U.fieldNamed? C n dd true with
    | none => simp [hf] at h
    | some p =>
      obtain ⟨c, k, sl⟩ := p
      simp only [hf] at h ⊢
      cases hs : k.statics with
      | none => simp [hs] at h
      | some a =>
        cases hc : G.2.1[a]? with
        | none => simp [hs, hc] at h
        | some cell =>
          have := key a cell hc
          simp [hs, hc] at h
          simp [hs, this]
          exact h
  have hls : ∀ C n dd, (Cond.laysStatic C n dd).before #[] ({ U with heap := G.2.1 } : State) = true → (Cond.laysStatic C n dd).before args U = true := by
    intro C n dd h
    have e : ({ U with heap := G.2.1 } : State).fieldFound? C n dd = U.fieldFound? C n dd := rfl
    simp only [Cond.before, Cond.holds, Cond.value] at h ⊢
    rw [e] at h
    cases hg : U.vm.findClass C with
    | none => simp [hg] at h
    | some c0 =>
      cases hf : U.fieldFound? C n dd with
      | none => simp [hg, hf] at h
      | some p =>
        obtain ⟨c, k, i, f⟩ := p
        simp only [hg, hf] at h ⊢
        cases hs : k.statics with
        | none => simp [hs] at h
        | some a =>
          cases hc : G.2.1[a]? with
          | none => simp [hs, hc] at h
          | some cell =>
            have := key a cell hc
            simp [hs, hc] at h
            simp [hs, this]
            exact h
  intro w hw
  have h1 := hX w hw
  simp only [mp_xw, List.mem_cons, List.not_mem_nil, or_false] at hw
  rcases hw with rfl | rfl | rfl | rfl
  · exact hst _ _ _ h1
  · exact hst _ _ _ h1
  · exact hls _ _ _ h1
  · exact hls _ _ _ h1
section MPT
variable {G : mp_G} {Ts : List Cond} {E : mp_E} {y : MethodName} {cc : ByteArray} {nL : Nat} {rt : Option FieldType} {hh : List (Nat × Nat × Nat × Nat)} {d mc ms : Nat} {h : mp_H} {pc : Nat} {L : List Slot} {Pr : Option Value → mp_H → Prop} {Pt : Nat → mp_H → Prop}
/-- 'throw new X()' where the method has changed nothing yet -/
theorem mp_throw (X : mp_C G Ts E y cc nL rt [] d mc ms) (htr : E.l.stackTraces = false) {x ic im : Nat} (hx : x < 3) (h0 : decode cc pc = .ok (.new ic, 3)) (h1 : decode cc (pc + 3) = .ok (.dup, 1)) (h2 : decode cc (pc + 4) = .ok (.invokespecial im, 3)) (h3 : decode cc (pc + 7) = .ok (.athrow, 1))
    (hcl : Cond.classLink y.cls ic (mp_xn x) ∈ Ts) (hin : Cond.instantiable (mp_xn x) 6 ∈ Ts) (hini : Cond.initialized (mp_xn x) ∈ Ts) (hat : ∀ w ∈ Bundle.ownAtoms0 y.cls im (mp_xn x) ["java/lang/RuntimeException", "java/lang/Exception"], w ∈ Ts ∨ w ∈ mp_xw)
    (hd6 : 6 ≤ d) (hc : 1 ≤ mc) (hs : 6 ≤ ms) (hLn : L.length = nL) (hR : mp_R G h E.s.heap) (hPt : Pt x (mp_new h (20 + x) 0 (fun _ => .null))) :
    W E.p E.l E.e E.R E.s E.m E.args E.below E.meth E.c E.s.heap [] 0 0 (mp_Q G E mc ms Pr Pt) (F0 E.m pc L.toArray []) := by
  refine W.newc X.1 X.2.1 X.own (X.hts _ hcl) (X.hts _ hin) (X.hts _ hini) rfl h0 (X.rc (by omega)) (X.rs (by omega)) fun cC kC e1 e2 e3 e4 => ?_
  refine lv_dup (pc := pc + 3) X.1 X.2.1 h1 rfl ?_
  intro T2 hT2 S2
  have hcell : T2.heap[E.s.heap.size]? = some { cls := cC, slots := kC.instanceTypes.map defaultValue, vm := .none } := by
    rw [hT2, Array.getElem?_push_size]
  have hout : ∀ x ∈ E.c.exceptionTable.toList, covers x (pc + 4 + 3) = false := by
    intro x hx
    have : E.c.exceptionTable.toList = [] := List.map_eq_nil_iff.mp X.exc
    rw [this] at hx
    cases hx
  have hfit : Bundle.fit (mp_xn x) = true := by
    rcases (show x = 0 ∨ x = 1 ∨ x = 2 by omega) with rfl | rfl | rfl <;> decide
  obtain ⟨U, hsteps, hrun, hend, hWU, hsame, ce, hce, hoc⟩ := S2.ctorThrow0 X.1 (by rw [S2.admits.platform]; exact htr) X.own (cls := mp_xn x) (names := ["java/lang/RuntimeException", "java/lang/Exception"]) (ic := im) hfit (by decide)
    (fun w hw => by
      rcases hat w hw with h9 | h9
      · exact X.hts w h9
      · exact mp_xuse X.K.2.2.1 hR.2.1 _ w h9) (fun z hz => by cases hz) (a := E.s.heap.size) e1 e2 hcell (Nat.le_refl _) (g := F0 E.m (pc + 4) L.toArray [.ref E.s.heap.size, .ref E.s.heap.size]) rfl (by rw [X.2.2.1]; simpa using hLn) rfl rfl (rest := []) rfl (by rw [X.2.1]; exact h2) (by rw [X.2.1]; exact h3) hout
    (X.rf (show 2 + 3 + 1 ≤ d by omega)) (X.rl (by simp [Value.category]; omega)) X.locks
  have hsz : G.1 + h.2.2 = E.s.heap.size := hR.1
  refine ⟨U, hsteps, .threw E.s.heap.size, mp_new h (20 + x) 0 (fun _ => .null), hrun, hend, ⟨hWU, [], hsame.mono (by omega) (by omega), fun q hq => by cases hq⟩, ?_, h.2.2, x, hsz.symm, by show h.2.2 < h.2.2 + 1; omega, by simp [mp_new], hx, hPt⟩
  obtain ⟨-, q2, q3, -, -, q6⟩ := hsame
  have q3' : U.heap.size ≤ E.s.heap.size + 1 := q3
  have hlt : E.s.heap.size < U.heap.size := (Array.getElem?_eq_some_iff.mp hce).1
  have hold : ∀ q, q < E.s.heap.size → U.heap[q]? = E.s.heap[q]? := by
    intro q hq
    have hg : E.s.heap[q]? = some E.s.heap[q] := Array.getElem?_eq_getElem hq
    obtain ⟨c', g1, g2, g3, g4⟩ := q6 q _ hg
    have g1' : U.heap[q]? = some c' := g1
    rw [g1', hg, g2]
    have e : c'.slots = (E.s.heap[q]).slots := by
      apply Array.ext_getElem?
      intro i
      exact g4 i (fun hm => by cases hm)
    rw [e]
  refine hR.push (by omega) hold ?_
  unfold mp_cell
  rw [if_neg (by show ¬ 20 + x < 10; omega), if_neg (by show ¬ 20 + x < 20; omega)]
  refine ⟨ce, by rw [hsz]; exact hce, ?_, hoc.vm⟩
  have e9 := (X.K.2.1 x hx).symm.trans hoc.cls
  rw [show 20 + x - 20 = x by omega]
  exact (Option.some.inj e9).symm
end MPT
end
section
/-! An exception comes to rows of an exception table whose classes may not be resolved yet. -/
section MPX
variable {e : Env} {s₀ : State} {f : JFrame} {a : Addr} {cell : Cell}
/-- this row lets the exception pass: its class is another one -/
def mp_rp (e : Env) (s₀ : State) (d : ClassId) (thrown : ClassId) (y : ExceptionTableEntry) : Prop := y.catchType ≠ 0 ∧ ∃ c, s₀.vm.ClassLinks e.platform d y.catchType c ∧ s₀.vm.assignable thrown c = false
def mp_rc (e : Env) (s₀ : State) (d : ClassId) (thrown : ClassId) (y : ExceptionTableEntry) : Prop := y.catchType ≠ 0 ∧ ∃ c, s₀.vm.ClassLinks e.platform d y.catchType c ∧ s₀.vm.assignable thrown c = true
theorem mp_go (hobj : ∀ k, cell.vm ≠ .statics k) (hk0 : ∃ k, s₀.vm.classes[cell.cls]? = some k) (x : ExceptionTableEntry) (rest : List ExceptionTableEntry) (hx : covers x f.pc = true) (hend : mp_rc e s₀ f.method.cls cell.cls x) :
    ∀ (pre : List ExceptionTableEntry) (S : State), s₀.WarmedH S.vm → S.heap[a]? = some cell → (∀ y ∈ pre, covers y f.pc = true ∧ mp_rp e s₀ f.method.cls cell.cls y) →
      ∃ vm', s₀.WarmedH vm' ∧ ∀ (Q : Handler → Pre) (E : CtlPost) (d : Bool) (acts : List Action), wp (findHandler.go f a (pre ++ x :: rest)) Q E e d acts S ↔ Q (.found x.handlerPc) d acts (S.setVm vm') := by
  obtain ⟨k0, hk0⟩ := hk0
  intro pre
  induction pre with
  | nil =>
    intro S hW hcell _
    obtain ⟨k0', hk0', -⟩ := hW.alike.2.2 _ _ hk0
    obtain ⟨h0, c, hl, hfit⟩ := hend
    obtain ⟨dk, _, _, kt, hd, _, _, _, _, hkt, _, hopen⟩ := hl.here
    obtain ⟨kt', hkt', -⟩ := hW.alike.2.2 _ _ hkt
    refine ⟨_, hW.noted hd hopen (State.rightAt_cls hl), fun Q E d acts => ?_⟩
    have hl' := hW.classLinks hl
    have hx' := hx
    simp only [covers] at hx'
    obtain ⟨ha, ht⟩ := (resolveClass_links e.toSetting hl').op (op := VmOp.resolveClass f.method.cls x.catchType) rfl
    have hal : S.vm.Alike (S.vm.noted f.method.cls x.catchType (.cls c)) := (Vm.Alike.refl S.vm).noted _ _ _
    obtain ⟨k1', hk1', -⟩ := hal.2.2 _ _ hk0'
    obtain ⟨k2', hk2', -⟩ := hal.2.2 _ _ hkt'
    have hfit' : (S.vm.noted f.method.cls x.catchType (.cls c)).assignable cell.cls c = true := by rw [hal.assignable, hW.alike.assignable]; exact hfit
    rw [List.nil_append]
    simp [findHandler.go, hx', h0, ha, ht, hcell, hobj, hk1', hk2', hfit', VmOp.dirties, VmOp.acts]
  | cons y ys ih =>
    intro S hW hcell hpass
    obtain ⟨k0', hk0', -⟩ := hW.alike.2.2 _ _ hk0
    obtain ⟨hcov, h0, c, hl, hno⟩ := hpass y (List.mem_cons_self ..)
    obtain ⟨dk, _, _, kt, hd, _, _, _, _, hkt, _, hopen⟩ := hl.here
    obtain ⟨kt', hkt', -⟩ := hW.alike.2.2 _ _ hkt
    obtain ⟨vm', hW', hq⟩ := ih (S.setVm (S.vm.noted f.method.cls y.catchType (.cls c))) (hW.noted hd hopen (State.rightAt_cls hl)) hcell (fun z hz => hpass z (List.mem_cons_of_mem _ hz))
    refine ⟨vm', hW', fun Q E d acts => ?_⟩
    have hl' := hW.classLinks hl
    have hx' := hcov
    simp only [covers] at hx'
    obtain ⟨ha, ht⟩ := (resolveClass_links e.toSetting hl').op (op := VmOp.resolveClass f.method.cls y.catchType) rfl
    have hal : S.vm.Alike (S.vm.noted f.method.cls y.catchType (.cls c)) := (Vm.Alike.refl S.vm).noted _ _ _
    obtain ⟨k1', hk1', -⟩ := hal.2.2 _ _ hk0'
    obtain ⟨k2', hk2', -⟩ := hal.2.2 _ _ hkt'
    have hno' : (S.vm.noted f.method.cls y.catchType (.cls c)).assignable cell.cls c = false := by rw [hal.assignable, hW.alike.assignable]; exact hno
    refine Iff.trans ?_ (hq Q E d acts)
    rw [List.cons_append]
    simp [findHandler.go, hx', h0, ha, ht, hcell, hobj, hk1', hk2', hno', VmOp.dirties, VmOp.acts]
end MPX
section MPY
variable {p : Program} {l : Launch} {e : Env} {R : Room} {s : State} {m : MethodId} {args : Array Value} {below : List Frame} {meth : Method} {c : Code} {T : State} {locs : List Loc} {cells slots : Nat}
/-- the exception is caught in this method -/
theorem mp_caught (X : Stand p l e R s m args below meth c T locs cells slots) (a : Addr) {g : JFrame} (hg : g.method = m) {cell : Cell} (hcell : T.heap[a]? = some cell) (hobj : cell.vm.isStatics = false) (hk0 : ∃ k, s.vm.classes[cell.cls]? = some k)
    (pre : List ExceptionTableEntry) (x : ExceptionTableEntry) (rest : List ExceptionTableEntry) (hsplit : c.exceptionTable.toList = pre ++ x :: rest) (hpass : ∀ y ∈ pre, covers y g.pc = true ∧ mp_rp e s m.cls cell.cls y) (hx : covers x g.pc = true) (hend : mp_rc e s m.cls cell.cls x) :
    ∃ vm', Stand p l e R s m args below meth c (T.setVm vm') locs cells slots ∧
      ∀ target, Steps p.tables e below ((T.setVm vm').setTop { g with pc := x.handlerPc, stack := [.ref a] }) target → Steps p.tables e below ((T.setTop g).pushFrame (.throwing a)) target := by
  subst hg
  have hob : ∀ k, cell.vm ≠ .statics k := fun k h => by rw [h] at hobj; cases hobj
  have hcell' : ((T.setTop g).pushFrame (.throwing a)).heap[a]? = some cell := by rw [Stand.throwing_heap]; exact hcell
  have hvm' : ((T.setTop g).pushFrame (.throwing a)).vm = T.vm := Stand.throwing_vm T g a
  obtain ⟨vm', hW', hq⟩ := mp_go (e := e) (s₀ := s) (f := g) (a := a) hob hk0 x rest hx hend pre ((T.setTop g).pushFrame (.throwing a)) (by rw [hvm']; exact X.warmed) hcell' hpass
  refine ⟨vm', X.noted hW', fun target hrest => ?_⟩
  have hm' : ((T.setTop g).pushFrame (.throwing a)).vm.method? g.method = some meth := by rw [hvm']; exact X.method'
  have hfind : ∀ (Q : Handler → Pre) (E : CtlPost) (d : Bool) (acts : List Action), wp (findHandler g a) Q E e d acts ((T.setTop g).pushFrame (.throwing a)) ↔ Q (.found x.handlerPc) d acts (((T.setTop g).pushFrame (.throwing a)).setVm vm') := by
    intro Q E d acts
    rw [W.findHandler_eq hm' X.code, hsplit]
    exact hq Q E d acts
  have hstep : ∀ r, (stepThrowing e ((T.setTop g).pushFrame (.throwing a)) a (.java g :: r)).Is ((((T.setTop g).pushFrame (.throwing a)).setVm vm').setFrames (.java { g with pc := x.handlerPc, stack := [.ref a] } :: r)) [] := by
    intro r
    simp only [stepThrowing, searchFrame, vmDo]
    generalize hr : Sem.go _ e false [] ((T.setTop g).pushFrame (.throwing a)) = res
    obtain ⟨as, rfl, ha⟩ := Sem.eq_ok_of hr (a := Handler.found x.handlerPc) (s' := ((T.setTop g).pushFrame (.throwing a)).setVm vm') (acts' := []) (by simp [hfind _ _ _ _])
    exact ⟨rfl, ha⟩
  have h : At T g.method c below := X.here
  obtain ⟨hgo, hw⟩ := h.throwing a
  refine Steps.head hgo hw ?_
  rw [stepThread_throwing (frames_entered h.top _), (hstep _).1]
  obtain ⟨g₀, hg0⟩ := Option.isSome_iff_exists.mp h.top
  obtain ⟨r, hr⟩ := State.topJava?_eq_some.mp hg0
  have hr' : (T.setVm vm').frames = .java g₀ :: r := hr
  rw [State.setTop_of_frames _ hr'] at hrest
  have sf : ∀ (u : State) (F F' : List Frame), ((u.setFrames F).setVm vm').setFrames F' = (u.setVm vm').setFrames F' := fun u F F' => by
    have h1 : (u.setFrames F).setVm vm' = (u.setVm vm').setFrames F := rfl
    rw [h1, State.setFrames_setFrames]
  rw [hr, List.tail_cons, State.pushFrame, sf, State.setTop_of_frames _ hr, sf]
  exact hrest
end MPY
section MPZ
variable {G : mp_G} {Ts : List Cond} {E : mp_E} {y : MethodName} {cc : ByteArray} {nL : Nat} {rt : Option FieldType} {hh : List (Nat × Nat × Nat × Nat)} {d mc ms : Nat} {h : mp_H} {cs sl : Nat} {Q : State → Prop} {pc : Nat} {L : List Slot} {st : List Value}
/-- the i-th row catches exception x; those ahead of it name other classes -/
theorem mp_catch (X : mp_C G Ts E y cc nL rt hh d mc ms) {q x : Nat} (hq : q < h.2.2) (hk : h.1 q = (20 + x, 0)) (hx : x < 3) (hpre hsuf : List (Nat × Nat × Nat × Nat)) (b0 b1 hp ct : Nat) (hsp : hh = hpre ++ (b0, b1, hp, ct) :: hsuf) (hcov : b0 ≤ pc ∧ pc < b1) (hct : ct ≠ 0) (hlk : Cond.classLink y.cls ct (mp_xn x) ∈ Ts) (hself : Cond.castable (mp_xn x) (mp_xn x) ∈ Ts)
    (hpass : ∀ r ∈ hpre, (r.1 ≤ pc ∧ pc < r.2.1) ∧ r.2.2.2 ≠ 0 ∧ ∃ n, n < 3 ∧ n ≠ x ∧ Cond.classLink y.cls r.2.2.2 (mp_xn n) ∈ Ts)
    (kk : mp_W G E h cs sl Q hp L [.ref (G.1 + q)]) : mp_U G E h cs sl Q pc L st (G.1 + q) := by
  intro T locs hR hl S
  have hcell := hR.2.2 q hq
  rw [hk] at hcell
  unfold mp_cell at hcell
  rw [if_neg (by show ¬ 20 + x < 10; omega), if_neg (by show ¬ 20 + x < 20; omega)] at hcell
  obtain ⟨cell, c1, c2, c3⟩ := hcell
  have c2' : cell.cls = G.2.2.2.2 x := by rw [c2]; show G.2.2.2.2 (20 + x - 20) = _; rw [show 20 + x - 20 = x by omega]
  have hfx := X.K.2.1 x hx
  obtain ⟨kx, hkx, -⟩ := Vm.findClass_spec hfx
  have hpl : E.e.platform.magicAccessors = ({} : Platform).magicAccessors := by rw [S.admits.platform]
  have hexc := X.exc
  rw [hsp] at hexc
  obtain ⟨pre, tl, e1, e2, e3⟩ := List.map_eq_append_iff.mp hexc
  obtain ⟨row, suf, e4, e5, e6⟩ := List.map_eq_cons_iff.mp e3
  have hrow : row.startPc = b0 ∧ row.endPc = b1 ∧ row.handlerPc = hp ∧ row.catchType = ct := by simpa using e5
  obtain ⟨r1, r2, r3, r4⟩ := hrow
  have hcv : covers row pc = true := by simp [covers, r1, r2, hcov]
  have hrc : mp_rc E.e E.s E.m.cls cell.cls row := by
    refine ⟨by rw [r4]; exact hct, ?_⟩
    rw [r4]
    obtain ⟨c', hc', hcl⟩ := Cond.classLink_spec X.own (X.hts _ hlk) E.e.platform hpl
    cases hfx.symm.trans hc'
    obtain ⟨k1, k2, f1, f2, f3⟩ := Cond.castable_spec (X.hts _ hself)
    cases hfx.symm.trans f1
    cases hfx.symm.trans f2
    exact ⟨_, hcl, by rw [c2']; exact f3⟩
  have hps : ∀ z ∈ pre, covers z (F0 E.m pc L.toArray st).pc = true ∧ mp_rp E.e E.s E.m.cls cell.cls z := by
    intro z hz
    have hm : (z.startPc, z.endPc, z.handlerPc, z.catchType) ∈ hpre := by rw [← e2]; exact List.mem_map_of_mem hz
    obtain ⟨g1, g2, n, g3, g4, g5⟩ := hpass _ hm
    refine ⟨by simp [covers]; exact g1, g2, ?_⟩
    obtain ⟨c', hc', hcl⟩ := Cond.classLink_spec X.own (X.hts _ g5) E.e.platform hpl
    refine ⟨c', hcl, ?_⟩
    have e9 : c' = G.2.2.2.2 n := Option.some.inj (hc'.symm.trans (X.K.2.1 n g3))
    rw [c2', e9]
    exact X.K.2.2.2 x n hx g3 (fun e => g4 e.symm)
  obtain ⟨vm', S', hst⟩ := mp_caught S (G.1 + q) (g := F0 E.m pc L.toArray st) rfl c1 (by rw [c3]; rfl) ⟨kx, by rw [c2']; exact hkx⟩ pre row suf (by rw [e1, e4]) hps hcv hrc
  obtain ⟨t, a1, b1'⟩ := kk T.heap locs hR hl (T.setVm vm') rfl S'
  rw [← r3] at a1
  exact ⟨t, hst t a1, b1'⟩
end MPZ
end
section
/-! Facts of the tables by program. -/
def mp_Ts : List Cond := lw_tbl.filter mp_okw
theorem mp_Ts_ok : ∀ w ∈ mp_Ts, mp_okw w = true := fun w h => (List.mem_filter.mp h).2
theorem mp_Ts_in {w : Cond} (i : Nat) (h : lw_tbl[i]? = some w) (hk : mp_okw w = true) : w ∈ mp_Ts := List.mem_filter.mpr ⟨List.mem_of_getElem? h, hk⟩
theorem ws_M : ∀ w ∈ u_ws nR_M nT_M 2, w ∈ mp_Ts := by decide +kernel
theorem ws_P : ∀ w ∈ u_ws nR_P nT_P 12, w ∈ mp_Ts := by decide +kernel
theorem ws_W : ∀ w ∈ u_ws nR_W nT_W 5, w ∈ mp_Ts := by decide +kernel
theorem ws_E : ∀ w ∈ u_ws nR_E nT_E 4, w ∈ mp_Ts := by decide +kernel
theorem ws_K : ∀ w ∈ u_ws nR_K nT_K 8, w ∈ mp_Ts := by decide +kernel
theorem ws_R : ∀ w ∈ u_ws nR_R nT_R 17, w ∈ mp_Ts := by decide +kernel
theorem wd_35 : Cond.code y_M_init prog_1_method_1_code 2 none ∈ mp_Ts := mp_Ts_in 35 (by decide +kernel) (by decide +kernel)
theorem Y_M_init : mp_Y mp_Ts y_M_init c_M_init 2 none [] := mp_Y.of wd_35
theorem wd_116 : Cond.code y_M_write prog_1_method_2_code 6 (some .int) ∈ mp_Ts := mp_Ts_in 116 (by decide +kernel) (by decide +kernel)
theorem Y_M_write : mp_Y mp_Ts y_M_write c_M_write 6 (some .int) [] := mp_Y.of wd_116
theorem wd_313 : Cond.code y_M_erase prog_1_method_3_code 5 (some .char) ∈ mp_Ts := mp_Ts_in 313 (by decide +kernel) (by decide +kernel)
theorem Y_M_erase : mp_Y mp_Ts y_M_erase c_M_erase 5 (some .char) [] := mp_Y.of wd_313
theorem wd_338 : Cond.code y_M_mark prog_1_method_4_code 9 (some .int) ∈ mp_Ts := mp_Ts_in 338 (by decide +kernel) (by decide +kernel)
theorem Y_M_mark : mp_Y mp_Ts y_M_mark c_M_mark 9 (some .int) [] := mp_Y.of wd_338
theorem wd_376 : Cond.code y_M_tell prog_1_method_5_code 9 (some .int) ∈ mp_Ts := mp_Ts_in 376 (by decide +kernel) (by decide +kernel)
theorem Y_M_tell : mp_Y mp_Ts y_M_tell c_M_tell 9 (some .int) [] := mp_Y.of wd_376
theorem wd_383 : Cond.code y_M_length prog_1_method_6_code 2 (some .int) ∈ mp_Ts := mp_Ts_in 383 (by decide +kernel) (by decide +kernel)
theorem Y_M_length : mp_Y mp_Ts y_M_length c_M_length 2 (some .int) [] := mp_Y.of wd_383
theorem wd_390 : Cond.code y_M_at prog_1_method_7_code 3 (some .char) ∈ mp_Ts := mp_Ts_in 390 (by decide +kernel) (by decide +kernel)
theorem Y_M_at : mp_Y mp_Ts y_M_at c_M_at 3 (some .char) [] := mp_Y.of wd_390
theorem wd_397 : Cond.code y_M_format prog_1_method_8_code 4 (some .int) ∈ mp_Ts := mp_Ts_in 397 (by decide +kernel) (by decide +kernel)
theorem Y_M_format : mp_Y mp_Ts y_M_format c_M_format 4 (some .int) [] := mp_Y.of wd_397
theorem wd_412 : Cond.code y_M_id prog_1_method_9_code 3 (some .int) ∈ mp_Ts := mp_Ts_in 412 (by decide +kernel) (by decide +kernel)
theorem Y_M_id : mp_Y mp_Ts y_M_id c_M_id 3 (some .int) [] := mp_Y.of wd_412
theorem wd_419 : Cond.code y_M_runs prog_1_method_10_code 5 (some .int) ∈ mp_Ts := mp_Ts_in 419 (by decide +kernel) (by decide +kernel)
theorem Y_M_runs : mp_Y mp_Ts y_M_runs c_M_runs 5 (some .int) [] := mp_Y.of wd_419
theorem wd_431 : Cond.code y_M_run prog_1_method_11_code 6 (some .int) ∈ mp_Ts := mp_Ts_in 431 (by decide +kernel) (by decide +kernel)
theorem Y_M_run : mp_Y mp_Ts y_M_run c_M_run 6 (some .int) [] := mp_Y.of wd_431
theorem wd_443 : Cond.code y_M_count prog_1_method_12_code 4 (some .int) ∈ mp_Ts := mp_Ts_in 443 (by decide +kernel) (by decide +kernel)
theorem Y_M_count : mp_Y mp_Ts y_M_count c_M_count 4 (some .int) [] := mp_Y.of wd_443
theorem wd_450 : Cond.code y_M_alike prog_1_method_13_code 5 (some .boolean) ∈ mp_Ts := mp_Ts_in 450 (by decide +kernel) (by decide +kernel)
theorem Y_M_alike : mp_Y mp_Ts y_M_alike c_M_alike 5 (some .boolean) [] := mp_Y.of wd_450
theorem wd_120 : Cond.code y_M_pageNumbered prog_1_method_14_code 2 (some (.object "MarkedPages$Page")) ∈ mp_Ts := mp_Ts_in 120 (by decide +kernel) (by decide +kernel)
theorem Y_M_pageNumbered : mp_Y mp_Ts y_M_pageNumbered c_M_pageNumbered 2 (some (.object "MarkedPages$Page")) [] := mp_Y.of wd_120
theorem wd_271 : Cond.code y_M_make prog_1_method_15_code 3 (some .int) ∈ mp_Ts := mp_Ts_in 271 (by decide +kernel) (by decide +kernel)
theorem Y_M_make : mp_Y mp_Ts y_M_make c_M_make 3 (some .int) [] := mp_Y.of wd_271
theorem wd_208 : Cond.code y_M_refuseWhenAllAreMade prog_1_method_16_code 1 none ∈ mp_Ts := mp_Ts_in 208 (by decide +kernel) (by decide +kernel)
theorem Y_M_refuseWhenAllAreMade : mp_Y mp_Ts y_M_refuseWhenAllAreMade c_M_refuseWhenAllAreMade 1 none [] := mp_Y.of wd_208
theorem wd_123 : Cond.code y_M_refuseArgumentUnless prog_1_method_17_code 1 none ∈ mp_Ts := mp_Ts_in 123 (by decide +kernel) (by decide +kernel)
theorem Y_M_refuseArgumentUnless : mp_Y mp_Ts y_M_refuseArgumentUnless c_M_refuseArgumentUnless 1 none [] := mp_Y.of wd_123
theorem wd_189 : Cond.code y_M_refuseIndexUnless prog_1_method_18_code 1 none ∈ mp_Ts := mp_Ts_in 189 (by decide +kernel) (by decide +kernel)
theorem Y_M_refuseIndexUnless : mp_Y mp_Ts y_M_refuseIndexUnless c_M_refuseIndexUnless 1 none [] := mp_Y.of wd_189
theorem wd_459 : Cond.code y_R_init prog_8_method_1_code 1 none ∈ mp_Ts := mp_Ts_in 459 (by decide +kernel) (by decide +kernel)
theorem Y_R_init : mp_Y mp_Ts y_R_init c_R_init 1 none [] := mp_Y.of wd_459
theorem wd_517 : Cond.code y_R_thrown prog_8_method_2_code 1 (some .int) ∈ mp_Ts := mp_Ts_in 517 (by decide +kernel) (by decide +kernel)
theorem Y_R_thrown : mp_Y mp_Ts y_R_thrown c_R_thrown 1 (some .int) [] := mp_Y.of wd_517
theorem wd_524 : Cond.code y_R_isPage prog_8_method_3_code 1 (some .boolean) ∈ mp_Ts := mp_Ts_in 524 (by decide +kernel) (by decide +kernel)
theorem Y_R_isPage : mp_Y mp_Ts y_R_isPage c_R_isPage 1 (some .boolean) [] := mp_Y.of wd_524
theorem wd_532 : Cond.code y_R_nextBehind prog_8_method_4_code 6 (some .int) ∈ mp_Ts := mp_Ts_in 532 (by decide +kernel) (by decide +kernel)
theorem Y_R_nextBehind : mp_Y mp_Ts y_R_nextBehind c_R_nextBehind 6 (some .int) [] := mp_Y.of wd_532
theorem wd_536 : Cond.code y_R_isGone prog_8_method_5_code 5 (some .boolean) ∈ mp_Ts := mp_Ts_in 536 (by decide +kernel) (by decide +kernel)
theorem Y_R_isGone : mp_Y mp_Ts y_R_isGone c_R_isGone 5 (some .boolean) [] := mp_Y.of wd_536
theorem wd_528 : Cond.code y_R_look prog_8_method_6_code 4 none ∈ mp_Ts := mp_Ts_in 528 (by decide +kernel) (by decide +kernel)
theorem Y_R_look : mp_Y mp_Ts y_R_look c_R_look 4 none [] := mp_Y.of wd_528
theorem wd_584 : Cond.code y_R_covers prog_8_method_7_code 5 (some .boolean) ∈ mp_Ts := mp_Ts_in 584 (by decide +kernel) (by decide +kernel)
theorem Y_R_covers : mp_Y mp_Ts y_R_covers c_R_covers 5 (some .boolean) [] := mp_Y.of wd_584
theorem wd_580 : Cond.code y_R_formatOf prog_8_method_8_code 8 (some .int) ∈ mp_Ts := mp_Ts_in 580 (by decide +kernel) (by decide +kernel)
theorem Y_R_formatOf : mp_Y mp_Ts y_R_formatOf c_R_formatOf 8 (some .int) [] := mp_Y.of wd_580
theorem wd_544 : Cond.code y_R_greatest prog_8_method_9_code 4 (some .int) ∈ mp_Ts := mp_Ts_in 544 (by decide +kernel) (by decide +kernel)
theorem Y_R_greatest : mp_Y mp_Ts y_R_greatest c_R_greatest 4 (some .int) [] := mp_Y.of wd_544
theorem wd_548 : Cond.code y_R_learn prog_8_method_10_code 3 none ∈ mp_Ts := mp_Ts_in 548 (by decide +kernel) (by decide +kernel)
theorem Y_R_learn : mp_Y mp_Ts y_R_learn c_R_learn 3 none [] := mp_Y.of wd_548
theorem wd_540 : Cond.code y_R_make prog_8_method_11_code 7 (some .int) ∈ mp_Ts := mp_Ts_in 540 (by decide +kernel) (by decide +kernel)
theorem Y_R_make : mp_Y mp_Ts y_R_make c_R_make 7 (some .int) [] := mp_Y.of wd_540
theorem wd_521 : Cond.code y_R_write prog_8_method_12_code 4 (some .int) ∈ mp_Ts := mp_Ts_in 521 (by decide +kernel) (by decide +kernel)
theorem Y_R_write : mp_Y mp_Ts y_R_write c_R_write 4 (some .int) [] := mp_Y.of wd_521
theorem wd_552 : Cond.code y_R_erase prog_8_method_13_code 4 (some .char) ∈ mp_Ts := mp_Ts_in 552 (by decide +kernel) (by decide +kernel)
theorem Y_R_erase : mp_Y mp_Ts y_R_erase c_R_erase 4 (some .char) [] := mp_Y.of wd_552
theorem wd_556 : Cond.code y_R_mark prog_8_method_14_code 6 (some .int) ∈ mp_Ts := mp_Ts_in 556 (by decide +kernel) (by decide +kernel)
theorem Y_R_mark : mp_Y mp_Ts y_R_mark c_R_mark 6 (some .int) [] := mp_Y.of wd_556
theorem wd_560 : Cond.code y_R_tell prog_8_method_15_code 7 (some .int) ∈ mp_Ts := mp_Ts_in 560 (by decide +kernel) (by decide +kernel)
theorem Y_R_tell : mp_Y mp_Ts y_R_tell c_R_tell 7 (some .int) [] := mp_Y.of wd_560
theorem wd_564 : Cond.code y_R_length prog_8_method_16_code 2 (some .int) ∈ mp_Ts := mp_Ts_in 564 (by decide +kernel) (by decide +kernel)
theorem Y_R_length : mp_Y mp_Ts y_R_length c_R_length 2 (some .int) [] := mp_Y.of wd_564
theorem wd_572 : Cond.code y_R_finds prog_8_method_17_code 3 (some .boolean) ∈ mp_Ts := mp_Ts_in 572 (by decide +kernel) (by decide +kernel)
theorem Y_R_finds : mp_Y mp_Ts y_R_finds c_R_finds 3 (some .boolean) [] := mp_Y.of wd_572
theorem wd_568 : Cond.code y_R_at prog_8_method_18_code 3 (some .char) ∈ mp_Ts := mp_Ts_in 568 (by decide +kernel) (by decide +kernel)
theorem Y_R_at : mp_Y mp_Ts y_R_at c_R_at 3 (some .char) [] := mp_Y.of wd_568
theorem wd_576 : Cond.code y_R_format prog_8_method_19_code 3 (some .int) ∈ mp_Ts := mp_Ts_in 576 (by decide +kernel) (by decide +kernel)
theorem Y_R_format : mp_Y mp_Ts y_R_format c_R_format 3 (some .int) [] := mp_Y.of wd_576
theorem wd_588 : Cond.code y_R_id prog_8_method_20_code 3 (some .int) ∈ mp_Ts := mp_Ts_in 588 (by decide +kernel) (by decide +kernel)
theorem Y_R_id : mp_Y mp_Ts y_R_id c_R_id 3 (some .int) [] := mp_Y.of wd_588
theorem wd_596 : Cond.code y_R_begins prog_8_method_21_code 4 (some .boolean) ∈ mp_Ts := mp_Ts_in 596 (by decide +kernel) (by decide +kernel)
theorem Y_R_begins : mp_Y mp_Ts y_R_begins c_R_begins 4 (some .boolean) [] := mp_Y.of wd_596
theorem wd_592 : Cond.code y_R_runs prog_8_method_22_code 4 (some .int) ∈ mp_Ts := mp_Ts_in 592 (by decide +kernel) (by decide +kernel)
theorem Y_R_runs : mp_Y mp_Ts y_R_runs c_R_runs 4 (some .int) [] := mp_Y.of wd_592
theorem wd_600 : Cond.code y_R_run prog_8_method_23_code 8 (some .int) ∈ mp_Ts := mp_Ts_in 600 (by decide +kernel) (by decide +kernel)
theorem Y_R_run : mp_Y mp_Ts y_R_run c_R_run 8 (some .int) [] := mp_Y.of wd_600
theorem wd_604 : Cond.code y_R_count prog_8_method_24_code 5 (some .int) ∈ mp_Ts := mp_Ts_in 604 (by decide +kernel) (by decide +kernel)
theorem Y_R_count : mp_Y mp_Ts y_R_count c_R_count 5 (some .int) [] := mp_Y.of wd_604
theorem wd_608 : Cond.code y_R_alike prog_8_method_25_code 5 (some .boolean) ∈ mp_Ts := mp_Ts_in 608 (by decide +kernel) (by decide +kernel)
theorem Y_R_alike : mp_Y mp_Ts y_R_alike c_R_alike 5 (some .boolean) [] := mp_Y.of wd_608
theorem wd_323 : Cond.code y_E_init prog_2_method_1_code 5 none ∈ mp_Ts := mp_Ts_in 323 (by decide +kernel) (by decide +kernel)
theorem Y_E_init : mp_Y mp_Ts y_E_init c_E_init 5 none [] := mp_Y.of wd_323
theorem wd_284 : Cond.code y_E_reach prog_2_method_2_code 2 none ∈ mp_Ts := mp_Ts_in 284 (by decide +kernel) (by decide +kernel)
theorem Y_E_reach : mp_Y mp_Ts y_E_reach c_E_reach 2 none [] := mp_Y.of wd_284
theorem wd_346 : Cond.code y_K_init prog_3_method_1_code 7 none ∈ mp_Ts := mp_Ts_in 346 (by decide +kernel) (by decide +kernel)
theorem Y_K_init : mp_Y mp_Ts y_K_init c_K_init 7 none [] := mp_Y.of wd_346
theorem wd_341 : Cond.code y_K_endsBeforeItsEndLetter prog_3_method_2_code 1 (some .boolean) ∈ mp_Ts := mp_Ts_in 341 (by decide +kernel) (by decide +kernel)
theorem Y_K_endsBeforeItsEndLetter : mp_Y mp_Ts y_K_endsBeforeItsEndLetter c_K_endsBeforeItsEndLetter 1 (some .boolean) [] := mp_Y.of wd_341
theorem wd_287 : Cond.code y_K_reach prog_3_method_3_code 2 none ∈ mp_Ts := mp_Ts_in 287 (by decide +kernel) (by decide +kernel)
theorem Y_K_reach : mp_Y mp_Ts y_K_reach c_K_reach 2 none [] := mp_Y.of wd_287
theorem wd_405 : Cond.code y_K_covers prog_3_method_4_code 4 (some .boolean) ∈ mp_Ts := mp_Ts_in 405 (by decide +kernel) (by decide +kernel)
theorem Y_K_covers : mp_Y mp_Ts y_K_covers c_K_covers 4 (some .boolean) [] := mp_Y.of wd_405
theorem wd_235 : Cond.code y_O_init prog_4_method_1_code 4 none ∈ mp_Ts := mp_Ts_in 235 (by decide +kernel) (by decide +kernel)
theorem Y_O_init : mp_Y mp_Ts y_O_init c_O_init 4 none [] := mp_Y.of wd_235
theorem wd_44 : Cond.code y_P_init prog_5_method_1_code 1 none ∈ mp_Ts := mp_Ts_in 44 (by decide +kernel) (by decide +kernel)
theorem Y_P_init : mp_Y mp_Ts y_P_init c_P_init 1 none [] := mp_Y.of wd_44
theorem wd_229 : Cond.code y_P_nextTime prog_5_method_2_code 1 (some .int) ∈ mp_Ts := mp_Ts_in 229 (by decide +kernel) (by decide +kernel)
theorem Y_P_nextTime : mp_Y mp_Ts y_P_nextTime c_P_nextTime 1 (some .int) [] := mp_Y.of wd_229
theorem wd_275 : Cond.code y_P_learn prog_5_method_3_code 2 none ∈ mp_Ts := mp_Ts_in 275 (by decide +kernel) (by decide +kernel)
theorem Y_P_learn : mp_Y mp_Ts y_P_learn c_P_learn 2 none [] := mp_Y.of wd_275
theorem wd_454 : Cond.code y_P_knowsAllOf prog_5_method_4_code 3 (some .boolean) ∈ mp_Ts := mp_Ts_in 454 (by decide +kernel) (by decide +kernel)
theorem Y_P_knowsAllOf : mp_Y mp_Ts y_P_knowsAllOf c_P_knowsAllOf 3 (some .boolean) [] := mp_Y.of wd_454
theorem wd_298 : Cond.code y_P_putIntoRow prog_5_method_5_code 4 none ∈ mp_Ts := mp_Ts_in 298 (by decide +kernel) (by decide +kernel)
theorem Y_P_putIntoRow : mp_Y mp_Ts y_P_putIntoRow c_P_putIntoRow 4 none [] := mp_Y.of wd_298
theorem wd_302 : Cond.code y_P_setInRow prog_5_method_6_code 3 none ∈ mp_Ts := mp_Ts_in 302 (by decide +kernel) (by decide +kernel)
theorem Y_P_setInRow : mp_Y mp_Ts y_P_setInRow c_P_setInRow 3 none [] := mp_Y.of wd_302
theorem wd_291 : Cond.code y_P_addMarking prog_5_method_7_code 3 none ∈ mp_Ts := mp_Ts_in 291 (by decide +kernel) (by decide +kernel)
theorem Y_P_addMarking : mp_Y mp_Ts y_P_addMarking c_P_addMarking 3 none [] := mp_Y.of wd_291
theorem wd_306 : Cond.code y_P_gatherText prog_5_method_8_code 2 none ∈ mp_Ts := mp_Ts_in 306 (by decide +kernel) (by decide +kernel)
theorem Y_P_gatherText : mp_Y mp_Ts y_P_gatherText c_P_gatherText 2 none [] := mp_Y.of wd_306
theorem wd_317 : Cond.code y_P_writingShownAt prog_5_method_9_code 2 (some (.object "MarkedPages$Writing")) ∈ mp_Ts := mp_Ts_in 317 (by decide +kernel) (by decide +kernel)
theorem Y_P_writingShownAt : mp_Y mp_Ts y_P_writingShownAt c_P_writingShownAt 2 (some (.object "MarkedPages$Writing")) [] := mp_Y.of wd_317
theorem wd_401 : Cond.code y_P_formatOf prog_5_method_10_code 6 (some .int) ∈ mp_Ts := mp_Ts_in 401 (by decide +kernel) (by decide +kernel)
theorem Y_P_formatOf : mp_Y mp_Ts y_P_formatOf c_P_formatOf 6 (some .int) [] := mp_Y.of wd_401
theorem wd_423 : Cond.code y_P_startsRun prog_5_method_11_code 2 (some .boolean) ∈ mp_Ts := mp_Ts_in 423 (by decide +kernel) (by decide +kernel)
theorem Y_P_startsRun : mp_Y mp_Ts y_P_startsRun c_P_startsRun 2 (some .boolean) [] := mp_Y.of wd_423
theorem wd_435 : Cond.code y_P_startOfRun prog_5_method_12_code 4 (some .int) ∈ mp_Ts := mp_Ts_in 435 (by decide +kernel) (by decide +kernel)
theorem Y_P_startOfRun : mp_Y mp_Ts y_P_startOfRun c_P_startOfRun 4 (some .int) [] := mp_Y.of wd_435
theorem wd_232 : Cond.code y_W_init prog_6_method_1_code 6 none ∈ mp_Ts := mp_Ts_in 232 (by decide +kernel) (by decide +kernel)
theorem Y_W_init : mp_Y mp_Ts y_W_init c_W_init 6 none [] := mp_Y.of wd_232
theorem wd_294 : Cond.code y_W_reach prog_6_method_2_code 2 none ∈ mp_Ts := mp_Ts_in 294 (by decide +kernel) (by decide +kernel)
theorem Y_W_reach : mp_Y mp_Ts y_W_reach c_W_reach 2 none [] := mp_Y.of wd_294
theorem wd_109 : Cond.codeWith y_L_write method_3_code 6 (some .int) [(0, 12, 15, 13), (0, 12, 19, 15), (0, 12, 23, 17)] ∈ mp_Ts := mp_Ts_in 109 (by decide +kernel) (by decide +kernel)
theorem Y_L_write : mp_Y mp_Ts y_L_write c_L_write 6 (some .int) [(0, 12, 15, 13), (0, 12, 19, 15), (0, 12, 23, 17)] := mp_Y.ofWith wd_109
theorem wd_309 : Cond.codeWith y_L_erase method_4_code 5 (some .int) [(0, 10, 13, 13), (0, 10, 17, 15), (0, 10, 21, 17)] ∈ mp_Ts := mp_Ts_in 309 (by decide +kernel) (by decide +kernel)
theorem Y_L_erase : mp_Y mp_Ts y_L_erase c_L_erase 5 (some .int) [(0, 10, 13, 13), (0, 10, 17, 15), (0, 10, 21, 17)] := mp_Y.ofWith wd_309
theorem wd_334 : Cond.codeWith y_L_mark method_5_code 7 (some .int) [(0, 14, 17, 13), (0, 14, 21, 15), (0, 14, 25, 17)] ∈ mp_Ts := mp_Ts_in 334 (by decide +kernel) (by decide +kernel)
theorem Y_L_mark : mp_Y mp_Ts y_L_mark c_L_mark 7 (some .int) [(0, 14, 17, 13), (0, 14, 21, 15), (0, 14, 25, 17)] := mp_Y.ofWith wd_334
theorem wd_372 : Cond.codeWith y_L_tell method_6_code 6 (some .int) [(0, 12, 15, 13)] ∈ mp_Ts := mp_Ts_in 372 (by decide +kernel) (by decide +kernel)
theorem Y_L_tell : mp_Y mp_Ts y_L_tell c_L_tell 6 (some .int) [(0, 12, 15, 13)] := mp_Y.ofWith wd_372
theorem wd_379 : Cond.codeWith y_L_length method_7_code 4 (some .int) [(0, 9, 12, 13)] ∈ mp_Ts := mp_Ts_in 379 (by decide +kernel) (by decide +kernel)
theorem Y_L_length : mp_Y mp_Ts y_L_length c_L_length 4 (some .int) [(0, 9, 12, 13)] := mp_Y.ofWith wd_379
theorem wd_386 : Cond.codeWith y_L_at method_8_code 5 (some .int) [(0, 10, 13, 13), (0, 10, 17, 15)] ∈ mp_Ts := mp_Ts_in 386 (by decide +kernel) (by decide +kernel)
theorem Y_L_at : mp_Y mp_Ts y_L_at c_L_at 5 (some .int) [(0, 10, 13, 13), (0, 10, 17, 15)] := mp_Y.ofWith wd_386
theorem wd_393 : Cond.codeWith y_L_format method_9_code 5 (some .int) [(0, 10, 13, 13), (0, 10, 17, 15)] ∈ mp_Ts := mp_Ts_in 393 (by decide +kernel) (by decide +kernel)
theorem Y_L_format : mp_Y mp_Ts y_L_format c_L_format 5 (some .int) [(0, 10, 13, 13), (0, 10, 17, 15)] := mp_Y.ofWith wd_393
theorem wd_408 : Cond.codeWith y_L_id method_10_code 5 (some .int) [(0, 10, 13, 13), (0, 10, 17, 15)] ∈ mp_Ts := mp_Ts_in 408 (by decide +kernel) (by decide +kernel)
theorem Y_L_id : mp_Y mp_Ts y_L_id c_L_id 5 (some .int) [(0, 10, 13, 13), (0, 10, 17, 15)] := mp_Y.ofWith wd_408
theorem wd_415 : Cond.codeWith y_L_runs method_11_code 4 (some .int) [(0, 9, 12, 13)] ∈ mp_Ts := mp_Ts_in 415 (by decide +kernel) (by decide +kernel)
theorem Y_L_runs : mp_Y mp_Ts y_L_runs c_L_runs 4 (some .int) [(0, 9, 12, 13)] := mp_Y.ofWith wd_415
theorem wd_427 : Cond.codeWith y_L_run method_12_code 6 (some .int) [(0, 12, 15, 13), (0, 12, 19, 15)] ∈ mp_Ts := mp_Ts_in 427 (by decide +kernel) (by decide +kernel)
theorem Y_L_run : mp_Y mp_Ts y_L_run c_L_run 6 (some .int) [(0, 12, 15, 13), (0, 12, 19, 15)] := mp_Y.ofWith wd_427
theorem wd_439 : Cond.codeWith y_L_count method_13_code 5 (some .int) [(0, 10, 13, 13)] ∈ mp_Ts := mp_Ts_in 439 (by decide +kernel) (by decide +kernel)
theorem Y_L_count : mp_Y mp_Ts y_L_count c_L_count 5 (some .int) [(0, 10, 13, 13)] := mp_Y.ofWith wd_439
theorem wd_446 : Cond.codeWith y_L_alike method_14_code 5 (some .int) [(0, 17, 20, 13)] ∈ mp_Ts := mp_Ts_in 446 (by decide +kernel) (by decide +kernel)
theorem Y_L_alike : mp_Y mp_Ts y_L_alike c_L_alike 5 (some .int) [(0, 17, 20, 13)] := mp_Y.ofWith wd_446
theorem wd_52 : Cond.fieldLink "MarkedPages$Page" 11 "MarkedPages$Page" "known" "[LMarkedPages$Operation;" ∈ mp_Ts := mp_Ts_in 52 (by decide +kernel) (by decide +kernel)
theorem lk_P_11_P : mp_L mp_Ts "MarkedPages$Page" 11 1 12 0 := ⟨by decide, by decide, nR_P, nT_P, "MarkedPages$Page", rfl, ws_P, wd_52, Or.inl rfl⟩
theorem ls_P_11_P : mp_LS mp_Ts "MarkedPages$Page" 11 1 12 0 true (nF_P 0) := ⟨by decide, by decide, nR_P, nT_P, "MarkedPages$Page", nF_P, rfl, ws_P, wd_52, Or.inl rfl, nK_P, nN_P, rfl, Or.inl rfl, rfl⟩
theorem wd_53 : Cond.fieldLink "MarkedPages" 79 "MarkedPages$Page" "known" "[LMarkedPages$Operation;" ∈ mp_Ts := mp_Ts_in 53 (by decide +kernel) (by decide +kernel)
theorem lk_M_79_P : mp_L mp_Ts "MarkedPages" 79 1 12 0 := ⟨by decide, by decide, nR_P, nT_P, "MarkedPages$Page", rfl, ws_P, wd_53, Or.inl rfl⟩
theorem wd_54 : Cond.fieldLink "MarkedPages$Page" 47 "MarkedPages$Page" "knownSize" "I" ∈ mp_Ts := mp_Ts_in 54 (by decide +kernel) (by decide +kernel)
theorem lk_P_47_P : mp_L mp_Ts "MarkedPages$Page" 47 1 12 1 := ⟨by decide, by decide, nR_P, nT_P, "MarkedPages$Page", rfl, ws_P, wd_54, Or.inl rfl⟩
theorem ls_P_47_P : mp_LS mp_Ts "MarkedPages$Page" 47 1 12 1 false (nF_P 1) := ⟨by decide, by decide, nR_P, nT_P, "MarkedPages$Page", nF_P, rfl, ws_P, wd_54, Or.inl rfl, nK_P, nN_P, rfl, Or.inl rfl, rfl⟩
theorem wd_55 : Cond.fieldLink "MarkedPages" 76 "MarkedPages$Page" "knownSize" "I" ∈ mp_Ts := mp_Ts_in 55 (by decide +kernel) (by decide +kernel)
theorem lk_M_76_P : mp_L mp_Ts "MarkedPages" 76 1 12 1 := ⟨by decide, by decide, nR_P, nT_P, "MarkedPages$Page", rfl, ws_P, wd_55, Or.inl rfl⟩
theorem ls_M_76_P : mp_LS mp_Ts "MarkedPages" 76 1 12 1 false (nF_P 1) := ⟨by decide, by decide, nR_P, nT_P, "MarkedPages$Page", nF_P, rfl, ws_P, wd_55, Or.inl rfl, nK_P, nN_P, rfl, Or.inr rfl, rfl⟩
theorem wd_56 : Cond.fieldLink "MarkedPages$Page" 43 "MarkedPages$Page" "greatestTime" "I" ∈ mp_Ts := mp_Ts_in 56 (by decide +kernel) (by decide +kernel)
theorem lk_P_43_P : mp_L mp_Ts "MarkedPages$Page" 43 1 12 2 := ⟨by decide, by decide, nR_P, nT_P, "MarkedPages$Page", rfl, ws_P, wd_56, Or.inl rfl⟩
theorem ls_P_43_P : mp_LS mp_Ts "MarkedPages$Page" 43 1 12 2 false (nF_P 2) := ⟨by decide, by decide, nR_P, nT_P, "MarkedPages$Page", nF_P, rfl, ws_P, wd_56, Or.inl rfl, nK_P, nN_P, rfl, Or.inl rfl, rfl⟩
theorem wd_57 : Cond.fieldLink "MarkedPages" 110 "MarkedPages$Page" "greatestTime" "I" ∈ mp_Ts := mp_Ts_in 57 (by decide +kernel) (by decide +kernel)
theorem lk_M_110_P : mp_L mp_Ts "MarkedPages" 110 1 12 2 := ⟨by decide, by decide, nR_P, nT_P, "MarkedPages$Page", rfl, ws_P, wd_57, Or.inl rfl⟩
theorem ls_M_110_P : mp_LS mp_Ts "MarkedPages" 110 1 12 2 false (nF_P 2) := ⟨by decide, by decide, nR_P, nT_P, "MarkedPages$Page", nF_P, rfl, ws_P, wd_57, Or.inl rfl, nK_P, nN_P, rfl, Or.inr rfl, rfl⟩
theorem wd_58 : Cond.fieldLink "MarkedPages$Page" 19 "MarkedPages$Page" "row" "[LMarkedPages$Writing;" ∈ mp_Ts := mp_Ts_in 58 (by decide +kernel) (by decide +kernel)
theorem lk_P_19_P : mp_L mp_Ts "MarkedPages$Page" 19 1 12 3 := ⟨by decide, by decide, nR_P, nT_P, "MarkedPages$Page", rfl, ws_P, wd_58, Or.inl rfl⟩
theorem ls_P_19_P : mp_LS mp_Ts "MarkedPages$Page" 19 1 12 3 true (nF_P 3) := ⟨by decide, by decide, nR_P, nT_P, "MarkedPages$Page", nF_P, rfl, ws_P, wd_58, Or.inl rfl, nK_P, nN_P, rfl, Or.inl rfl, rfl⟩
theorem wd_59 : Cond.fieldLink "MarkedPages$Page" 74 "MarkedPages$Page" "rowSize" "I" ∈ mp_Ts := mp_Ts_in 59 (by decide +kernel) (by decide +kernel)
theorem lk_P_74_P : mp_L mp_Ts "MarkedPages$Page" 74 1 12 4 := ⟨by decide, by decide, nR_P, nT_P, "MarkedPages$Page", rfl, ws_P, wd_59, Or.inl rfl⟩
theorem ls_P_74_P : mp_LS mp_Ts "MarkedPages$Page" 74 1 12 4 false (nF_P 4) := ⟨by decide, by decide, nR_P, nT_P, "MarkedPages$Page", nF_P, rfl, ws_P, wd_59, Or.inl rfl, nK_P, nN_P, rfl, Or.inl rfl, rfl⟩
theorem wd_60 : Cond.fieldLink "MarkedPages" 113 "MarkedPages$Page" "rowSize" "I" ∈ mp_Ts := mp_Ts_in 60 (by decide +kernel) (by decide +kernel)
theorem lk_M_113_P : mp_L mp_Ts "MarkedPages" 113 1 12 4 := ⟨by decide, by decide, nR_P, nT_P, "MarkedPages$Page", rfl, ws_P, wd_60, Or.inl rfl⟩
theorem ls_M_113_P : mp_LS mp_Ts "MarkedPages" 113 1 12 4 false (nF_P 4) := ⟨by decide, by decide, nR_P, nT_P, "MarkedPages$Page", nF_P, rfl, ws_P, wd_60, Or.inl rfl, nK_P, nN_P, rfl, Or.inr rfl, rfl⟩
theorem wd_61 : Cond.fieldLink "MarkedPages$Page" 23 "MarkedPages$Page" "text" "[LMarkedPages$Writing;" ∈ mp_Ts := mp_Ts_in 61 (by decide +kernel) (by decide +kernel)
theorem lk_P_23_P : mp_L mp_Ts "MarkedPages$Page" 23 1 12 5 := ⟨by decide, by decide, nR_P, nT_P, "MarkedPages$Page", rfl, ws_P, wd_61, Or.inl rfl⟩
theorem ls_P_23_P : mp_LS mp_Ts "MarkedPages$Page" 23 1 12 5 true (nF_P 5) := ⟨by decide, by decide, nR_P, nT_P, "MarkedPages$Page", nF_P, rfl, ws_P, wd_61, Or.inl rfl, nK_P, nN_P, rfl, Or.inl rfl, rfl⟩
theorem wd_62 : Cond.fieldLink "MarkedPages" 34 "MarkedPages$Page" "text" "[LMarkedPages$Writing;" ∈ mp_Ts := mp_Ts_in 62 (by decide +kernel) (by decide +kernel)
theorem lk_M_34_P : mp_L mp_Ts "MarkedPages" 34 1 12 5 := ⟨by decide, by decide, nR_P, nT_P, "MarkedPages$Page", rfl, ws_P, wd_62, Or.inl rfl⟩
theorem wd_63 : Cond.fieldLink "MarkedPages" 24 "MarkedPages$Page" "textSize" "I" ∈ mp_Ts := mp_Ts_in 63 (by decide +kernel) (by decide +kernel)
theorem lk_M_24_P : mp_L mp_Ts "MarkedPages" 24 1 12 6 := ⟨by decide, by decide, nR_P, nT_P, "MarkedPages$Page", rfl, ws_P, wd_63, Or.inl rfl⟩
theorem ls_M_24_P : mp_LS mp_Ts "MarkedPages" 24 1 12 6 false (nF_P 6) := ⟨by decide, by decide, nR_P, nT_P, "MarkedPages$Page", nF_P, rfl, ws_P, wd_63, Or.inl rfl, nK_P, nN_P, rfl, Or.inr rfl, rfl⟩
theorem wd_64 : Cond.fieldLink "MarkedPages$Page" 88 "MarkedPages$Page" "textSize" "I" ∈ mp_Ts := mp_Ts_in 64 (by decide +kernel) (by decide +kernel)
theorem lk_P_88_P : mp_L mp_Ts "MarkedPages$Page" 88 1 12 6 := ⟨by decide, by decide, nR_P, nT_P, "MarkedPages$Page", rfl, ws_P, wd_64, Or.inl rfl⟩
theorem ls_P_88_P : mp_LS mp_Ts "MarkedPages$Page" 88 1 12 6 false (nF_P 6) := ⟨by decide, by decide, nR_P, nT_P, "MarkedPages$Page", nF_P, rfl, ws_P, wd_64, Or.inl rfl, nK_P, nN_P, rfl, Or.inl rfl, rfl⟩
theorem wd_65 : Cond.fieldLink "MarkedPages$Page" 28 "MarkedPages$Page" "markings" "[LMarkedPages$Marking;" ∈ mp_Ts := mp_Ts_in 65 (by decide +kernel) (by decide +kernel)
theorem lk_P_28_P : mp_L mp_Ts "MarkedPages$Page" 28 1 12 7 := ⟨by decide, by decide, nR_P, nT_P, "MarkedPages$Page", rfl, ws_P, wd_65, Or.inl rfl⟩
theorem ls_P_28_P : mp_LS mp_Ts "MarkedPages$Page" 28 1 12 7 true (nF_P 7) := ⟨by decide, by decide, nR_P, nT_P, "MarkedPages$Page", nF_P, rfl, ws_P, wd_65, Or.inl rfl, nK_P, nN_P, rfl, Or.inl rfl, rfl⟩
theorem wd_66 : Cond.fieldLink "MarkedPages$Page" 84 "MarkedPages$Page" "markingsSize" "I" ∈ mp_Ts := mp_Ts_in 66 (by decide +kernel) (by decide +kernel)
theorem lk_P_84_P : mp_L mp_Ts "MarkedPages$Page" 84 1 12 8 := ⟨by decide, by decide, nR_P, nT_P, "MarkedPages$Page", rfl, ws_P, wd_66, Or.inl rfl⟩
theorem ls_P_84_P : mp_LS mp_Ts "MarkedPages$Page" 84 1 12 8 false (nF_P 8) := ⟨by decide, by decide, nR_P, nT_P, "MarkedPages$Page", nF_P, rfl, ws_P, wd_66, Or.inl rfl, nK_P, nN_P, rfl, Or.inl rfl, rfl⟩
theorem wd_67 : Cond.fieldLink "MarkedPages" 116 "MarkedPages$Page" "markingsSize" "I" ∈ mp_Ts := mp_Ts_in 67 (by decide +kernel) (by decide +kernel)
theorem lk_M_116_P : mp_L mp_Ts "MarkedPages" 116 1 12 8 := ⟨by decide, by decide, nR_P, nT_P, "MarkedPages$Page", rfl, ws_P, wd_67, Or.inl rfl⟩
theorem ls_M_116_P : mp_LS mp_Ts "MarkedPages" 116 1 12 8 false (nF_P 8) := ⟨by decide, by decide, nR_P, nT_P, "MarkedPages$Page", nF_P, rfl, ws_P, wd_67, Or.inl rfl, nK_P, nN_P, rfl, Or.inr rfl, rfl⟩
theorem wd_68 : Cond.fieldLink "MarkedPages$Page" 32 "MarkedPages$Page" "knows" "[Z" ∈ mp_Ts := mp_Ts_in 68 (by decide +kernel) (by decide +kernel)
theorem lk_P_32_P : mp_L mp_Ts "MarkedPages$Page" 32 1 12 9 := ⟨by decide, by decide, nR_P, nT_P, "MarkedPages$Page", rfl, ws_P, wd_68, Or.inl rfl⟩
theorem ls_P_32_P : mp_LS mp_Ts "MarkedPages$Page" 32 1 12 9 true (nF_P 9) := ⟨by decide, by decide, nR_P, nT_P, "MarkedPages$Page", nF_P, rfl, ws_P, wd_68, Or.inl rfl, nK_P, nN_P, rfl, Or.inl rfl, rfl⟩
theorem wd_69 : Cond.fieldLink "MarkedPages" 83 "MarkedPages$Page" "knows" "[Z" ∈ mp_Ts := mp_Ts_in 69 (by decide +kernel) (by decide +kernel)
theorem lk_M_83_P : mp_L mp_Ts "MarkedPages" 83 1 12 9 := ⟨by decide, by decide, nR_P, nT_P, "MarkedPages$Page", rfl, ws_P, wd_69, Or.inl rfl⟩
theorem wd_70 : Cond.fieldLink "MarkedPages$Page" 36 "MarkedPages$Page" "gone" "[Z" ∈ mp_Ts := mp_Ts_in 70 (by decide +kernel) (by decide +kernel)
theorem lk_P_36_P : mp_L mp_Ts "MarkedPages$Page" 36 1 12 10 := ⟨by decide, by decide, nR_P, nT_P, "MarkedPages$Page", rfl, ws_P, wd_70, Or.inl rfl⟩
theorem ls_P_36_P : mp_LS mp_Ts "MarkedPages$Page" 36 1 12 10 true (nF_P 10) := ⟨by decide, by decide, nR_P, nT_P, "MarkedPages$Page", nF_P, rfl, ws_P, wd_70, Or.inl rfl, nK_P, nN_P, rfl, Or.inl rfl, rfl⟩
theorem wd_71 : Cond.fieldLink "MarkedPages$Erasing" 13 "MarkedPages$Page" "gone" "[Z" ∈ mp_Ts := mp_Ts_in 71 (by decide +kernel) (by decide +kernel)
theorem lk_E_13_P : mp_L mp_Ts "MarkedPages$Erasing" 13 1 12 10 := ⟨by decide, by decide, nR_P, nT_P, "MarkedPages$Page", rfl, ws_P, wd_71, Or.inl rfl⟩
theorem wd_72 : Cond.fieldLink "MarkedPages$Page" 39 "MarkedPages$Page" "places" "[I" ∈ mp_Ts := mp_Ts_in 72 (by decide +kernel) (by decide +kernel)
theorem lk_P_39_P : mp_L mp_Ts "MarkedPages$Page" 39 1 12 11 := ⟨by decide, by decide, nR_P, nT_P, "MarkedPages$Page", rfl, ws_P, wd_72, Or.inl rfl⟩
theorem ls_P_39_P : mp_LS mp_Ts "MarkedPages$Page" 39 1 12 11 true (nF_P 11) := ⟨by decide, by decide, nR_P, nT_P, "MarkedPages$Page", nF_P, rfl, ws_P, wd_72, Or.inl rfl, nK_P, nN_P, rfl, Or.inl rfl, rfl⟩
theorem wd_100 : Cond.fieldLink "MarkedPages" 11 "MarkedPages" "pages" "[LMarkedPages$Page;" ∈ mp_Ts := mp_Ts_in 100 (by decide +kernel) (by decide +kernel)
theorem lk_M_11_M : mp_L mp_Ts "MarkedPages" 11 0 2 0 := ⟨by decide, by decide, nR_M, nT_M, "MarkedPages", rfl, ws_M, wd_100, Or.inl rfl⟩
theorem ls_M_11_M : mp_LS mp_Ts "MarkedPages" 11 0 2 0 true (nF_M 0) := ⟨by decide, by decide, nR_M, nT_M, "MarkedPages", nF_M, rfl, ws_M, wd_100, Or.inl rfl, nK_M, nN_M, rfl, Or.inl rfl, rfl⟩
theorem wd_101 : Cond.fieldLink "MarkedPages" 16 "MarkedPages" "made" "I" ∈ mp_Ts := mp_Ts_in 101 (by decide +kernel) (by decide +kernel)
theorem lk_M_16_M : mp_L mp_Ts "MarkedPages" 16 0 2 1 := ⟨by decide, by decide, nR_M, nT_M, "MarkedPages", rfl, ws_M, wd_101, Or.inl rfl⟩
theorem ls_M_16_M : mp_LS mp_Ts "MarkedPages" 16 0 2 1 false (nF_M 1) := ⟨by decide, by decide, nR_M, nT_M, "MarkedPages", nF_M, rfl, ws_M, wd_101, Or.inl rfl, nK_M, nN_M, rfl, Or.inl rfl, rfl⟩
theorem wd_237 : Cond.fieldLink "MarkedPages$Writing" 7 "MarkedPages$Writing" "letter" "C" ∈ mp_Ts := mp_Ts_in 237 (by decide +kernel) (by decide +kernel)
theorem lk_W_7_W : mp_L mp_Ts "MarkedPages$Writing" 7 2 5 3 := ⟨by decide, by decide, nR_W, nT_W, "MarkedPages$Writing", rfl, ws_W, wd_237, Or.inl rfl⟩
theorem ls_W_7_W : mp_LS mp_Ts "MarkedPages$Writing" 7 2 5 3 true (nF_W 3) := ⟨by decide, by decide, nR_W, nT_W, "MarkedPages$Writing", nF_W, rfl, ws_W, wd_237, Or.inl rfl, nK_W, nN_W, rfl, Or.inl rfl, rfl⟩
theorem wd_238 : Cond.fieldLink "MarkedPages" 60 "MarkedPages$Writing" "letter" "C" ∈ mp_Ts := mp_Ts_in 238 (by decide +kernel) (by decide +kernel)
theorem lk_M_60_W : mp_L mp_Ts "MarkedPages" 60 2 5 3 := ⟨by decide, by decide, nR_W, nT_W, "MarkedPages$Writing", rfl, ws_W, wd_238, Or.inl rfl⟩
theorem wd_239 : Cond.fieldLink "MarkedPages$Writing" 13 "MarkedPages$Writing" "parent" "LMarkedPages$Writing;" ∈ mp_Ts := mp_Ts_in 239 (by decide +kernel) (by decide +kernel)
theorem lk_W_13_W : mp_L mp_Ts "MarkedPages$Writing" 13 2 5 4 := ⟨by decide, by decide, nR_W, nT_W, "MarkedPages$Writing", rfl, ws_W, wd_239, Or.inl rfl⟩
theorem ls_W_13_W : mp_LS mp_Ts "MarkedPages$Writing" 13 2 5 4 true (nF_W 4) := ⟨by decide, by decide, nR_W, nT_W, "MarkedPages$Writing", nF_W, rfl, ws_W, wd_239, Or.inl rfl, nK_W, nN_W, rfl, Or.inl rfl, rfl⟩
theorem wd_240 : Cond.fieldLink "MarkedPages$Page" 69 "MarkedPages$Writing" "parent" "LMarkedPages$Writing;" ∈ mp_Ts := mp_Ts_in 240 (by decide +kernel) (by decide +kernel)
theorem lk_P_69_W : mp_L mp_Ts "MarkedPages$Page" 69 2 5 4 := ⟨by decide, by decide, nR_W, nT_W, "MarkedPages$Writing", rfl, ws_W, wd_240, Or.inl rfl⟩
theorem wd_241 : Cond.fieldLink "MarkedPages$Operation" 7 "MarkedPages$Operation" "number" "I" ∈ mp_Ts := mp_Ts_in 241 (by decide +kernel) (by decide +kernel)
theorem lk_O_7_W : mp_L mp_Ts "MarkedPages$Operation" 7 2 5 0 := ⟨by decide, by decide, nR_W, nT_W, "MarkedPages$Operation", rfl, ws_W, wd_241, Or.inl rfl⟩
theorem ls_O_7_W : mp_LS mp_Ts "MarkedPages$Operation" 7 2 5 0 true (nF_W 0) := ⟨by decide, by decide, nR_W, nT_W, "MarkedPages$Operation", nF_W, rfl, ws_W, wd_241, Or.inl rfl, nK_W, nN_W, rfl, Or.inl rfl, rfl⟩
theorem lk_O_7_E : mp_L mp_Ts "MarkedPages$Operation" 7 3 4 0 := ⟨by decide, by decide, nR_E, nT_E, "MarkedPages$Operation", rfl, ws_E, wd_241, Or.inl rfl⟩
theorem ls_O_7_E : mp_LS mp_Ts "MarkedPages$Operation" 7 3 4 0 true (nF_E 0) := ⟨by decide, by decide, nR_E, nT_E, "MarkedPages$Operation", nF_E, rfl, ws_E, wd_241, Or.inl rfl, nK_E, nN_E, rfl, Or.inl rfl, rfl⟩
theorem lk_O_7_K : mp_L mp_Ts "MarkedPages$Operation" 7 4 8 0 := ⟨by decide, by decide, nR_K, nT_K, "MarkedPages$Operation", rfl, ws_K, wd_241, Or.inl rfl⟩
theorem ls_O_7_K : mp_LS mp_Ts "MarkedPages$Operation" 7 4 8 0 true (nF_K 0) := ⟨by decide, by decide, nR_K, nT_K, "MarkedPages$Operation", nF_K, rfl, ws_K, wd_241, Or.inl rfl, nK_K, nN_K, rfl, Or.inl rfl, rfl⟩
theorem wd_242 : Cond.fieldLink "MarkedPages$Erasing" 19 "MarkedPages$Writing" "number" "I" ∈ mp_Ts := mp_Ts_in 242 (by decide +kernel) (by decide +kernel)
theorem wd_243 : Cond.sameField "MarkedPages$Writing" "MarkedPages$Operation" "number" "I" ∈ mp_Ts := mp_Ts_in 243 (by decide +kernel) (by decide +kernel)
theorem lk_E_19_W : mp_L mp_Ts "MarkedPages$Erasing" 19 2 5 0 := ⟨by decide, by decide, nR_W, nT_W, "MarkedPages$Writing", rfl, ws_W, wd_242, Or.inr wd_243⟩
theorem wd_244 : Cond.fieldLink "MarkedPages$Page" 50 "MarkedPages$Operation" "number" "I" ∈ mp_Ts := mp_Ts_in 244 (by decide +kernel) (by decide +kernel)
theorem lk_P_50_W : mp_L mp_Ts "MarkedPages$Page" 50 2 5 0 := ⟨by decide, by decide, nR_W, nT_W, "MarkedPages$Operation", rfl, ws_W, wd_244, Or.inl rfl⟩
theorem lk_P_50_E : mp_L mp_Ts "MarkedPages$Page" 50 3 4 0 := ⟨by decide, by decide, nR_E, nT_E, "MarkedPages$Operation", rfl, ws_E, wd_244, Or.inl rfl⟩
theorem lk_P_50_K : mp_L mp_Ts "MarkedPages$Page" 50 4 8 0 := ⟨by decide, by decide, nR_K, nT_K, "MarkedPages$Operation", rfl, ws_K, wd_244, Or.inl rfl⟩
theorem wd_245 : Cond.fieldLink "MarkedPages$Marking" 37 "MarkedPages$Writing" "number" "I" ∈ mp_Ts := mp_Ts_in 245 (by decide +kernel) (by decide +kernel)
theorem lk_K_37_W : mp_L mp_Ts "MarkedPages$Marking" 37 2 5 0 := ⟨by decide, by decide, nR_W, nT_W, "MarkedPages$Writing", rfl, ws_W, wd_245, Or.inr wd_243⟩
theorem wd_246 : Cond.fieldLink "MarkedPages$Page" 73 "MarkedPages$Writing" "number" "I" ∈ mp_Ts := mp_Ts_in 246 (by decide +kernel) (by decide +kernel)
theorem lk_P_73_W : mp_L mp_Ts "MarkedPages$Page" 73 2 5 0 := ⟨by decide, by decide, nR_W, nT_W, "MarkedPages$Writing", rfl, ws_W, wd_246, Or.inr wd_243⟩
theorem wd_247 : Cond.fieldLink "MarkedPages" 87 "MarkedPages$Operation" "number" "I" ∈ mp_Ts := mp_Ts_in 247 (by decide +kernel) (by decide +kernel)
theorem lk_M_87_W : mp_L mp_Ts "MarkedPages" 87 2 5 0 := ⟨by decide, by decide, nR_W, nT_W, "MarkedPages$Operation", rfl, ws_W, wd_247, Or.inl rfl⟩
theorem lk_M_87_E : mp_L mp_Ts "MarkedPages" 87 3 4 0 := ⟨by decide, by decide, nR_E, nT_E, "MarkedPages$Operation", rfl, ws_E, wd_247, Or.inl rfl⟩
theorem lk_M_87_K : mp_L mp_Ts "MarkedPages" 87 4 8 0 := ⟨by decide, by decide, nR_K, nT_K, "MarkedPages$Operation", rfl, ws_K, wd_247, Or.inl rfl⟩
theorem wd_248 : Cond.fieldLink "MarkedPages$Operation" 13 "MarkedPages$Operation" "time" "I" ∈ mp_Ts := mp_Ts_in 248 (by decide +kernel) (by decide +kernel)
theorem lk_O_13_W : mp_L mp_Ts "MarkedPages$Operation" 13 2 5 1 := ⟨by decide, by decide, nR_W, nT_W, "MarkedPages$Operation", rfl, ws_W, wd_248, Or.inl rfl⟩
theorem ls_O_13_W : mp_LS mp_Ts "MarkedPages$Operation" 13 2 5 1 true (nF_W 1) := ⟨by decide, by decide, nR_W, nT_W, "MarkedPages$Operation", nF_W, rfl, ws_W, wd_248, Or.inl rfl, nK_W, nN_W, rfl, Or.inl rfl, rfl⟩
theorem lk_O_13_E : mp_L mp_Ts "MarkedPages$Operation" 13 3 4 1 := ⟨by decide, by decide, nR_E, nT_E, "MarkedPages$Operation", rfl, ws_E, wd_248, Or.inl rfl⟩
theorem ls_O_13_E : mp_LS mp_Ts "MarkedPages$Operation" 13 3 4 1 true (nF_E 1) := ⟨by decide, by decide, nR_E, nT_E, "MarkedPages$Operation", nF_E, rfl, ws_E, wd_248, Or.inl rfl, nK_E, nN_E, rfl, Or.inl rfl, rfl⟩
theorem lk_O_13_K : mp_L mp_Ts "MarkedPages$Operation" 13 4 8 1 := ⟨by decide, by decide, nR_K, nT_K, "MarkedPages$Operation", rfl, ws_K, wd_248, Or.inl rfl⟩
theorem ls_O_13_K : mp_LS mp_Ts "MarkedPages$Operation" 13 4 8 1 true (nF_K 1) := ⟨by decide, by decide, nR_K, nT_K, "MarkedPages$Operation", nF_K, rfl, ws_K, wd_248, Or.inl rfl, nK_K, nN_K, rfl, Or.inl rfl, rfl⟩
theorem wd_249 : Cond.fieldLink "MarkedPages$Page" 53 "MarkedPages$Operation" "time" "I" ∈ mp_Ts := mp_Ts_in 249 (by decide +kernel) (by decide +kernel)
theorem lk_P_53_W : mp_L mp_Ts "MarkedPages$Page" 53 2 5 1 := ⟨by decide, by decide, nR_W, nT_W, "MarkedPages$Operation", rfl, ws_W, wd_249, Or.inl rfl⟩
theorem lk_P_53_E : mp_L mp_Ts "MarkedPages$Page" 53 3 4 1 := ⟨by decide, by decide, nR_E, nT_E, "MarkedPages$Operation", rfl, ws_E, wd_249, Or.inl rfl⟩
theorem lk_P_53_K : mp_L mp_Ts "MarkedPages$Page" 53 4 8 1 := ⟨by decide, by decide, nR_K, nT_K, "MarkedPages$Operation", rfl, ws_K, wd_249, Or.inl rfl⟩
theorem wd_250 : Cond.fieldLink "MarkedPages" 123 "MarkedPages$Operation" "time" "I" ∈ mp_Ts := mp_Ts_in 250 (by decide +kernel) (by decide +kernel)
theorem lk_M_123_W : mp_L mp_Ts "MarkedPages" 123 2 5 1 := ⟨by decide, by decide, nR_W, nT_W, "MarkedPages$Operation", rfl, ws_W, wd_250, Or.inl rfl⟩
theorem lk_M_123_E : mp_L mp_Ts "MarkedPages" 123 3 4 1 := ⟨by decide, by decide, nR_E, nT_E, "MarkedPages$Operation", rfl, ws_E, wd_250, Or.inl rfl⟩
theorem lk_M_123_K : mp_L mp_Ts "MarkedPages" 123 4 8 1 := ⟨by decide, by decide, nR_K, nT_K, "MarkedPages$Operation", rfl, ws_K, wd_250, Or.inl rfl⟩
theorem wd_251 : Cond.fieldLink "MarkedPages$Operation" 16 "MarkedPages$Operation" "rank" "I" ∈ mp_Ts := mp_Ts_in 251 (by decide +kernel) (by decide +kernel)
theorem lk_O_16_W : mp_L mp_Ts "MarkedPages$Operation" 16 2 5 2 := ⟨by decide, by decide, nR_W, nT_W, "MarkedPages$Operation", rfl, ws_W, wd_251, Or.inl rfl⟩
theorem ls_O_16_W : mp_LS mp_Ts "MarkedPages$Operation" 16 2 5 2 true (nF_W 2) := ⟨by decide, by decide, nR_W, nT_W, "MarkedPages$Operation", nF_W, rfl, ws_W, wd_251, Or.inl rfl, nK_W, nN_W, rfl, Or.inl rfl, rfl⟩
theorem lk_O_16_E : mp_L mp_Ts "MarkedPages$Operation" 16 3 4 2 := ⟨by decide, by decide, nR_E, nT_E, "MarkedPages$Operation", rfl, ws_E, wd_251, Or.inl rfl⟩
theorem ls_O_16_E : mp_LS mp_Ts "MarkedPages$Operation" 16 3 4 2 true (nF_E 2) := ⟨by decide, by decide, nR_E, nT_E, "MarkedPages$Operation", nF_E, rfl, ws_E, wd_251, Or.inl rfl, nK_E, nN_E, rfl, Or.inl rfl, rfl⟩
theorem lk_O_16_K : mp_L mp_Ts "MarkedPages$Operation" 16 4 8 2 := ⟨by decide, by decide, nR_K, nT_K, "MarkedPages$Operation", rfl, ws_K, wd_251, Or.inl rfl⟩
theorem ls_O_16_K : mp_LS mp_Ts "MarkedPages$Operation" 16 4 8 2 true (nF_K 2) := ⟨by decide, by decide, nR_K, nT_K, "MarkedPages$Operation", nF_K, rfl, ws_K, wd_251, Or.inl rfl, nK_K, nN_K, rfl, Or.inl rfl, rfl⟩
theorem wd_252 : Cond.fieldLink "MarkedPages$Page" 77 "MarkedPages$Writing" "rank" "I" ∈ mp_Ts := mp_Ts_in 252 (by decide +kernel) (by decide +kernel)
theorem wd_253 : Cond.sameField "MarkedPages$Writing" "MarkedPages$Operation" "rank" "I" ∈ mp_Ts := mp_Ts_in 253 (by decide +kernel) (by decide +kernel)
theorem lk_P_77_W : mp_L mp_Ts "MarkedPages$Page" 77 2 5 2 := ⟨by decide, by decide, nR_W, nT_W, "MarkedPages$Writing", rfl, ws_W, wd_252, Or.inr wd_253⟩
theorem wd_254 : Cond.fieldLink "MarkedPages$Page" 87 "MarkedPages$Marking" "rank" "I" ∈ mp_Ts := mp_Ts_in 254 (by decide +kernel) (by decide +kernel)
theorem wd_255 : Cond.sameField "MarkedPages$Marking" "MarkedPages$Operation" "rank" "I" ∈ mp_Ts := mp_Ts_in 255 (by decide +kernel) (by decide +kernel)
theorem lk_P_87_K : mp_L mp_Ts "MarkedPages$Page" 87 4 8 2 := ⟨by decide, by decide, nR_K, nT_K, "MarkedPages$Marking", rfl, ws_K, wd_254, Or.inr wd_255⟩
theorem wd_256 : Cond.fieldLink "MarkedPages" 100 "MarkedPages$Writing" "rank" "I" ∈ mp_Ts := mp_Ts_in 256 (by decide +kernel) (by decide +kernel)
theorem lk_M_100_W : mp_L mp_Ts "MarkedPages" 100 2 5 2 := ⟨by decide, by decide, nR_W, nT_W, "MarkedPages$Writing", rfl, ws_W, wd_256, Or.inr wd_253⟩
theorem wd_325 : Cond.fieldLink "MarkedPages$Erasing" 7 "MarkedPages$Erasing" "erased" "LMarkedPages$Writing;" ∈ mp_Ts := mp_Ts_in 325 (by decide +kernel) (by decide +kernel)
theorem lk_E_7_E : mp_L mp_Ts "MarkedPages$Erasing" 7 3 4 3 := ⟨by decide, by decide, nR_E, nT_E, "MarkedPages$Erasing", rfl, ws_E, wd_325, Or.inl rfl⟩
theorem ls_E_7_E : mp_LS mp_Ts "MarkedPages$Erasing" 7 3 4 3 true (nF_E 3) := ⟨by decide, by decide, nR_E, nT_E, "MarkedPages$Erasing", nF_E, rfl, ws_E, wd_325, Or.inl rfl, nK_E, nN_E, rfl, Or.inl rfl, rfl⟩
theorem wd_349 : Cond.fieldLink "MarkedPages$Marking" 7 "MarkedPages$Marking" "on" "Z" ∈ mp_Ts := mp_Ts_in 349 (by decide +kernel) (by decide +kernel)
theorem lk_K_7_K : mp_L mp_Ts "MarkedPages$Marking" 7 4 8 3 := ⟨by decide, by decide, nR_K, nT_K, "MarkedPages$Marking", rfl, ws_K, wd_349, Or.inl rfl⟩
theorem ls_K_7_K : mp_LS mp_Ts "MarkedPages$Marking" 7 4 8 3 true (nF_K 3) := ⟨by decide, by decide, nR_K, nT_K, "MarkedPages$Marking", nF_K, rfl, ws_K, wd_349, Or.inl rfl, nK_K, nN_K, rfl, Or.inl rfl, rfl⟩
theorem wd_350 : Cond.fieldLink "MarkedPages$Page" 99 "MarkedPages$Marking" "on" "Z" ∈ mp_Ts := mp_Ts_in 350 (by decide +kernel) (by decide +kernel)
theorem lk_P_99_K : mp_L mp_Ts "MarkedPages$Page" 99 4 8 3 := ⟨by decide, by decide, nR_K, nT_K, "MarkedPages$Marking", rfl, ws_K, wd_350, Or.inl rfl⟩
theorem wd_351 : Cond.fieldLink "MarkedPages$Marking" 13 "MarkedPages$Marking" "weight" "I" ∈ mp_Ts := mp_Ts_in 351 (by decide +kernel) (by decide +kernel)
theorem lk_K_13_K : mp_L mp_Ts "MarkedPages$Marking" 13 4 8 4 := ⟨by decide, by decide, nR_K, nT_K, "MarkedPages$Marking", rfl, ws_K, wd_351, Or.inl rfl⟩
theorem ls_K_13_K : mp_LS mp_Ts "MarkedPages$Marking" 13 4 8 4 true (nF_K 4) := ⟨by decide, by decide, nR_K, nT_K, "MarkedPages$Marking", nF_K, rfl, ws_K, wd_351, Or.inl rfl, nK_K, nN_K, rfl, Or.inl rfl, rfl⟩
theorem wd_352 : Cond.fieldLink "MarkedPages$Page" 103 "MarkedPages$Marking" "weight" "I" ∈ mp_Ts := mp_Ts_in 352 (by decide +kernel) (by decide +kernel)
theorem lk_P_103_K : mp_L mp_Ts "MarkedPages$Page" 103 4 8 4 := ⟨by decide, by decide, nR_K, nT_K, "MarkedPages$Marking", rfl, ws_K, wd_352, Or.inl rfl⟩
theorem wd_353 : Cond.fieldLink "MarkedPages$Marking" 21 "MarkedPages$Marking" "endLetterIsCovered" "Z" ∈ mp_Ts := mp_Ts_in 353 (by decide +kernel) (by decide +kernel)
theorem lk_K_21_K : mp_L mp_Ts "MarkedPages$Marking" 21 4 8 5 := ⟨by decide, by decide, nR_K, nT_K, "MarkedPages$Marking", rfl, ws_K, wd_353, Or.inl rfl⟩
theorem ls_K_21_K : mp_LS mp_Ts "MarkedPages$Marking" 21 4 8 5 true (nF_K 5) := ⟨by decide, by decide, nR_K, nT_K, "MarkedPages$Marking", nF_K, rfl, ws_K, wd_353, Or.inl rfl, nK_K, nN_K, rfl, Or.inl rfl, rfl⟩
theorem wd_354 : Cond.fieldLink "MarkedPages$Marking" 24 "MarkedPages$Marking" "first" "LMarkedPages$Writing;" ∈ mp_Ts := mp_Ts_in 354 (by decide +kernel) (by decide +kernel)
theorem lk_K_24_K : mp_L mp_Ts "MarkedPages$Marking" 24 4 8 6 := ⟨by decide, by decide, nR_K, nT_K, "MarkedPages$Marking", rfl, ws_K, wd_354, Or.inl rfl⟩
theorem ls_K_24_K : mp_LS mp_Ts "MarkedPages$Marking" 24 4 8 6 true (nF_K 6) := ⟨by decide, by decide, nR_K, nT_K, "MarkedPages$Marking", nF_K, rfl, ws_K, wd_354, Or.inl rfl, nK_K, nN_K, rfl, Or.inl rfl, rfl⟩
theorem wd_355 : Cond.fieldLink "MarkedPages$Marking" 28 "MarkedPages$Marking" "end" "LMarkedPages$Writing;" ∈ mp_Ts := mp_Ts_in 355 (by decide +kernel) (by decide +kernel)
theorem lk_K_28_K : mp_L mp_Ts "MarkedPages$Marking" 28 4 8 7 := ⟨by decide, by decide, nR_K, nT_K, "MarkedPages$Marking", rfl, ws_K, wd_355, Or.inl rfl⟩
theorem ls_K_28_K : mp_LS mp_Ts "MarkedPages$Marking" 28 4 8 7 true (nF_K 7) := ⟨by decide, by decide, nR_K, nT_K, "MarkedPages$Marking", nF_K, rfl, ws_K, wd_355, Or.inl rfl, nK_K, nN_K, rfl, Or.inl rfl, rfl⟩
theorem wd_461 : Cond.fieldLink "MarkedPagesModel" 51 "MarkedPagesModel" "code" "I" ∈ mp_Ts := mp_Ts_in 461 (by decide +kernel) (by decide +kernel)
theorem lk_R_51_R : mp_L mp_Ts "MarkedPagesModel" 51 5 17 0 := ⟨by decide, by decide, nR_R, nT_R, "MarkedPagesModel", rfl, ws_R, wd_461, Or.inl rfl⟩
theorem ls_R_51_R : mp_LS mp_Ts "MarkedPagesModel" 51 5 17 0 false (nF_R 0) := ⟨by decide, by decide, nR_R, nT_R, "MarkedPagesModel", nF_R, rfl, ws_R, wd_461, Or.inl rfl, nK_R, nN_R, rfl, Or.inl rfl, rfl⟩
theorem wd_462 : Cond.fieldLink "MarkedPagesModel" 55 "MarkedPagesModel" "made" "I" ∈ mp_Ts := mp_Ts_in 462 (by decide +kernel) (by decide +kernel)
theorem lk_R_55_R : mp_L mp_Ts "MarkedPagesModel" 55 5 17 1 := ⟨by decide, by decide, nR_R, nT_R, "MarkedPagesModel", rfl, ws_R, wd_462, Or.inl rfl⟩
theorem ls_R_55_R : mp_LS mp_Ts "MarkedPagesModel" 55 5 17 1 false (nF_R 1) := ⟨by decide, by decide, nR_R, nT_R, "MarkedPagesModel", nF_R, rfl, ws_R, wd_462, Or.inl rfl, nK_R, nN_R, rfl, Or.inl rfl, rfl⟩
theorem wd_463 : Cond.fieldLink "MarkedPagesModel" 7 "MarkedPagesModel" "sort" "[I" ∈ mp_Ts := mp_Ts_in 463 (by decide +kernel) (by decide +kernel)
theorem lk_R_7_R : mp_L mp_Ts "MarkedPagesModel" 7 5 17 2 := ⟨by decide, by decide, nR_R, nT_R, "MarkedPagesModel", rfl, ws_R, wd_463, Or.inl rfl⟩
theorem ls_R_7_R : mp_LS mp_Ts "MarkedPagesModel" 7 5 17 2 true (nF_R 2) := ⟨by decide, by decide, nR_R, nT_R, "MarkedPagesModel", nF_R, rfl, ws_R, wd_463, Or.inl rfl, nK_R, nN_R, rfl, Or.inl rfl, rfl⟩
theorem wd_464 : Cond.fieldLink "MarkedPagesModel" 13 "MarkedPagesModel" "ids" "[I" ∈ mp_Ts := mp_Ts_in 464 (by decide +kernel) (by decide +kernel)
theorem lk_R_13_R : mp_L mp_Ts "MarkedPagesModel" 13 5 17 3 := ⟨by decide, by decide, nR_R, nT_R, "MarkedPagesModel", rfl, ws_R, wd_464, Or.inl rfl⟩
theorem ls_R_13_R : mp_LS mp_Ts "MarkedPagesModel" 13 5 17 3 true (nF_R 3) := ⟨by decide, by decide, nR_R, nT_R, "MarkedPagesModel", nF_R, rfl, ws_R, wd_464, Or.inl rfl, nK_R, nN_R, rfl, Or.inl rfl, rfl⟩
theorem wd_465 : Cond.fieldLink "MarkedPagesModel" 16 "MarkedPagesModel" "first" "[I" ∈ mp_Ts := mp_Ts_in 465 (by decide +kernel) (by decide +kernel)
theorem lk_R_16_R : mp_L mp_Ts "MarkedPagesModel" 16 5 17 4 := ⟨by decide, by decide, nR_R, nT_R, "MarkedPagesModel", rfl, ws_R, wd_465, Or.inl rfl⟩
theorem ls_R_16_R : mp_LS mp_Ts "MarkedPagesModel" 16 5 17 4 true (nF_R 4) := ⟨by decide, by decide, nR_R, nT_R, "MarkedPagesModel", nF_R, rfl, ws_R, wd_465, Or.inl rfl, nK_R, nN_R, rfl, Or.inl rfl, rfl⟩
theorem wd_466 : Cond.fieldLink "MarkedPagesModel" 19 "MarkedPagesModel" "end" "[I" ∈ mp_Ts := mp_Ts_in 466 (by decide +kernel) (by decide +kernel)
theorem lk_R_19_R : mp_L mp_Ts "MarkedPagesModel" 19 5 17 5 := ⟨by decide, by decide, nR_R, nT_R, "MarkedPagesModel", rfl, ws_R, wd_466, Or.inl rfl⟩
theorem ls_R_19_R : mp_LS mp_Ts "MarkedPagesModel" 19 5 17 5 true (nF_R 5) := ⟨by decide, by decide, nR_R, nT_R, "MarkedPagesModel", nF_R, rfl, ws_R, wd_466, Or.inl rfl, nK_R, nN_R, rfl, Or.inl rfl, rfl⟩
theorem wd_467 : Cond.fieldLink "MarkedPagesModel" 22 "MarkedPagesModel" "what" "[I" ∈ mp_Ts := mp_Ts_in 467 (by decide +kernel) (by decide +kernel)
theorem lk_R_22_R : mp_L mp_Ts "MarkedPagesModel" 22 5 17 6 := ⟨by decide, by decide, nR_R, nT_R, "MarkedPagesModel", rfl, ws_R, wd_467, Or.inl rfl⟩
theorem ls_R_22_R : mp_LS mp_Ts "MarkedPagesModel" 22 5 17 6 true (nF_R 6) := ⟨by decide, by decide, nR_R, nT_R, "MarkedPagesModel", nF_R, rfl, ws_R, wd_467, Or.inl rfl, nK_R, nN_R, rfl, Or.inl rfl, rfl⟩
theorem wd_468 : Cond.fieldLink "MarkedPagesModel" 25 "MarkedPagesModel" "letters" "[C" ∈ mp_Ts := mp_Ts_in 468 (by decide +kernel) (by decide +kernel)
theorem lk_R_25_R : mp_L mp_Ts "MarkedPagesModel" 25 5 17 7 := ⟨by decide, by decide, nR_R, nT_R, "MarkedPagesModel", rfl, ws_R, wd_468, Or.inl rfl⟩
theorem ls_R_25_R : mp_LS mp_Ts "MarkedPagesModel" 25 5 17 7 true (nF_R 7) := ⟨by decide, by decide, nR_R, nT_R, "MarkedPagesModel", nF_R, rfl, ws_R, wd_468, Or.inl rfl, nK_R, nN_R, rfl, Or.inl rfl, rfl⟩
theorem wd_469 : Cond.fieldLink "MarkedPagesModel" 29 "MarkedPagesModel" "known" "[I" ∈ mp_Ts := mp_Ts_in 469 (by decide +kernel) (by decide +kernel)
theorem lk_R_29_R : mp_L mp_Ts "MarkedPagesModel" 29 5 17 8 := ⟨by decide, by decide, nR_R, nT_R, "MarkedPagesModel", rfl, ws_R, wd_469, Or.inl rfl⟩
theorem ls_R_29_R : mp_LS mp_Ts "MarkedPagesModel" 29 5 17 8 true (nF_R 8) := ⟨by decide, by decide, nR_R, nT_R, "MarkedPagesModel", nF_R, rfl, ws_R, wd_469, Or.inl rfl, nK_R, nN_R, rfl, Or.inl rfl, rfl⟩
theorem wd_470 : Cond.fieldLink "MarkedPagesModel" 32 "MarkedPagesModel" "knows" "[Z" ∈ mp_Ts := mp_Ts_in 470 (by decide +kernel) (by decide +kernel)
theorem lk_R_32_R : mp_L mp_Ts "MarkedPagesModel" 32 5 17 9 := ⟨by decide, by decide, nR_R, nT_R, "MarkedPagesModel", rfl, ws_R, wd_470, Or.inl rfl⟩
theorem ls_R_32_R : mp_LS mp_Ts "MarkedPagesModel" 32 5 17 9 true (nF_R 9) := ⟨by decide, by decide, nR_R, nT_R, "MarkedPagesModel", nF_R, rfl, ws_R, wd_470, Or.inl rfl, nK_R, nN_R, rfl, Or.inl rfl, rfl⟩
theorem wd_471 : Cond.fieldLink "MarkedPagesModel" 36 "MarkedPagesModel" "count" "[I" ∈ mp_Ts := mp_Ts_in 471 (by decide +kernel) (by decide +kernel)
theorem lk_R_36_R : mp_L mp_Ts "MarkedPagesModel" 36 5 17 10 := ⟨by decide, by decide, nR_R, nT_R, "MarkedPagesModel", rfl, ws_R, wd_471, Or.inl rfl⟩
theorem ls_R_36_R : mp_LS mp_Ts "MarkedPagesModel" 36 5 17 10 true (nF_R 10) := ⟨by decide, by decide, nR_R, nT_R, "MarkedPagesModel", nF_R, rfl, ws_R, wd_471, Or.inl rfl, nK_R, nN_R, rfl, Or.inl rfl, rfl⟩
theorem wd_472 : Cond.fieldLink "MarkedPagesModel" 58 "MarkedPagesModel" "rowLength" "I" ∈ mp_Ts := mp_Ts_in 472 (by decide +kernel) (by decide +kernel)
theorem lk_R_58_R : mp_L mp_Ts "MarkedPagesModel" 58 5 17 11 := ⟨by decide, by decide, nR_R, nT_R, "MarkedPagesModel", rfl, ws_R, wd_472, Or.inl rfl⟩
theorem ls_R_58_R : mp_LS mp_Ts "MarkedPagesModel" 58 5 17 11 false (nF_R 11) := ⟨by decide, by decide, nR_R, nT_R, "MarkedPagesModel", nF_R, rfl, ws_R, wd_472, Or.inl rfl, nK_R, nN_R, rfl, Or.inl rfl, rfl⟩
theorem wd_473 : Cond.fieldLink "MarkedPagesModel" 39 "MarkedPagesModel" "row" "[I" ∈ mp_Ts := mp_Ts_in 473 (by decide +kernel) (by decide +kernel)
theorem lk_R_39_R : mp_L mp_Ts "MarkedPagesModel" 39 5 17 12 := ⟨by decide, by decide, nR_R, nT_R, "MarkedPagesModel", rfl, ws_R, wd_473, Or.inl rfl⟩
theorem ls_R_39_R : mp_LS mp_Ts "MarkedPagesModel" 39 5 17 12 true (nF_R 12) := ⟨by decide, by decide, nR_R, nT_R, "MarkedPagesModel", nF_R, rfl, ws_R, wd_473, Or.inl rfl, nK_R, nN_R, rfl, Or.inl rfl, rfl⟩
theorem wd_474 : Cond.fieldLink "MarkedPagesModel" 42 "MarkedPagesModel" "place" "[I" ∈ mp_Ts := mp_Ts_in 474 (by decide +kernel) (by decide +kernel)
theorem lk_R_42_R : mp_L mp_Ts "MarkedPagesModel" 42 5 17 13 := ⟨by decide, by decide, nR_R, nT_R, "MarkedPagesModel", rfl, ws_R, wd_474, Or.inl rfl⟩
theorem ls_R_42_R : mp_LS mp_Ts "MarkedPagesModel" 42 5 17 13 true (nF_R 13) := ⟨by decide, by decide, nR_R, nT_R, "MarkedPagesModel", nF_R, rfl, ws_R, wd_474, Or.inl rfl, nK_R, nN_R, rfl, Or.inl rfl, rfl⟩
theorem wd_475 : Cond.fieldLink "MarkedPagesModel" 61 "MarkedPagesModel" "textLength" "I" ∈ mp_Ts := mp_Ts_in 475 (by decide +kernel) (by decide +kernel)
theorem lk_R_61_R : mp_L mp_Ts "MarkedPagesModel" 61 5 17 14 := ⟨by decide, by decide, nR_R, nT_R, "MarkedPagesModel", rfl, ws_R, wd_475, Or.inl rfl⟩
theorem ls_R_61_R : mp_LS mp_Ts "MarkedPagesModel" 61 5 17 14 false (nF_R 14) := ⟨by decide, by decide, nR_R, nT_R, "MarkedPagesModel", nF_R, rfl, ws_R, wd_475, Or.inl rfl, nK_R, nN_R, rfl, Or.inl rfl, rfl⟩
theorem wd_476 : Cond.fieldLink "MarkedPagesModel" 45 "MarkedPagesModel" "text" "[I" ∈ mp_Ts := mp_Ts_in 476 (by decide +kernel) (by decide +kernel)
theorem lk_R_45_R : mp_L mp_Ts "MarkedPagesModel" 45 5 17 15 := ⟨by decide, by decide, nR_R, nT_R, "MarkedPagesModel", rfl, ws_R, wd_476, Or.inl rfl⟩
theorem ls_R_45_R : mp_LS mp_Ts "MarkedPagesModel" 45 5 17 15 true (nF_R 15) := ⟨by decide, by decide, nR_R, nT_R, "MarkedPagesModel", nF_R, rfl, ws_R, wd_476, Or.inl rfl, nK_R, nN_R, rfl, Or.inl rfl, rfl⟩
theorem wd_477 : Cond.fieldLink "MarkedPagesModel" 48 "MarkedPagesModel" "passed" "[Z" ∈ mp_Ts := mp_Ts_in 477 (by decide +kernel) (by decide +kernel)
theorem lk_R_48_R : mp_L mp_Ts "MarkedPagesModel" 48 5 17 16 := ⟨by decide, by decide, nR_R, nT_R, "MarkedPagesModel", rfl, ws_R, wd_477, Or.inl rfl⟩
theorem ls_R_48_R : mp_LS mp_Ts "MarkedPagesModel" 48 5 17 16 true (nF_R 16) := ⟨by decide, by decide, nR_R, nT_R, "MarkedPagesModel", nF_R, rfl, ws_R, wd_477, Or.inl rfl, nK_R, nN_R, rfl, Or.inl rfl, rfl⟩
theorem wd_31 : Cond.classLink "MarkedPagesLaw" 8 "MarkedPages" ∈ mp_Ts := mp_Ts_in 31 (by decide +kernel) (by decide +kernel)
theorem cl_L_8 : Cond.classLink "MarkedPagesLaw" 8 "MarkedPages" ∈ mp_Ts := wd_31
theorem wd_32 : Cond.instantiable "MarkedPages" 2 ∈ mp_Ts := mp_Ts_in 32 (by decide +kernel) (by decide +kernel)
theorem wd_17 : Cond.initialized "MarkedPages" ∈ mp_Ts := mp_Ts_in 17 (by decide +kernel) (by decide +kernel)
theorem ln_L_8 : mp_LN mp_Ts "MarkedPagesLaw" 8 0 2 (fun k => defaultValue (nF_M k)) := ⟨by decide, nR_M, nT_M, nF_M, rfl, ws_M, nK_M, wd_31, wd_32, wd_17, fun _ _ => rfl⟩
theorem wd_39 : Cond.classLink "MarkedPages" 9 "MarkedPages$Page" ∈ mp_Ts := mp_Ts_in 39 (by decide +kernel) (by decide +kernel)
theorem cl_M_9 : Cond.classLink "MarkedPages" 9 "MarkedPages$Page" ∈ mp_Ts := wd_39
theorem wd_41 : Cond.instantiable "MarkedPages$Page" 12 ∈ mp_Ts := mp_Ts_in 41 (by decide +kernel) (by decide +kernel)
theorem wd_18 : Cond.initialized "MarkedPages$Page" ∈ mp_Ts := mp_Ts_in 18 (by decide +kernel) (by decide +kernel)
theorem ln_M_9 : mp_LN mp_Ts "MarkedPages" 9 1 12 (fun k => defaultValue (nF_P k)) := ⟨by decide, nR_P, nT_P, nF_P, rfl, ws_P, nK_P, wd_39, wd_41, wd_18, fun _ _ => rfl⟩
theorem wd_46 : Cond.classLink "MarkedPages$Page" 9 "MarkedPages$Operation" ∈ mp_Ts := mp_Ts_in 46 (by decide +kernel) (by decide +kernel)
theorem cl_P_9 : Cond.classLink "MarkedPages$Page" 9 "MarkedPages$Operation" ∈ mp_Ts := wd_46
theorem wd_48 : Cond.classLink "MarkedPages$Page" 17 "MarkedPages$Writing" ∈ mp_Ts := mp_Ts_in 48 (by decide +kernel) (by decide +kernel)
theorem cl_P_17 : Cond.classLink "MarkedPages$Page" 17 "MarkedPages$Writing" ∈ mp_Ts := wd_48
theorem wd_225 : Cond.instantiable "MarkedPages$Writing" 5 ∈ mp_Ts := mp_Ts_in 225 (by decide +kernel) (by decide +kernel)
theorem wd_27 : Cond.initialized "MarkedPages$Writing" ∈ mp_Ts := mp_Ts_in 27 (by decide +kernel) (by decide +kernel)
theorem ln_P_17 : mp_LN mp_Ts "MarkedPages$Page" 17 2 5 (fun k => defaultValue (nF_W k)) := ⟨by decide, nR_W, nT_W, nF_W, rfl, ws_W, nK_W, wd_48, wd_225, wd_27, fun _ _ => rfl⟩
theorem wd_50 : Cond.classLink "MarkedPages$Page" 26 "MarkedPages$Marking" ∈ mp_Ts := mp_Ts_in 50 (by decide +kernel) (by decide +kernel)
theorem cl_P_26 : Cond.classLink "MarkedPages$Page" 26 "MarkedPages$Marking" ∈ mp_Ts := wd_50
theorem wd_343 : Cond.instantiable "MarkedPages$Marking" 8 ∈ mp_Ts := mp_Ts_in 343 (by decide +kernel) (by decide +kernel)
theorem wd_30 : Cond.initialized "MarkedPages$Marking" ∈ mp_Ts := mp_Ts_in 30 (by decide +kernel) (by decide +kernel)
theorem ln_P_26 : mp_LN mp_Ts "MarkedPages$Page" 26 4 8 (fun k => defaultValue (nF_K k)) := ⟨by decide, nR_K, nT_K, nF_K, rfl, ws_K, nK_K, wd_50, wd_343, wd_30, fun _ _ => rfl⟩
theorem wd_110 : Cond.classLink "MarkedPagesLaw" 13 "java/lang/IllegalArgumentException" ∈ mp_Ts := mp_Ts_in 110 (by decide +kernel) (by decide +kernel)
theorem cl_L_13 : Cond.classLink "MarkedPagesLaw" 13 "java/lang/IllegalArgumentException" ∈ mp_Ts := wd_110
theorem wd_111 : Cond.classLink "MarkedPagesLaw" 15 "java/lang/IndexOutOfBoundsException" ∈ mp_Ts := mp_Ts_in 111 (by decide +kernel) (by decide +kernel)
theorem cl_L_15 : Cond.classLink "MarkedPagesLaw" 15 "java/lang/IndexOutOfBoundsException" ∈ mp_Ts := wd_111
theorem wd_112 : Cond.classLink "MarkedPagesLaw" 17 "java/lang/IllegalStateException" ∈ mp_Ts := mp_Ts_in 112 (by decide +kernel) (by decide +kernel)
theorem cl_L_17 : Cond.classLink "MarkedPagesLaw" 17 "java/lang/IllegalStateException" ∈ mp_Ts := wd_112
theorem wd_124 : Cond.classLink "MarkedPages" 129 "java/lang/IllegalArgumentException" ∈ mp_Ts := mp_Ts_in 124 (by decide +kernel) (by decide +kernel)
theorem cl_M_129 : Cond.classLink "MarkedPages" 129 "java/lang/IllegalArgumentException" ∈ mp_Ts := wd_124
theorem wd_190 : Cond.classLink "MarkedPages" 132 "java/lang/IndexOutOfBoundsException" ∈ mp_Ts := mp_Ts_in 190 (by decide +kernel) (by decide +kernel)
theorem cl_M_132 : Cond.classLink "MarkedPages" 132 "java/lang/IndexOutOfBoundsException" ∈ mp_Ts := wd_190
theorem wd_209 : Cond.classLink "MarkedPages" 126 "java/lang/IllegalStateException" ∈ mp_Ts := mp_Ts_in 209 (by decide +kernel) (by decide +kernel)
theorem cl_M_126 : Cond.classLink "MarkedPages" 126 "java/lang/IllegalStateException" ∈ mp_Ts := wd_209
theorem wd_224 : Cond.classLink "MarkedPages" 38 "MarkedPages$Writing" ∈ mp_Ts := mp_Ts_in 224 (by decide +kernel) (by decide +kernel)
theorem cl_M_38 : Cond.classLink "MarkedPages" 38 "MarkedPages$Writing" ∈ mp_Ts := wd_224
theorem ln_M_38 : mp_LN mp_Ts "MarkedPages" 38 2 5 (fun k => defaultValue (nF_W k)) := ⟨by decide, nR_W, nT_W, nF_W, rfl, ws_W, nK_W, wd_224, wd_225, wd_27, fun _ _ => rfl⟩
theorem wd_319 : Cond.classLink "MarkedPages" 55 "MarkedPages$Erasing" ∈ mp_Ts := mp_Ts_in 319 (by decide +kernel) (by decide +kernel)
theorem cl_M_55 : Cond.classLink "MarkedPages" 55 "MarkedPages$Erasing" ∈ mp_Ts := wd_319
theorem wd_320 : Cond.instantiable "MarkedPages$Erasing" 4 ∈ mp_Ts := mp_Ts_in 320 (by decide +kernel) (by decide +kernel)
theorem wd_29 : Cond.initialized "MarkedPages$Erasing" ∈ mp_Ts := mp_Ts_in 29 (by decide +kernel) (by decide +kernel)
theorem ln_M_55 : mp_LN mp_Ts "MarkedPages" 55 3 4 (fun k => defaultValue (nF_E k)) := ⟨by decide, nR_E, nT_E, nF_E, rfl, ws_E, nK_E, wd_319, wd_320, wd_29, fun _ _ => rfl⟩
theorem wd_342 : Cond.classLink "MarkedPages" 68 "MarkedPages$Marking" ∈ mp_Ts := mp_Ts_in 342 (by decide +kernel) (by decide +kernel)
theorem cl_M_68 : Cond.classLink "MarkedPages" 68 "MarkedPages$Marking" ∈ mp_Ts := wd_342
theorem ln_M_68 : mp_LN mp_Ts "MarkedPages" 68 4 8 (fun k => defaultValue (nF_K k)) := ⟨by decide, nR_K, nT_K, nF_K, rfl, ws_K, nK_K, wd_342, wd_343, wd_30, fun _ _ => rfl⟩
theorem wd_455 : Cond.classLink "MarkedPagesLaw" 59 "MarkedPagesModel" ∈ mp_Ts := mp_Ts_in 455 (by decide +kernel) (by decide +kernel)
theorem cl_L_59 : Cond.classLink "MarkedPagesLaw" 59 "MarkedPagesModel" ∈ mp_Ts := wd_455
theorem wd_456 : Cond.instantiable "MarkedPagesModel" 17 ∈ mp_Ts := mp_Ts_in 456 (by decide +kernel) (by decide +kernel)
theorem wd_19 : Cond.initialized "MarkedPagesModel" ∈ mp_Ts := mp_Ts_in 19 (by decide +kernel) (by decide +kernel)
theorem ln_L_59 : mp_LN mp_Ts "MarkedPagesLaw" 59 5 17 (fun k => defaultValue (nF_R k)) := ⟨by decide, nR_R, nT_R, nF_R, rfl, ws_R, nK_R, wd_455, wd_456, wd_19, fun _ _ => rfl⟩
theorem wd_16 : Cond.initialized "MarkedPagesLaw" ∈ mp_Ts := mp_Ts_in 16 (by decide +kernel) (by decide +kernel)
theorem wd_20 : Cond.initialized "java/lang/Throwable" ∈ mp_Ts := mp_Ts_in 20 (by decide +kernel) (by decide +kernel)
theorem wd_21 : Cond.initialized "java/lang/Exception" ∈ mp_Ts := mp_Ts_in 21 (by decide +kernel) (by decide +kernel)
theorem wd_22 : Cond.initialized "java/lang/RuntimeException" ∈ mp_Ts := mp_Ts_in 22 (by decide +kernel) (by decide +kernel)
theorem wd_23 : Cond.initialized "java/lang/IllegalArgumentException" ∈ mp_Ts := mp_Ts_in 23 (by decide +kernel) (by decide +kernel)
theorem wd_24 : Cond.initialized "java/lang/IndexOutOfBoundsException" ∈ mp_Ts := mp_Ts_in 24 (by decide +kernel) (by decide +kernel)
theorem wd_25 : Cond.initialized "java/lang/IllegalStateException" ∈ mp_Ts := mp_Ts_in 25 (by decide +kernel) (by decide +kernel)
theorem wd_26 : Cond.initialized "MarkedPages$Operation" ∈ mp_Ts := mp_Ts_in 26 (by decide +kernel) (by decide +kernel)
theorem wd_28 : Cond.initialized "java/lang/Math" ∈ mp_Ts := mp_Ts_in 28 (by decide +kernel) (by decide +kernel)
theorem wd_33 : Cond.methodLink "MarkedPagesLaw" 58 ⟨"MarkedPages", "<init>", "()V"⟩ ∈ mp_Ts := mp_Ts_in 33 (by decide +kernel) (by decide +kernel)
theorem wd_34 : Cond.instanceMethod ⟨"MarkedPages", "<init>", "()V"⟩ ∈ mp_Ts := mp_Ts_in 34 (by decide +kernel) (by decide +kernel)
theorem wd_36 : Cond.methodLink "MarkedPages" 1 ⟨"java/lang/Object", "<init>", "()V"⟩ ∈ mp_Ts := mp_Ts_in 36 (by decide +kernel) (by decide +kernel)
theorem wd_37 : Cond.instanceMethod ⟨"java/lang/Object", "<init>", "()V"⟩ ∈ mp_Ts := mp_Ts_in 37 (by decide +kernel) (by decide +kernel)
theorem wd_40 : Cond.arrayOver (FieldType.object "MarkedPages$Page") ∈ mp_Ts := mp_Ts_in 40 (by decide +kernel) (by decide +kernel)
theorem wd_42 : Cond.methodLink "MarkedPages" 15 ⟨"MarkedPages$Page", "<init>", "()V"⟩ ∈ mp_Ts := mp_Ts_in 42 (by decide +kernel) (by decide +kernel)
theorem wd_43 : Cond.instanceMethod ⟨"MarkedPages$Page", "<init>", "()V"⟩ ∈ mp_Ts := mp_Ts_in 43 (by decide +kernel) (by decide +kernel)
theorem wd_45 : Cond.methodLink "MarkedPages$Page" 3 ⟨"java/lang/Object", "<init>", "()V"⟩ ∈ mp_Ts := mp_Ts_in 45 (by decide +kernel) (by decide +kernel)
theorem wd_47 : Cond.arrayOver (FieldType.object "MarkedPages$Operation") ∈ mp_Ts := mp_Ts_in 47 (by decide +kernel) (by decide +kernel)
theorem wd_49 : Cond.arrayOver (FieldType.object "MarkedPages$Writing") ∈ mp_Ts := mp_Ts_in 49 (by decide +kernel) (by decide +kernel)
theorem wd_51 : Cond.arrayOver (FieldType.object "MarkedPages$Marking") ∈ mp_Ts := mp_Ts_in 51 (by decide +kernel) (by decide +kernel)
theorem wd_98 : Cond.arrayClass FieldType.boolean ∈ mp_Ts := mp_Ts_in 98 (by decide +kernel) (by decide +kernel)
theorem wd_99 : Cond.arrayClass FieldType.int ∈ mp_Ts := mp_Ts_in 99 (by decide +kernel) (by decide +kernel)
theorem wd_107 : Cond.methodLink "MarkedPagesLaw" 62 ⟨"MarkedPagesLaw", "write", "(LMarkedPages;IIC[J)I"⟩ ∈ mp_Ts := mp_Ts_in 107 (by decide +kernel) (by decide +kernel)
theorem wd_108 : Cond.static ⟨"MarkedPagesLaw", "write", "(LMarkedPages;IIC[J)I"⟩ ∈ mp_Ts := mp_Ts_in 108 (by decide +kernel) (by decide +kernel)
theorem wd_113 : Cond.methodLink "MarkedPagesLaw" 7 ⟨"MarkedPages", "write", "(IIC)I"⟩ ∈ mp_Ts := mp_Ts_in 113 (by decide +kernel) (by decide +kernel)
theorem wd_114 : Cond.instanceMethod ⟨"MarkedPages", "write", "(IIC)I"⟩ ∈ mp_Ts := mp_Ts_in 114 (by decide +kernel) (by decide +kernel)
theorem wd_115 : Cond.selects "MarkedPages" ⟨"MarkedPages", "write", "(IIC)I"⟩ ⟨"MarkedPages", "write", "(IIC)I"⟩ ∈ mp_Ts := mp_Ts_in 115 (by decide +kernel) (by decide +kernel)
theorem wd_117 : Cond.methodLink "MarkedPages" 20 ⟨"MarkedPages", "pageNumbered", "(I)LMarkedPages$Page;"⟩ ∈ mp_Ts := mp_Ts_in 117 (by decide +kernel) (by decide +kernel)
theorem wd_119 : Cond.instanceMethod ⟨"MarkedPages", "pageNumbered", "(I)LMarkedPages$Page;"⟩ ∈ mp_Ts := mp_Ts_in 119 (by decide +kernel) (by decide +kernel)
theorem wd_121 : Cond.methodLink "MarkedPages" 64 ⟨"MarkedPages", "refuseArgumentUnless", "(Z)V"⟩ ∈ mp_Ts := mp_Ts_in 121 (by decide +kernel) (by decide +kernel)
theorem wd_122 : Cond.static ⟨"MarkedPages", "refuseArgumentUnless", "(Z)V"⟩ ∈ mp_Ts := mp_Ts_in 122 (by decide +kernel) (by decide +kernel)
theorem wd_125 : Cond.instantiable "java/lang/IllegalArgumentException" 6 ∈ mp_Ts := mp_Ts_in 125 (by decide +kernel) (by decide +kernel)
theorem wd_126 : Cond.castable "java/lang/IllegalArgumentException" "java/lang/IllegalArgumentException" ∈ mp_Ts := mp_Ts_in 126 (by decide +kernel) (by decide +kernel)
theorem wd_127 : Cond.declares ⟨"java/lang/RuntimeException", "<init>", "()V"⟩ ∈ mp_Ts := mp_Ts_in 127 (by decide +kernel) (by decide +kernel)
theorem wd_128 : Cond.declares ⟨"java/lang/RuntimeException", "<init>", "(Ljava/lang/String;)V"⟩ ∈ mp_Ts := mp_Ts_in 128 (by decide +kernel) (by decide +kernel)
theorem wd_129 : Cond.declares ⟨"java/lang/Exception", "<init>", "()V"⟩ ∈ mp_Ts := mp_Ts_in 129 (by decide +kernel) (by decide +kernel)
theorem wd_130 : Cond.declares ⟨"java/lang/Exception", "<init>", "(Ljava/lang/String;)V"⟩ ∈ mp_Ts := mp_Ts_in 130 (by decide +kernel) (by decide +kernel)
theorem wd_131 : Cond.declares ⟨"java/lang/Throwable", "<init>", "()V"⟩ ∈ mp_Ts := mp_Ts_in 131 (by decide +kernel) (by decide +kernel)
theorem wd_132 : Cond.declares ⟨"java/lang/Throwable", "<init>", "(Ljava/lang/String;)V"⟩ ∈ mp_Ts := mp_Ts_in 132 (by decide +kernel) (by decide +kernel)
theorem wd_133 : Cond.selects "java/lang/IllegalArgumentException" ⟨"java/lang/Throwable", "fillInStackTrace", "(I)Ljava/lang/Throwable;"⟩ ⟨"java/lang/Throwable", "fillInStackTrace", "(I)Ljava/lang/Throwable;"⟩ ∈ mp_Ts := mp_Ts_in 133 (by decide +kernel) (by decide +kernel)
theorem wd_134 : Cond.selects "java/lang/IllegalArgumentException" ⟨"java/lang/Throwable", "fillInStackTrace", "()Ljava/lang/Throwable;"⟩ ⟨"java/lang/Throwable", "fillInStackTrace", "()Ljava/lang/Throwable;"⟩ ∈ mp_Ts := mp_Ts_in 134 (by decide +kernel) (by decide +kernel)
theorem wd_147 : Cond.instanceMethod ⟨"java/lang/Throwable", "<init>", "()V"⟩ ∈ mp_Ts := mp_Ts_in 147 (by decide +kernel) (by decide +kernel)
theorem wd_149 : Cond.methodLink "java/lang/Throwable" 1 ⟨"java/lang/Object", "<init>", "()V"⟩ ∈ mp_Ts := mp_Ts_in 149 (by decide +kernel) (by decide +kernel)
theorem wd_154 : Cond.methodLink "java/lang/Throwable" 27 ⟨"java/lang/Throwable", "fillInStackTrace", "()Ljava/lang/Throwable;"⟩ ∈ mp_Ts := mp_Ts_in 154 (by decide +kernel) (by decide +kernel)
theorem wd_155 : Cond.instanceMethod ⟨"java/lang/Throwable", "fillInStackTrace", "()Ljava/lang/Throwable;"⟩ ∈ mp_Ts := mp_Ts_in 155 (by decide +kernel) (by decide +kernel)
theorem wd_156 : Cond.sameMethod "java/lang/Throwable" "java/lang/Throwable" "fillInStackTrace" "()Ljava/lang/Throwable;" ∈ mp_Ts := mp_Ts_in 156 (by decide +kernel) (by decide +kernel)
theorem wd_157 : Cond.selects "java/lang/IllegalStateException" ⟨"java/lang/Throwable", "fillInStackTrace", "()Ljava/lang/Throwable;"⟩ ⟨"java/lang/Throwable", "fillInStackTrace", "()Ljava/lang/Throwable;"⟩ ∈ mp_Ts := mp_Ts_in 157 (by decide +kernel) (by decide +kernel)
theorem wd_158 : Cond.selects "java/lang/IndexOutOfBoundsException" ⟨"java/lang/Throwable", "fillInStackTrace", "()Ljava/lang/Throwable;"⟩ ⟨"java/lang/Throwable", "fillInStackTrace", "()Ljava/lang/Throwable;"⟩ ∈ mp_Ts := mp_Ts_in 158 (by decide +kernel) (by decide +kernel)
theorem wd_160 : Cond.methodLink "java/lang/Throwable" 202 ⟨"java/lang/Throwable", "fillInStackTrace", "(I)Ljava/lang/Throwable;"⟩ ∈ mp_Ts := mp_Ts_in 160 (by decide +kernel) (by decide +kernel)
theorem wd_162 : Cond.instanceMethod ⟨"java/lang/Throwable", "fillInStackTrace", "(I)Ljava/lang/Throwable;"⟩ ∈ mp_Ts := mp_Ts_in 162 (by decide +kernel) (by decide +kernel)
theorem wd_163 : Cond.instantiable "java/lang/Throwable" 6 ∈ mp_Ts := mp_Ts_in 163 (by decide +kernel) (by decide +kernel)
theorem wd_165 : Cond.methodLink "MarkedPages" 131 ⟨"java/lang/IllegalArgumentException", "<init>", "()V"⟩ ∈ mp_Ts := mp_Ts_in 165 (by decide +kernel) (by decide +kernel)
theorem wd_166 : Cond.instanceMethod ⟨"java/lang/IllegalArgumentException", "<init>", "()V"⟩ ∈ mp_Ts := mp_Ts_in 166 (by decide +kernel) (by decide +kernel)
theorem wd_168 : Cond.methodLink "java/lang/IllegalArgumentException" 1 ⟨"java/lang/RuntimeException", "<init>", "()V"⟩ ∈ mp_Ts := mp_Ts_in 168 (by decide +kernel) (by decide +kernel)
theorem wd_169 : Cond.instanceMethod ⟨"java/lang/RuntimeException", "<init>", "()V"⟩ ∈ mp_Ts := mp_Ts_in 169 (by decide +kernel) (by decide +kernel)
theorem wd_171 : Cond.methodLink "java/lang/RuntimeException" 1 ⟨"java/lang/Exception", "<init>", "()V"⟩ ∈ mp_Ts := mp_Ts_in 171 (by decide +kernel) (by decide +kernel)
theorem wd_172 : Cond.instanceMethod ⟨"java/lang/Exception", "<init>", "()V"⟩ ∈ mp_Ts := mp_Ts_in 172 (by decide +kernel) (by decide +kernel)
theorem wd_174 : Cond.methodLink "java/lang/Exception" 1 ⟨"java/lang/Throwable", "<init>", "()V"⟩ ∈ mp_Ts := mp_Ts_in 174 (by decide +kernel) (by decide +kernel)
theorem wd_187 : Cond.methodLink "MarkedPages" 27 ⟨"MarkedPages", "refuseIndexUnless", "(Z)V"⟩ ∈ mp_Ts := mp_Ts_in 187 (by decide +kernel) (by decide +kernel)
theorem wd_188 : Cond.static ⟨"MarkedPages", "refuseIndexUnless", "(Z)V"⟩ ∈ mp_Ts := mp_Ts_in 188 (by decide +kernel) (by decide +kernel)
theorem wd_191 : Cond.instantiable "java/lang/IndexOutOfBoundsException" 6 ∈ mp_Ts := mp_Ts_in 191 (by decide +kernel) (by decide +kernel)
theorem wd_192 : Cond.castable "java/lang/IndexOutOfBoundsException" "java/lang/IndexOutOfBoundsException" ∈ mp_Ts := mp_Ts_in 192 (by decide +kernel) (by decide +kernel)
theorem wd_193 : Cond.selects "java/lang/IndexOutOfBoundsException" ⟨"java/lang/Throwable", "fillInStackTrace", "(I)Ljava/lang/Throwable;"⟩ ⟨"java/lang/Throwable", "fillInStackTrace", "(I)Ljava/lang/Throwable;"⟩ ∈ mp_Ts := mp_Ts_in 193 (by decide +kernel) (by decide +kernel)
theorem wd_199 : Cond.methodLink "MarkedPages" 134 ⟨"java/lang/IndexOutOfBoundsException", "<init>", "()V"⟩ ∈ mp_Ts := mp_Ts_in 199 (by decide +kernel) (by decide +kernel)
theorem wd_200 : Cond.instanceMethod ⟨"java/lang/IndexOutOfBoundsException", "<init>", "()V"⟩ ∈ mp_Ts := mp_Ts_in 200 (by decide +kernel) (by decide +kernel)
theorem wd_202 : Cond.methodLink "java/lang/IndexOutOfBoundsException" 1 ⟨"java/lang/RuntimeException", "<init>", "()V"⟩ ∈ mp_Ts := mp_Ts_in 202 (by decide +kernel) (by decide +kernel)
theorem wd_205 : Cond.methodLink "MarkedPages" 31 ⟨"MarkedPages", "refuseWhenAllAreMade", "()V"⟩ ∈ mp_Ts := mp_Ts_in 205 (by decide +kernel) (by decide +kernel)
theorem wd_207 : Cond.instanceMethod ⟨"MarkedPages", "refuseWhenAllAreMade", "()V"⟩ ∈ mp_Ts := mp_Ts_in 207 (by decide +kernel) (by decide +kernel)
theorem wd_210 : Cond.instantiable "java/lang/IllegalStateException" 6 ∈ mp_Ts := mp_Ts_in 210 (by decide +kernel) (by decide +kernel)
theorem wd_211 : Cond.castable "java/lang/IllegalStateException" "java/lang/IllegalStateException" ∈ mp_Ts := mp_Ts_in 211 (by decide +kernel) (by decide +kernel)
theorem wd_212 : Cond.selects "java/lang/IllegalStateException" ⟨"java/lang/Throwable", "fillInStackTrace", "(I)Ljava/lang/Throwable;"⟩ ⟨"java/lang/Throwable", "fillInStackTrace", "(I)Ljava/lang/Throwable;"⟩ ∈ mp_Ts := mp_Ts_in 212 (by decide +kernel) (by decide +kernel)
theorem wd_218 : Cond.methodLink "MarkedPages" 128 ⟨"java/lang/IllegalStateException", "<init>", "()V"⟩ ∈ mp_Ts := mp_Ts_in 218 (by decide +kernel) (by decide +kernel)
theorem wd_219 : Cond.instanceMethod ⟨"java/lang/IllegalStateException", "<init>", "()V"⟩ ∈ mp_Ts := mp_Ts_in 219 (by decide +kernel) (by decide +kernel)
theorem wd_221 : Cond.methodLink "java/lang/IllegalStateException" 1 ⟨"java/lang/RuntimeException", "<init>", "()V"⟩ ∈ mp_Ts := mp_Ts_in 221 (by decide +kernel) (by decide +kernel)
theorem wd_226 : Cond.methodLink "MarkedPages" 40 ⟨"MarkedPages$Page", "nextTime", "()I"⟩ ∈ mp_Ts := mp_Ts_in 226 (by decide +kernel) (by decide +kernel)
theorem wd_227 : Cond.instanceMethod ⟨"MarkedPages$Page", "nextTime", "()I"⟩ ∈ mp_Ts := mp_Ts_in 227 (by decide +kernel) (by decide +kernel)
theorem wd_228 : Cond.selects "MarkedPages$Page" ⟨"MarkedPages$Page", "nextTime", "()I"⟩ ⟨"MarkedPages$Page", "nextTime", "()I"⟩ ∈ mp_Ts := mp_Ts_in 228 (by decide +kernel) (by decide +kernel)
theorem wd_230 : Cond.methodLink "MarkedPages" 44 ⟨"MarkedPages$Writing", "<init>", "(IIICLMarkedPages$Writing;)V"⟩ ∈ mp_Ts := mp_Ts_in 230 (by decide +kernel) (by decide +kernel)
theorem wd_231 : Cond.instanceMethod ⟨"MarkedPages$Writing", "<init>", "(IIICLMarkedPages$Writing;)V"⟩ ∈ mp_Ts := mp_Ts_in 231 (by decide +kernel) (by decide +kernel)
theorem wd_233 : Cond.methodLink "MarkedPages$Writing" 1 ⟨"MarkedPages$Operation", "<init>", "(III)V"⟩ ∈ mp_Ts := mp_Ts_in 233 (by decide +kernel) (by decide +kernel)
theorem wd_234 : Cond.instanceMethod ⟨"MarkedPages$Operation", "<init>", "(III)V"⟩ ∈ mp_Ts := mp_Ts_in 234 (by decide +kernel) (by decide +kernel)
theorem wd_236 : Cond.methodLink "MarkedPages$Operation" 1 ⟨"java/lang/Object", "<init>", "()V"⟩ ∈ mp_Ts := mp_Ts_in 236 (by decide +kernel) (by decide +kernel)
theorem wd_268 : Cond.methodLink "MarkedPages" 47 ⟨"MarkedPages", "make", "(LMarkedPages$Page;LMarkedPages$Operation;)I"⟩ ∈ mp_Ts := mp_Ts_in 268 (by decide +kernel) (by decide +kernel)
theorem wd_270 : Cond.instanceMethod ⟨"MarkedPages", "make", "(LMarkedPages$Page;LMarkedPages$Operation;)I"⟩ ∈ mp_Ts := mp_Ts_in 270 (by decide +kernel) (by decide +kernel)
theorem wd_272 : Cond.methodLink "MarkedPages" 92 ⟨"MarkedPages$Page", "learn", "(LMarkedPages$Operation;)V"⟩ ∈ mp_Ts := mp_Ts_in 272 (by decide +kernel) (by decide +kernel)
theorem wd_273 : Cond.instanceMethod ⟨"MarkedPages$Page", "learn", "(LMarkedPages$Operation;)V"⟩ ∈ mp_Ts := mp_Ts_in 273 (by decide +kernel) (by decide +kernel)
theorem wd_274 : Cond.selects "MarkedPages$Page" ⟨"MarkedPages$Page", "learn", "(LMarkedPages$Operation;)V"⟩ ⟨"MarkedPages$Page", "learn", "(LMarkedPages$Operation;)V"⟩ ∈ mp_Ts := mp_Ts_in 274 (by decide +kernel) (by decide +kernel)
theorem wd_276 : Cond.methodLink "MarkedPages$Page" 56 ⟨"java/lang/Math", "max", "(II)I"⟩ ∈ mp_Ts := mp_Ts_in 276 (by decide +kernel) (by decide +kernel)
theorem wd_277 : Cond.static ⟨"java/lang/Math", "max", "(II)I"⟩ ∈ mp_Ts := mp_Ts_in 277 (by decide +kernel) (by decide +kernel)
theorem wd_279 : Cond.methodLink "MarkedPages$Page" 62 ⟨"MarkedPages$Operation", "reach", "(LMarkedPages$Page;)V"⟩ ∈ mp_Ts := mp_Ts_in 279 (by decide +kernel) (by decide +kernel)
theorem wd_280 : Cond.declares ⟨"MarkedPages$Operation", "reach", "(LMarkedPages$Page;)V"⟩ ∈ mp_Ts := mp_Ts_in 280 (by decide +kernel) (by decide +kernel)
theorem wd_281 : Cond.sameMethod "MarkedPages$Operation" "MarkedPages$Operation" "reach" "(LMarkedPages$Page;)V" ∈ mp_Ts := mp_Ts_in 281 (by decide +kernel) (by decide +kernel)
theorem wd_282 : Cond.selects "MarkedPages$Erasing" ⟨"MarkedPages$Operation", "reach", "(LMarkedPages$Page;)V"⟩ ⟨"MarkedPages$Erasing", "reach", "(LMarkedPages$Page;)V"⟩ ∈ mp_Ts := mp_Ts_in 282 (by decide +kernel) (by decide +kernel)
theorem wd_283 : Cond.instanceMethod ⟨"MarkedPages$Erasing", "reach", "(LMarkedPages$Page;)V"⟩ ∈ mp_Ts := mp_Ts_in 283 (by decide +kernel) (by decide +kernel)
theorem wd_285 : Cond.selects "MarkedPages$Marking" ⟨"MarkedPages$Operation", "reach", "(LMarkedPages$Page;)V"⟩ ⟨"MarkedPages$Marking", "reach", "(LMarkedPages$Page;)V"⟩ ∈ mp_Ts := mp_Ts_in 285 (by decide +kernel) (by decide +kernel)
theorem wd_286 : Cond.instanceMethod ⟨"MarkedPages$Marking", "reach", "(LMarkedPages$Page;)V"⟩ ∈ mp_Ts := mp_Ts_in 286 (by decide +kernel) (by decide +kernel)
theorem wd_288 : Cond.methodLink "MarkedPages$Marking" 31 ⟨"MarkedPages$Page", "addMarking", "(LMarkedPages$Marking;)V"⟩ ∈ mp_Ts := mp_Ts_in 288 (by decide +kernel) (by decide +kernel)
theorem wd_289 : Cond.instanceMethod ⟨"MarkedPages$Page", "addMarking", "(LMarkedPages$Marking;)V"⟩ ∈ mp_Ts := mp_Ts_in 289 (by decide +kernel) (by decide +kernel)
theorem wd_290 : Cond.selects "MarkedPages$Page" ⟨"MarkedPages$Page", "addMarking", "(LMarkedPages$Marking;)V"⟩ ⟨"MarkedPages$Page", "addMarking", "(LMarkedPages$Marking;)V"⟩ ∈ mp_Ts := mp_Ts_in 290 (by decide +kernel) (by decide +kernel)
theorem wd_292 : Cond.selects "MarkedPages$Writing" ⟨"MarkedPages$Operation", "reach", "(LMarkedPages$Page;)V"⟩ ⟨"MarkedPages$Writing", "reach", "(LMarkedPages$Page;)V"⟩ ∈ mp_Ts := mp_Ts_in 292 (by decide +kernel) (by decide +kernel)
theorem wd_293 : Cond.instanceMethod ⟨"MarkedPages$Writing", "reach", "(LMarkedPages$Page;)V"⟩ ∈ mp_Ts := mp_Ts_in 293 (by decide +kernel) (by decide +kernel)
theorem wd_295 : Cond.methodLink "MarkedPages$Writing" 17 ⟨"MarkedPages$Page", "putIntoRow", "(LMarkedPages$Writing;)V"⟩ ∈ mp_Ts := mp_Ts_in 295 (by decide +kernel) (by decide +kernel)
theorem wd_296 : Cond.instanceMethod ⟨"MarkedPages$Page", "putIntoRow", "(LMarkedPages$Writing;)V"⟩ ∈ mp_Ts := mp_Ts_in 296 (by decide +kernel) (by decide +kernel)
theorem wd_297 : Cond.selects "MarkedPages$Page" ⟨"MarkedPages$Page", "putIntoRow", "(LMarkedPages$Writing;)V"⟩ ⟨"MarkedPages$Page", "putIntoRow", "(LMarkedPages$Writing;)V"⟩ ∈ mp_Ts := mp_Ts_in 297 (by decide +kernel) (by decide +kernel)
theorem wd_299 : Cond.methodLink "MarkedPages$Page" 80 ⟨"MarkedPages$Page", "setInRow", "(ILMarkedPages$Writing;)V"⟩ ∈ mp_Ts := mp_Ts_in 299 (by decide +kernel) (by decide +kernel)
theorem wd_301 : Cond.instanceMethod ⟨"MarkedPages$Page", "setInRow", "(ILMarkedPages$Writing;)V"⟩ ∈ mp_Ts := mp_Ts_in 301 (by decide +kernel) (by decide +kernel)
theorem wd_303 : Cond.methodLink "MarkedPages$Page" 66 ⟨"MarkedPages$Page", "gatherText", "()V"⟩ ∈ mp_Ts := mp_Ts_in 303 (by decide +kernel) (by decide +kernel)
theorem wd_305 : Cond.instanceMethod ⟨"MarkedPages$Page", "gatherText", "()V"⟩ ∈ mp_Ts := mp_Ts_in 305 (by decide +kernel) (by decide +kernel)
theorem wd_307 : Cond.methodLink "MarkedPagesLaw" 72 ⟨"MarkedPagesLaw", "erase", "(LMarkedPages;II[J)I"⟩ ∈ mp_Ts := mp_Ts_in 307 (by decide +kernel) (by decide +kernel)
theorem wd_308 : Cond.static ⟨"MarkedPagesLaw", "erase", "(LMarkedPages;II[J)I"⟩ ∈ mp_Ts := mp_Ts_in 308 (by decide +kernel) (by decide +kernel)
theorem wd_310 : Cond.methodLink "MarkedPagesLaw" 19 ⟨"MarkedPages", "erase", "(II)C"⟩ ∈ mp_Ts := mp_Ts_in 310 (by decide +kernel) (by decide +kernel)
theorem wd_311 : Cond.instanceMethod ⟨"MarkedPages", "erase", "(II)C"⟩ ∈ mp_Ts := mp_Ts_in 311 (by decide +kernel) (by decide +kernel)
theorem wd_312 : Cond.selects "MarkedPages" ⟨"MarkedPages", "erase", "(II)C"⟩ ⟨"MarkedPages", "erase", "(II)C"⟩ ∈ mp_Ts := mp_Ts_in 312 (by decide +kernel) (by decide +kernel)
theorem wd_314 : Cond.methodLink "MarkedPages" 51 ⟨"MarkedPages$Page", "writingShownAt", "(I)LMarkedPages$Writing;"⟩ ∈ mp_Ts := mp_Ts_in 314 (by decide +kernel) (by decide +kernel)
theorem wd_315 : Cond.instanceMethod ⟨"MarkedPages$Page", "writingShownAt", "(I)LMarkedPages$Writing;"⟩ ∈ mp_Ts := mp_Ts_in 315 (by decide +kernel) (by decide +kernel)
theorem wd_316 : Cond.selects "MarkedPages$Page" ⟨"MarkedPages$Page", "writingShownAt", "(I)LMarkedPages$Writing;"⟩ ⟨"MarkedPages$Page", "writingShownAt", "(I)LMarkedPages$Writing;"⟩ ∈ mp_Ts := mp_Ts_in 316 (by decide +kernel) (by decide +kernel)
theorem wd_318 : Cond.methodLinkNest "MarkedPages$Page" 91 ⟨"MarkedPages", "refuseIndexUnless", "(Z)V"⟩ "MarkedPages" ∈ mp_Ts := mp_Ts_in 318 (by decide +kernel) (by decide +kernel)
theorem wd_321 : Cond.methodLink "MarkedPages" 57 ⟨"MarkedPages$Erasing", "<init>", "(IIILMarkedPages$Writing;)V"⟩ ∈ mp_Ts := mp_Ts_in 321 (by decide +kernel) (by decide +kernel)
theorem wd_322 : Cond.instanceMethod ⟨"MarkedPages$Erasing", "<init>", "(IIILMarkedPages$Writing;)V"⟩ ∈ mp_Ts := mp_Ts_in 322 (by decide +kernel) (by decide +kernel)
theorem wd_324 : Cond.methodLink "MarkedPages$Erasing" 1 ⟨"MarkedPages$Operation", "<init>", "(III)V"⟩ ∈ mp_Ts := mp_Ts_in 324 (by decide +kernel) (by decide +kernel)
theorem wd_332 : Cond.methodLink "MarkedPagesLaw" 76 ⟨"MarkedPagesLaw", "mark", "(LMarkedPages;IIII[J)I"⟩ ∈ mp_Ts := mp_Ts_in 332 (by decide +kernel) (by decide +kernel)
theorem wd_333 : Cond.static ⟨"MarkedPagesLaw", "mark", "(LMarkedPages;IIII[J)I"⟩ ∈ mp_Ts := mp_Ts_in 333 (by decide +kernel) (by decide +kernel)
theorem wd_335 : Cond.methodLink "MarkedPagesLaw" 23 ⟨"MarkedPages", "mark", "(IIII)I"⟩ ∈ mp_Ts := mp_Ts_in 335 (by decide +kernel) (by decide +kernel)
theorem wd_336 : Cond.instanceMethod ⟨"MarkedPages", "mark", "(IIII)I"⟩ ∈ mp_Ts := mp_Ts_in 336 (by decide +kernel) (by decide +kernel)
theorem wd_337 : Cond.selects "MarkedPages" ⟨"MarkedPages", "mark", "(IIII)I"⟩ ⟨"MarkedPages", "mark", "(IIII)I"⟩ ∈ mp_Ts := mp_Ts_in 337 (by decide +kernel) (by decide +kernel)
theorem wd_339 : Cond.methodLink "MarkedPages" 67 ⟨"MarkedPages$Marking", "endsBeforeItsEndLetter", "(I)Z"⟩ ∈ mp_Ts := mp_Ts_in 339 (by decide +kernel) (by decide +kernel)
theorem wd_340 : Cond.static ⟨"MarkedPages$Marking", "endsBeforeItsEndLetter", "(I)Z"⟩ ∈ mp_Ts := mp_Ts_in 340 (by decide +kernel) (by decide +kernel)
theorem wd_344 : Cond.methodLink "MarkedPages" 73 ⟨"MarkedPages$Marking", "<init>", "(IIIILMarkedPages$Writing;LMarkedPages$Writing;)V"⟩ ∈ mp_Ts := mp_Ts_in 344 (by decide +kernel) (by decide +kernel)
theorem wd_345 : Cond.instanceMethod ⟨"MarkedPages$Marking", "<init>", "(IIIILMarkedPages$Writing;LMarkedPages$Writing;)V"⟩ ∈ mp_Ts := mp_Ts_in 345 (by decide +kernel) (by decide +kernel)
theorem wd_347 : Cond.methodLink "MarkedPages$Marking" 1 ⟨"MarkedPages$Operation", "<init>", "(III)V"⟩ ∈ mp_Ts := mp_Ts_in 347 (by decide +kernel) (by decide +kernel)
theorem wd_348 : Cond.methodLink "MarkedPages$Marking" 17 ⟨"MarkedPages$Marking", "endsBeforeItsEndLetter", "(I)Z"⟩ ∈ mp_Ts := mp_Ts_in 348 (by decide +kernel) (by decide +kernel)
theorem wd_370 : Cond.methodLink "MarkedPagesLaw" 80 ⟨"MarkedPagesLaw", "tell", "(LMarkedPages;III[J)I"⟩ ∈ mp_Ts := mp_Ts_in 370 (by decide +kernel) (by decide +kernel)
theorem wd_371 : Cond.static ⟨"MarkedPagesLaw", "tell", "(LMarkedPages;III[J)I"⟩ ∈ mp_Ts := mp_Ts_in 371 (by decide +kernel) (by decide +kernel)
theorem wd_373 : Cond.methodLink "MarkedPagesLaw" 27 ⟨"MarkedPages", "tell", "(III)I"⟩ ∈ mp_Ts := mp_Ts_in 373 (by decide +kernel) (by decide +kernel)
theorem wd_374 : Cond.instanceMethod ⟨"MarkedPages", "tell", "(III)I"⟩ ∈ mp_Ts := mp_Ts_in 374 (by decide +kernel) (by decide +kernel)
theorem wd_375 : Cond.selects "MarkedPages" ⟨"MarkedPages", "tell", "(III)I"⟩ ⟨"MarkedPages", "tell", "(III)I"⟩ ∈ mp_Ts := mp_Ts_in 375 (by decide +kernel) (by decide +kernel)
theorem wd_377 : Cond.methodLink "MarkedPagesLaw" 84 ⟨"MarkedPagesLaw", "length", "(LMarkedPages;I[J)I"⟩ ∈ mp_Ts := mp_Ts_in 377 (by decide +kernel) (by decide +kernel)
theorem wd_378 : Cond.static ⟨"MarkedPagesLaw", "length", "(LMarkedPages;I[J)I"⟩ ∈ mp_Ts := mp_Ts_in 378 (by decide +kernel) (by decide +kernel)
theorem wd_380 : Cond.methodLink "MarkedPagesLaw" 31 ⟨"MarkedPages", "length", "(I)I"⟩ ∈ mp_Ts := mp_Ts_in 380 (by decide +kernel) (by decide +kernel)
theorem wd_381 : Cond.instanceMethod ⟨"MarkedPages", "length", "(I)I"⟩ ∈ mp_Ts := mp_Ts_in 381 (by decide +kernel) (by decide +kernel)
theorem wd_382 : Cond.selects "MarkedPages" ⟨"MarkedPages", "length", "(I)I"⟩ ⟨"MarkedPages", "length", "(I)I"⟩ ∈ mp_Ts := mp_Ts_in 382 (by decide +kernel) (by decide +kernel)
theorem wd_384 : Cond.methodLink "MarkedPagesLaw" 88 ⟨"MarkedPagesLaw", "at", "(LMarkedPages;II[J)I"⟩ ∈ mp_Ts := mp_Ts_in 384 (by decide +kernel) (by decide +kernel)
theorem wd_385 : Cond.static ⟨"MarkedPagesLaw", "at", "(LMarkedPages;II[J)I"⟩ ∈ mp_Ts := mp_Ts_in 385 (by decide +kernel) (by decide +kernel)
theorem wd_387 : Cond.methodLink "MarkedPagesLaw" 35 ⟨"MarkedPages", "at", "(II)C"⟩ ∈ mp_Ts := mp_Ts_in 387 (by decide +kernel) (by decide +kernel)
theorem wd_388 : Cond.instanceMethod ⟨"MarkedPages", "at", "(II)C"⟩ ∈ mp_Ts := mp_Ts_in 388 (by decide +kernel) (by decide +kernel)
theorem wd_389 : Cond.selects "MarkedPages" ⟨"MarkedPages", "at", "(II)C"⟩ ⟨"MarkedPages", "at", "(II)C"⟩ ∈ mp_Ts := mp_Ts_in 389 (by decide +kernel) (by decide +kernel)
theorem wd_391 : Cond.methodLink "MarkedPagesLaw" 91 ⟨"MarkedPagesLaw", "format", "(LMarkedPages;II[J)I"⟩ ∈ mp_Ts := mp_Ts_in 391 (by decide +kernel) (by decide +kernel)
theorem wd_392 : Cond.static ⟨"MarkedPagesLaw", "format", "(LMarkedPages;II[J)I"⟩ ∈ mp_Ts := mp_Ts_in 392 (by decide +kernel) (by decide +kernel)
theorem wd_394 : Cond.methodLink "MarkedPagesLaw" 38 ⟨"MarkedPages", "format", "(II)I"⟩ ∈ mp_Ts := mp_Ts_in 394 (by decide +kernel) (by decide +kernel)
theorem wd_395 : Cond.instanceMethod ⟨"MarkedPages", "format", "(II)I"⟩ ∈ mp_Ts := mp_Ts_in 395 (by decide +kernel) (by decide +kernel)
theorem wd_396 : Cond.selects "MarkedPages" ⟨"MarkedPages", "format", "(II)I"⟩ ⟨"MarkedPages", "format", "(II)I"⟩ ∈ mp_Ts := mp_Ts_in 396 (by decide +kernel) (by decide +kernel)
theorem wd_398 : Cond.methodLink "MarkedPages" 96 ⟨"MarkedPages$Page", "formatOf", "(LMarkedPages$Writing;)I"⟩ ∈ mp_Ts := mp_Ts_in 398 (by decide +kernel) (by decide +kernel)
theorem wd_399 : Cond.instanceMethod ⟨"MarkedPages$Page", "formatOf", "(LMarkedPages$Writing;)I"⟩ ∈ mp_Ts := mp_Ts_in 399 (by decide +kernel) (by decide +kernel)
theorem wd_400 : Cond.selects "MarkedPages$Page" ⟨"MarkedPages$Page", "formatOf", "(LMarkedPages$Writing;)I"⟩ ⟨"MarkedPages$Page", "formatOf", "(LMarkedPages$Writing;)I"⟩ ∈ mp_Ts := mp_Ts_in 400 (by decide +kernel) (by decide +kernel)
theorem wd_402 : Cond.methodLink "MarkedPages$Page" 95 ⟨"MarkedPages$Marking", "covers", "(I[I)Z"⟩ ∈ mp_Ts := mp_Ts_in 402 (by decide +kernel) (by decide +kernel)
theorem wd_403 : Cond.instanceMethod ⟨"MarkedPages$Marking", "covers", "(I[I)Z"⟩ ∈ mp_Ts := mp_Ts_in 403 (by decide +kernel) (by decide +kernel)
theorem wd_404 : Cond.selects "MarkedPages$Marking" ⟨"MarkedPages$Marking", "covers", "(I[I)Z"⟩ ⟨"MarkedPages$Marking", "covers", "(I[I)Z"⟩ ∈ mp_Ts := mp_Ts_in 404 (by decide +kernel) (by decide +kernel)
theorem wd_406 : Cond.methodLink "MarkedPagesLaw" 94 ⟨"MarkedPagesLaw", "id", "(LMarkedPages;II[J)I"⟩ ∈ mp_Ts := mp_Ts_in 406 (by decide +kernel) (by decide +kernel)
theorem wd_407 : Cond.static ⟨"MarkedPagesLaw", "id", "(LMarkedPages;II[J)I"⟩ ∈ mp_Ts := mp_Ts_in 407 (by decide +kernel) (by decide +kernel)
theorem wd_409 : Cond.methodLink "MarkedPagesLaw" 42 ⟨"MarkedPages", "id", "(II)I"⟩ ∈ mp_Ts := mp_Ts_in 409 (by decide +kernel) (by decide +kernel)
theorem wd_410 : Cond.instanceMethod ⟨"MarkedPages", "id", "(II)I"⟩ ∈ mp_Ts := mp_Ts_in 410 (by decide +kernel) (by decide +kernel)
theorem wd_411 : Cond.selects "MarkedPages" ⟨"MarkedPages", "id", "(II)I"⟩ ⟨"MarkedPages", "id", "(II)I"⟩ ∈ mp_Ts := mp_Ts_in 411 (by decide +kernel) (by decide +kernel)
theorem wd_413 : Cond.methodLink "MarkedPagesLaw" 97 ⟨"MarkedPagesLaw", "runs", "(LMarkedPages;I[J)I"⟩ ∈ mp_Ts := mp_Ts_in 413 (by decide +kernel) (by decide +kernel)
theorem wd_414 : Cond.static ⟨"MarkedPagesLaw", "runs", "(LMarkedPages;I[J)I"⟩ ∈ mp_Ts := mp_Ts_in 414 (by decide +kernel) (by decide +kernel)
theorem wd_416 : Cond.methodLink "MarkedPagesLaw" 45 ⟨"MarkedPages", "runs", "(I)I"⟩ ∈ mp_Ts := mp_Ts_in 416 (by decide +kernel) (by decide +kernel)
theorem wd_417 : Cond.instanceMethod ⟨"MarkedPages", "runs", "(I)I"⟩ ∈ mp_Ts := mp_Ts_in 417 (by decide +kernel) (by decide +kernel)
theorem wd_418 : Cond.selects "MarkedPages" ⟨"MarkedPages", "runs", "(I)I"⟩ ⟨"MarkedPages", "runs", "(I)I"⟩ ∈ mp_Ts := mp_Ts_in 418 (by decide +kernel) (by decide +kernel)
theorem wd_420 : Cond.methodLink "MarkedPages" 103 ⟨"MarkedPages$Page", "startsRun", "(I)Z"⟩ ∈ mp_Ts := mp_Ts_in 420 (by decide +kernel) (by decide +kernel)
theorem wd_421 : Cond.instanceMethod ⟨"MarkedPages$Page", "startsRun", "(I)Z"⟩ ∈ mp_Ts := mp_Ts_in 421 (by decide +kernel) (by decide +kernel)
theorem wd_422 : Cond.selects "MarkedPages$Page" ⟨"MarkedPages$Page", "startsRun", "(I)Z"⟩ ⟨"MarkedPages$Page", "startsRun", "(I)Z"⟩ ∈ mp_Ts := mp_Ts_in 422 (by decide +kernel) (by decide +kernel)
theorem wd_424 : Cond.methodLink "MarkedPages$Page" 106 ⟨"MarkedPages$Page", "formatOf", "(LMarkedPages$Writing;)I"⟩ ∈ mp_Ts := mp_Ts_in 424 (by decide +kernel) (by decide +kernel)
theorem wd_425 : Cond.methodLink "MarkedPagesLaw" 100 ⟨"MarkedPagesLaw", "run", "(LMarkedPages;III[J)I"⟩ ∈ mp_Ts := mp_Ts_in 425 (by decide +kernel) (by decide +kernel)
theorem wd_426 : Cond.static ⟨"MarkedPagesLaw", "run", "(LMarkedPages;III[J)I"⟩ ∈ mp_Ts := mp_Ts_in 426 (by decide +kernel) (by decide +kernel)
theorem wd_428 : Cond.methodLink "MarkedPagesLaw" 48 ⟨"MarkedPages", "run", "(III)I"⟩ ∈ mp_Ts := mp_Ts_in 428 (by decide +kernel) (by decide +kernel)
theorem wd_429 : Cond.instanceMethod ⟨"MarkedPages", "run", "(III)I"⟩ ∈ mp_Ts := mp_Ts_in 429 (by decide +kernel) (by decide +kernel)
theorem wd_430 : Cond.selects "MarkedPages" ⟨"MarkedPages", "run", "(III)I"⟩ ⟨"MarkedPages", "run", "(III)I"⟩ ∈ mp_Ts := mp_Ts_in 430 (by decide +kernel) (by decide +kernel)
theorem wd_432 : Cond.methodLink "MarkedPages" 106 ⟨"MarkedPages$Page", "startOfRun", "(I)I"⟩ ∈ mp_Ts := mp_Ts_in 432 (by decide +kernel) (by decide +kernel)
theorem wd_433 : Cond.instanceMethod ⟨"MarkedPages$Page", "startOfRun", "(I)I"⟩ ∈ mp_Ts := mp_Ts_in 433 (by decide +kernel) (by decide +kernel)
theorem wd_434 : Cond.selects "MarkedPages$Page" ⟨"MarkedPages$Page", "startOfRun", "(I)I"⟩ ⟨"MarkedPages$Page", "startOfRun", "(I)I"⟩ ∈ mp_Ts := mp_Ts_in 434 (by decide +kernel) (by decide +kernel)
theorem wd_436 : Cond.methodLink "MarkedPages$Page" 110 ⟨"MarkedPages$Page", "startsRun", "(I)Z"⟩ ∈ mp_Ts := mp_Ts_in 436 (by decide +kernel) (by decide +kernel)
theorem wd_437 : Cond.methodLink "MarkedPagesLaw" 103 ⟨"MarkedPagesLaw", "count", "(LMarkedPages;II[J)I"⟩ ∈ mp_Ts := mp_Ts_in 437 (by decide +kernel) (by decide +kernel)
theorem wd_438 : Cond.static ⟨"MarkedPagesLaw", "count", "(LMarkedPages;II[J)I"⟩ ∈ mp_Ts := mp_Ts_in 438 (by decide +kernel) (by decide +kernel)
theorem wd_440 : Cond.methodLink "MarkedPagesLaw" 51 ⟨"MarkedPages", "count", "(II)I"⟩ ∈ mp_Ts := mp_Ts_in 440 (by decide +kernel) (by decide +kernel)
theorem wd_441 : Cond.instanceMethod ⟨"MarkedPages", "count", "(II)I"⟩ ∈ mp_Ts := mp_Ts_in 441 (by decide +kernel) (by decide +kernel)
theorem wd_442 : Cond.selects "MarkedPages" ⟨"MarkedPages", "count", "(II)I"⟩ ⟨"MarkedPages", "count", "(II)I"⟩ ∈ mp_Ts := mp_Ts_in 442 (by decide +kernel) (by decide +kernel)
theorem wd_444 : Cond.methodLink "MarkedPagesLaw" 106 ⟨"MarkedPagesLaw", "alike", "(LMarkedPages;II[J)I"⟩ ∈ mp_Ts := mp_Ts_in 444 (by decide +kernel) (by decide +kernel)
theorem wd_445 : Cond.static ⟨"MarkedPagesLaw", "alike", "(LMarkedPages;II[J)I"⟩ ∈ mp_Ts := mp_Ts_in 445 (by decide +kernel) (by decide +kernel)
theorem wd_447 : Cond.methodLink "MarkedPagesLaw" 54 ⟨"MarkedPages", "alike", "(II)Z"⟩ ∈ mp_Ts := mp_Ts_in 447 (by decide +kernel) (by decide +kernel)
theorem wd_448 : Cond.instanceMethod ⟨"MarkedPages", "alike", "(II)Z"⟩ ∈ mp_Ts := mp_Ts_in 448 (by decide +kernel) (by decide +kernel)
theorem wd_449 : Cond.selects "MarkedPages" ⟨"MarkedPages", "alike", "(II)Z"⟩ ⟨"MarkedPages", "alike", "(II)Z"⟩ ∈ mp_Ts := mp_Ts_in 449 (by decide +kernel) (by decide +kernel)
theorem wd_451 : Cond.methodLink "MarkedPages" 119 ⟨"MarkedPages$Page", "knowsAllOf", "(LMarkedPages$Page;)Z"⟩ ∈ mp_Ts := mp_Ts_in 451 (by decide +kernel) (by decide +kernel)
theorem wd_452 : Cond.instanceMethod ⟨"MarkedPages$Page", "knowsAllOf", "(LMarkedPages$Page;)Z"⟩ ∈ mp_Ts := mp_Ts_in 452 (by decide +kernel) (by decide +kernel)
theorem wd_453 : Cond.selects "MarkedPages$Page" ⟨"MarkedPages$Page", "knowsAllOf", "(LMarkedPages$Page;)Z"⟩ ⟨"MarkedPages$Page", "knowsAllOf", "(LMarkedPages$Page;)Z"⟩ ∈ mp_Ts := mp_Ts_in 453 (by decide +kernel) (by decide +kernel)
theorem wd_457 : Cond.methodLink "MarkedPagesLaw" 61 ⟨"MarkedPagesModel", "<init>", "()V"⟩ ∈ mp_Ts := mp_Ts_in 457 (by decide +kernel) (by decide +kernel)
theorem wd_458 : Cond.instanceMethod ⟨"MarkedPagesModel", "<init>", "()V"⟩ ∈ mp_Ts := mp_Ts_in 458 (by decide +kernel) (by decide +kernel)
theorem wd_460 : Cond.methodLink "MarkedPagesModel" 1 ⟨"java/lang/Object", "<init>", "()V"⟩ ∈ mp_Ts := mp_Ts_in 460 (by decide +kernel) (by decide +kernel)
theorem wd_513 : Cond.arrayClass FieldType.char ∈ mp_Ts := mp_Ts_in 513 (by decide +kernel) (by decide +kernel)
theorem wd_514 : Cond.methodLink "MarkedPagesLaw" 68 ⟨"MarkedPagesModel", "thrown", "()I"⟩ ∈ mp_Ts := mp_Ts_in 514 (by decide +kernel) (by decide +kernel)
theorem wd_515 : Cond.instanceMethod ⟨"MarkedPagesModel", "thrown", "()I"⟩ ∈ mp_Ts := mp_Ts_in 515 (by decide +kernel) (by decide +kernel)
theorem wd_516 : Cond.selects "MarkedPagesModel" ⟨"MarkedPagesModel", "thrown", "()I"⟩ ⟨"MarkedPagesModel", "thrown", "()I"⟩ ∈ mp_Ts := mp_Ts_in 516 (by decide +kernel) (by decide +kernel)
theorem wd_518 : Cond.methodLink "MarkedPagesLaw" 67 ⟨"MarkedPagesModel", "write", "(IIC)I"⟩ ∈ mp_Ts := mp_Ts_in 518 (by decide +kernel) (by decide +kernel)
theorem wd_519 : Cond.instanceMethod ⟨"MarkedPagesModel", "write", "(IIC)I"⟩ ∈ mp_Ts := mp_Ts_in 519 (by decide +kernel) (by decide +kernel)
theorem wd_520 : Cond.selects "MarkedPagesModel" ⟨"MarkedPagesModel", "write", "(IIC)I"⟩ ⟨"MarkedPagesModel", "write", "(IIC)I"⟩ ∈ mp_Ts := mp_Ts_in 520 (by decide +kernel) (by decide +kernel)
theorem wd_522 : Cond.methodLink "MarkedPagesModel" 83 ⟨"MarkedPagesModel", "isPage", "(I)Z"⟩ ∈ mp_Ts := mp_Ts_in 522 (by decide +kernel) (by decide +kernel)
theorem wd_523 : Cond.static ⟨"MarkedPagesModel", "isPage", "(I)Z"⟩ ∈ mp_Ts := mp_Ts_in 523 (by decide +kernel) (by decide +kernel)
theorem wd_525 : Cond.methodLink "MarkedPagesModel" 87 ⟨"MarkedPagesModel", "look", "(I)V"⟩ ∈ mp_Ts := mp_Ts_in 525 (by decide +kernel) (by decide +kernel)
theorem wd_527 : Cond.instanceMethod ⟨"MarkedPagesModel", "look", "(I)V"⟩ ∈ mp_Ts := mp_Ts_in 527 (by decide +kernel) (by decide +kernel)
theorem wd_529 : Cond.methodLink "MarkedPagesModel" 64 ⟨"MarkedPagesModel", "nextBehind", "(II)I"⟩ ∈ mp_Ts := mp_Ts_in 529 (by decide +kernel) (by decide +kernel)
theorem wd_531 : Cond.instanceMethod ⟨"MarkedPagesModel", "nextBehind", "(II)I"⟩ ∈ mp_Ts := mp_Ts_in 531 (by decide +kernel) (by decide +kernel)
theorem wd_533 : Cond.methodLink "MarkedPagesModel" 68 ⟨"MarkedPagesModel", "isGone", "(II)Z"⟩ ∈ mp_Ts := mp_Ts_in 533 (by decide +kernel) (by decide +kernel)
theorem wd_535 : Cond.instanceMethod ⟨"MarkedPagesModel", "isGone", "(II)Z"⟩ ∈ mp_Ts := mp_Ts_in 535 (by decide +kernel) (by decide +kernel)
theorem wd_537 : Cond.methodLink "MarkedPagesModel" 91 ⟨"MarkedPagesModel", "make", "(IIIII)I"⟩ ∈ mp_Ts := mp_Ts_in 537 (by decide +kernel) (by decide +kernel)
theorem wd_539 : Cond.instanceMethod ⟨"MarkedPagesModel", "make", "(IIIII)I"⟩ ∈ mp_Ts := mp_Ts_in 539 (by decide +kernel) (by decide +kernel)
theorem wd_541 : Cond.methodLink "MarkedPagesModel" 75 ⟨"MarkedPagesModel", "greatest", "(I)I"⟩ ∈ mp_Ts := mp_Ts_in 541 (by decide +kernel) (by decide +kernel)
theorem wd_543 : Cond.instanceMethod ⟨"MarkedPagesModel", "greatest", "(I)I"⟩ ∈ mp_Ts := mp_Ts_in 543 (by decide +kernel) (by decide +kernel)
theorem wd_545 : Cond.methodLink "MarkedPagesModel" 79 ⟨"MarkedPagesModel", "learn", "(II)V"⟩ ∈ mp_Ts := mp_Ts_in 545 (by decide +kernel) (by decide +kernel)
theorem wd_547 : Cond.instanceMethod ⟨"MarkedPagesModel", "learn", "(II)V"⟩ ∈ mp_Ts := mp_Ts_in 547 (by decide +kernel) (by decide +kernel)
theorem wd_549 : Cond.methodLink "MarkedPagesLaw" 75 ⟨"MarkedPagesModel", "erase", "(II)C"⟩ ∈ mp_Ts := mp_Ts_in 549 (by decide +kernel) (by decide +kernel)
theorem wd_550 : Cond.instanceMethod ⟨"MarkedPagesModel", "erase", "(II)C"⟩ ∈ mp_Ts := mp_Ts_in 550 (by decide +kernel) (by decide +kernel)
theorem wd_551 : Cond.selects "MarkedPagesModel" ⟨"MarkedPagesModel", "erase", "(II)C"⟩ ⟨"MarkedPagesModel", "erase", "(II)C"⟩ ∈ mp_Ts := mp_Ts_in 551 (by decide +kernel) (by decide +kernel)
theorem wd_553 : Cond.methodLink "MarkedPagesLaw" 79 ⟨"MarkedPagesModel", "mark", "(IIII)I"⟩ ∈ mp_Ts := mp_Ts_in 553 (by decide +kernel) (by decide +kernel)
theorem wd_554 : Cond.instanceMethod ⟨"MarkedPagesModel", "mark", "(IIII)I"⟩ ∈ mp_Ts := mp_Ts_in 554 (by decide +kernel) (by decide +kernel)
theorem wd_555 : Cond.selects "MarkedPagesModel" ⟨"MarkedPagesModel", "mark", "(IIII)I"⟩ ⟨"MarkedPagesModel", "mark", "(IIII)I"⟩ ∈ mp_Ts := mp_Ts_in 555 (by decide +kernel) (by decide +kernel)
theorem wd_557 : Cond.methodLink "MarkedPagesLaw" 83 ⟨"MarkedPagesModel", "tell", "(III)I"⟩ ∈ mp_Ts := mp_Ts_in 557 (by decide +kernel) (by decide +kernel)
theorem wd_558 : Cond.instanceMethod ⟨"MarkedPagesModel", "tell", "(III)I"⟩ ∈ mp_Ts := mp_Ts_in 558 (by decide +kernel) (by decide +kernel)
theorem wd_559 : Cond.selects "MarkedPagesModel" ⟨"MarkedPagesModel", "tell", "(III)I"⟩ ⟨"MarkedPagesModel", "tell", "(III)I"⟩ ∈ mp_Ts := mp_Ts_in 559 (by decide +kernel) (by decide +kernel)
theorem wd_561 : Cond.methodLink "MarkedPagesLaw" 87 ⟨"MarkedPagesModel", "length", "(I)I"⟩ ∈ mp_Ts := mp_Ts_in 561 (by decide +kernel) (by decide +kernel)
theorem wd_562 : Cond.instanceMethod ⟨"MarkedPagesModel", "length", "(I)I"⟩ ∈ mp_Ts := mp_Ts_in 562 (by decide +kernel) (by decide +kernel)
theorem wd_563 : Cond.selects "MarkedPagesModel" ⟨"MarkedPagesModel", "length", "(I)I"⟩ ⟨"MarkedPagesModel", "length", "(I)I"⟩ ∈ mp_Ts := mp_Ts_in 563 (by decide +kernel) (by decide +kernel)
theorem wd_565 : Cond.methodLink "MarkedPagesLaw" 90 ⟨"MarkedPagesModel", "at", "(II)C"⟩ ∈ mp_Ts := mp_Ts_in 565 (by decide +kernel) (by decide +kernel)
theorem wd_566 : Cond.instanceMethod ⟨"MarkedPagesModel", "at", "(II)C"⟩ ∈ mp_Ts := mp_Ts_in 566 (by decide +kernel) (by decide +kernel)
theorem wd_567 : Cond.selects "MarkedPagesModel" ⟨"MarkedPagesModel", "at", "(II)C"⟩ ⟨"MarkedPagesModel", "at", "(II)C"⟩ ∈ mp_Ts := mp_Ts_in 567 (by decide +kernel) (by decide +kernel)
theorem wd_569 : Cond.methodLink "MarkedPagesModel" 95 ⟨"MarkedPagesModel", "finds", "(II)Z"⟩ ∈ mp_Ts := mp_Ts_in 569 (by decide +kernel) (by decide +kernel)
theorem wd_571 : Cond.instanceMethod ⟨"MarkedPagesModel", "finds", "(II)Z"⟩ ∈ mp_Ts := mp_Ts_in 571 (by decide +kernel) (by decide +kernel)
theorem wd_573 : Cond.methodLink "MarkedPagesLaw" 93 ⟨"MarkedPagesModel", "format", "(II)I"⟩ ∈ mp_Ts := mp_Ts_in 573 (by decide +kernel) (by decide +kernel)
theorem wd_574 : Cond.instanceMethod ⟨"MarkedPagesModel", "format", "(II)I"⟩ ∈ mp_Ts := mp_Ts_in 574 (by decide +kernel) (by decide +kernel)
theorem wd_575 : Cond.selects "MarkedPagesModel" ⟨"MarkedPagesModel", "format", "(II)I"⟩ ⟨"MarkedPagesModel", "format", "(II)I"⟩ ∈ mp_Ts := mp_Ts_in 575 (by decide +kernel) (by decide +kernel)
theorem wd_577 : Cond.methodLink "MarkedPagesModel" 98 ⟨"MarkedPagesModel", "formatOf", "(II)I"⟩ ∈ mp_Ts := mp_Ts_in 577 (by decide +kernel) (by decide +kernel)
theorem wd_579 : Cond.instanceMethod ⟨"MarkedPagesModel", "formatOf", "(II)I"⟩ ∈ mp_Ts := mp_Ts_in 579 (by decide +kernel) (by decide +kernel)
theorem wd_581 : Cond.methodLink "MarkedPagesModel" 72 ⟨"MarkedPagesModel", "covers", "(II)Z"⟩ ∈ mp_Ts := mp_Ts_in 581 (by decide +kernel) (by decide +kernel)
theorem wd_583 : Cond.instanceMethod ⟨"MarkedPagesModel", "covers", "(II)Z"⟩ ∈ mp_Ts := mp_Ts_in 583 (by decide +kernel) (by decide +kernel)
theorem wd_585 : Cond.methodLink "MarkedPagesLaw" 96 ⟨"MarkedPagesModel", "id", "(II)I"⟩ ∈ mp_Ts := mp_Ts_in 585 (by decide +kernel) (by decide +kernel)
theorem wd_586 : Cond.instanceMethod ⟨"MarkedPagesModel", "id", "(II)I"⟩ ∈ mp_Ts := mp_Ts_in 586 (by decide +kernel) (by decide +kernel)
theorem wd_587 : Cond.selects "MarkedPagesModel" ⟨"MarkedPagesModel", "id", "(II)I"⟩ ⟨"MarkedPagesModel", "id", "(II)I"⟩ ∈ mp_Ts := mp_Ts_in 587 (by decide +kernel) (by decide +kernel)
theorem wd_589 : Cond.methodLink "MarkedPagesLaw" 99 ⟨"MarkedPagesModel", "runs", "(I)I"⟩ ∈ mp_Ts := mp_Ts_in 589 (by decide +kernel) (by decide +kernel)
theorem wd_590 : Cond.instanceMethod ⟨"MarkedPagesModel", "runs", "(I)I"⟩ ∈ mp_Ts := mp_Ts_in 590 (by decide +kernel) (by decide +kernel)
theorem wd_591 : Cond.selects "MarkedPagesModel" ⟨"MarkedPagesModel", "runs", "(I)I"⟩ ⟨"MarkedPagesModel", "runs", "(I)I"⟩ ∈ mp_Ts := mp_Ts_in 591 (by decide +kernel) (by decide +kernel)
theorem wd_593 : Cond.methodLink "MarkedPagesModel" 101 ⟨"MarkedPagesModel", "begins", "(II)Z"⟩ ∈ mp_Ts := mp_Ts_in 593 (by decide +kernel) (by decide +kernel)
theorem wd_595 : Cond.instanceMethod ⟨"MarkedPagesModel", "begins", "(II)Z"⟩ ∈ mp_Ts := mp_Ts_in 595 (by decide +kernel) (by decide +kernel)
theorem wd_597 : Cond.methodLink "MarkedPagesLaw" 102 ⟨"MarkedPagesModel", "run", "(III)I"⟩ ∈ mp_Ts := mp_Ts_in 597 (by decide +kernel) (by decide +kernel)
theorem wd_598 : Cond.instanceMethod ⟨"MarkedPagesModel", "run", "(III)I"⟩ ∈ mp_Ts := mp_Ts_in 598 (by decide +kernel) (by decide +kernel)
theorem wd_599 : Cond.selects "MarkedPagesModel" ⟨"MarkedPagesModel", "run", "(III)I"⟩ ⟨"MarkedPagesModel", "run", "(III)I"⟩ ∈ mp_Ts := mp_Ts_in 599 (by decide +kernel) (by decide +kernel)
theorem wd_601 : Cond.methodLink "MarkedPagesLaw" 105 ⟨"MarkedPagesModel", "count", "(II)I"⟩ ∈ mp_Ts := mp_Ts_in 601 (by decide +kernel) (by decide +kernel)
theorem wd_602 : Cond.instanceMethod ⟨"MarkedPagesModel", "count", "(II)I"⟩ ∈ mp_Ts := mp_Ts_in 602 (by decide +kernel) (by decide +kernel)
theorem wd_603 : Cond.selects "MarkedPagesModel" ⟨"MarkedPagesModel", "count", "(II)I"⟩ ⟨"MarkedPagesModel", "count", "(II)I"⟩ ∈ mp_Ts := mp_Ts_in 603 (by decide +kernel) (by decide +kernel)
theorem wd_605 : Cond.methodLink "MarkedPagesLaw" 108 ⟨"MarkedPagesModel", "alike", "(II)Z"⟩ ∈ mp_Ts := mp_Ts_in 605 (by decide +kernel) (by decide +kernel)
theorem wd_606 : Cond.instanceMethod ⟨"MarkedPagesModel", "alike", "(II)Z"⟩ ∈ mp_Ts := mp_Ts_in 606 (by decide +kernel) (by decide +kernel)
theorem wd_607 : Cond.selects "MarkedPagesModel" ⟨"MarkedPagesModel", "alike", "(II)Z"⟩ ⟨"MarkedPagesModel", "alike", "(II)Z"⟩ ∈ mp_Ts := mp_Ts_in 607 (by decide +kernel) (by decide +kernel)
theorem wd_609 : Cond.arrayClass FieldType.long ∈ mp_Ts := mp_Ts_in 609 (by decide +kernel) (by decide +kernel)
theorem wd_610 : Cond.sameMethod "java/lang/Throwable" "java/lang/Throwable" "fillInStackTrace" "(I)Ljava/lang/Throwable;" ∈ mp_Ts := mp_Ts_in 610 (by decide +kernel) (by decide +kernel)
theorem wd_611 : Cond.castable "MarkedPages$Erasing" "MarkedPages$Operation" ∈ mp_Ts := mp_Ts_in 611 (by decide +kernel) (by decide +kernel)
theorem wd_612 : Cond.castable "MarkedPages$Marking" "MarkedPages$Operation" ∈ mp_Ts := mp_Ts_in 612 (by decide +kernel) (by decide +kernel)
theorem wd_613 : Cond.castable "MarkedPages$Writing" "MarkedPages$Operation" ∈ mp_Ts := mp_Ts_in 613 (by decide +kernel) (by decide +kernel)
theorem se_M_pageNumbered : Cond.selects "MarkedPages" y_M_pageNumbered y_M_pageNumbered ∈ mp_Ts := mp_Ts_in 0 (by decide +kernel) (by decide +kernel)
theorem se_M_refuseWhenAllAreMade : Cond.selects "MarkedPages" y_M_refuseWhenAllAreMade y_M_refuseWhenAllAreMade ∈ mp_Ts := mp_Ts_in 2 (by decide +kernel) (by decide +kernel)
theorem se_M_make : Cond.selects "MarkedPages" y_M_make y_M_make ∈ mp_Ts := mp_Ts_in 3 (by decide +kernel) (by decide +kernel)
theorem se_P_setInRow : Cond.selects "MarkedPages$Page" y_P_setInRow y_P_setInRow ∈ mp_Ts := mp_Ts_in 4 (by decide +kernel) (by decide +kernel)
theorem se_P_gatherText : Cond.selects "MarkedPages$Page" y_P_gatherText y_P_gatherText ∈ mp_Ts := mp_Ts_in 5 (by decide +kernel) (by decide +kernel)
theorem se_R_look : Cond.selects "MarkedPagesModel" y_R_look y_R_look ∈ mp_Ts := mp_Ts_in 6 (by decide +kernel) (by decide +kernel)
theorem se_R_nextBehind : Cond.selects "MarkedPagesModel" y_R_nextBehind y_R_nextBehind ∈ mp_Ts := mp_Ts_in 7 (by decide +kernel) (by decide +kernel)
theorem se_R_isGone : Cond.selects "MarkedPagesModel" y_R_isGone y_R_isGone ∈ mp_Ts := mp_Ts_in 8 (by decide +kernel) (by decide +kernel)
theorem se_R_make : Cond.selects "MarkedPagesModel" y_R_make y_R_make ∈ mp_Ts := mp_Ts_in 9 (by decide +kernel) (by decide +kernel)
theorem se_R_greatest : Cond.selects "MarkedPagesModel" y_R_greatest y_R_greatest ∈ mp_Ts := mp_Ts_in 10 (by decide +kernel) (by decide +kernel)
theorem se_R_learn : Cond.selects "MarkedPagesModel" y_R_learn y_R_learn ∈ mp_Ts := mp_Ts_in 11 (by decide +kernel) (by decide +kernel)
theorem se_R_finds : Cond.selects "MarkedPagesModel" y_R_finds y_R_finds ∈ mp_Ts := mp_Ts_in 12 (by decide +kernel) (by decide +kernel)
theorem se_R_formatOf : Cond.selects "MarkedPagesModel" y_R_formatOf y_R_formatOf ∈ mp_Ts := mp_Ts_in 13 (by decide +kernel) (by decide +kernel)
theorem se_R_covers : Cond.selects "MarkedPagesModel" y_R_covers y_R_covers ∈ mp_Ts := mp_Ts_in 14 (by decide +kernel) (by decide +kernel)
theorem se_R_begins : Cond.selects "MarkedPagesModel" y_R_begins y_R_begins ∈ mp_Ts := mp_Ts_in 15 (by decide +kernel) (by decide +kernel)
theorem se_M_write : Cond.selects "MarkedPages" ⟨"MarkedPages", "write", "(IIC)I"⟩ ⟨"MarkedPages", "write", "(IIC)I"⟩ ∈ mp_Ts := wd_115
theorem se_P_nextTime : Cond.selects "MarkedPages$Page" ⟨"MarkedPages$Page", "nextTime", "()I"⟩ ⟨"MarkedPages$Page", "nextTime", "()I"⟩ ∈ mp_Ts := wd_228
theorem se_P_learn : Cond.selects "MarkedPages$Page" ⟨"MarkedPages$Page", "learn", "(LMarkedPages$Operation;)V"⟩ ⟨"MarkedPages$Page", "learn", "(LMarkedPages$Operation;)V"⟩ ∈ mp_Ts := wd_274
theorem se_E_reach : Cond.selects "MarkedPages$Erasing" ⟨"MarkedPages$Operation", "reach", "(LMarkedPages$Page;)V"⟩ ⟨"MarkedPages$Erasing", "reach", "(LMarkedPages$Page;)V"⟩ ∈ mp_Ts := wd_282
theorem se_K_reach : Cond.selects "MarkedPages$Marking" ⟨"MarkedPages$Operation", "reach", "(LMarkedPages$Page;)V"⟩ ⟨"MarkedPages$Marking", "reach", "(LMarkedPages$Page;)V"⟩ ∈ mp_Ts := wd_285
theorem se_P_addMarking : Cond.selects "MarkedPages$Page" ⟨"MarkedPages$Page", "addMarking", "(LMarkedPages$Marking;)V"⟩ ⟨"MarkedPages$Page", "addMarking", "(LMarkedPages$Marking;)V"⟩ ∈ mp_Ts := wd_290
theorem se_W_reach : Cond.selects "MarkedPages$Writing" ⟨"MarkedPages$Operation", "reach", "(LMarkedPages$Page;)V"⟩ ⟨"MarkedPages$Writing", "reach", "(LMarkedPages$Page;)V"⟩ ∈ mp_Ts := wd_292
theorem se_P_putIntoRow : Cond.selects "MarkedPages$Page" ⟨"MarkedPages$Page", "putIntoRow", "(LMarkedPages$Writing;)V"⟩ ⟨"MarkedPages$Page", "putIntoRow", "(LMarkedPages$Writing;)V"⟩ ∈ mp_Ts := wd_297
theorem se_M_erase : Cond.selects "MarkedPages" ⟨"MarkedPages", "erase", "(II)C"⟩ ⟨"MarkedPages", "erase", "(II)C"⟩ ∈ mp_Ts := wd_312
theorem se_P_writingShownAt : Cond.selects "MarkedPages$Page" ⟨"MarkedPages$Page", "writingShownAt", "(I)LMarkedPages$Writing;"⟩ ⟨"MarkedPages$Page", "writingShownAt", "(I)LMarkedPages$Writing;"⟩ ∈ mp_Ts := wd_316
theorem se_M_mark : Cond.selects "MarkedPages" ⟨"MarkedPages", "mark", "(IIII)I"⟩ ⟨"MarkedPages", "mark", "(IIII)I"⟩ ∈ mp_Ts := wd_337
theorem se_M_tell : Cond.selects "MarkedPages" ⟨"MarkedPages", "tell", "(III)I"⟩ ⟨"MarkedPages", "tell", "(III)I"⟩ ∈ mp_Ts := wd_375
theorem se_M_length : Cond.selects "MarkedPages" ⟨"MarkedPages", "length", "(I)I"⟩ ⟨"MarkedPages", "length", "(I)I"⟩ ∈ mp_Ts := wd_382
theorem se_M_at : Cond.selects "MarkedPages" ⟨"MarkedPages", "at", "(II)C"⟩ ⟨"MarkedPages", "at", "(II)C"⟩ ∈ mp_Ts := wd_389
theorem se_M_format : Cond.selects "MarkedPages" ⟨"MarkedPages", "format", "(II)I"⟩ ⟨"MarkedPages", "format", "(II)I"⟩ ∈ mp_Ts := wd_396
theorem se_P_formatOf : Cond.selects "MarkedPages$Page" ⟨"MarkedPages$Page", "formatOf", "(LMarkedPages$Writing;)I"⟩ ⟨"MarkedPages$Page", "formatOf", "(LMarkedPages$Writing;)I"⟩ ∈ mp_Ts := wd_400
theorem se_K_covers : Cond.selects "MarkedPages$Marking" ⟨"MarkedPages$Marking", "covers", "(I[I)Z"⟩ ⟨"MarkedPages$Marking", "covers", "(I[I)Z"⟩ ∈ mp_Ts := wd_404
theorem se_M_id : Cond.selects "MarkedPages" ⟨"MarkedPages", "id", "(II)I"⟩ ⟨"MarkedPages", "id", "(II)I"⟩ ∈ mp_Ts := wd_411
theorem se_M_runs : Cond.selects "MarkedPages" ⟨"MarkedPages", "runs", "(I)I"⟩ ⟨"MarkedPages", "runs", "(I)I"⟩ ∈ mp_Ts := wd_418
theorem se_P_startsRun : Cond.selects "MarkedPages$Page" ⟨"MarkedPages$Page", "startsRun", "(I)Z"⟩ ⟨"MarkedPages$Page", "startsRun", "(I)Z"⟩ ∈ mp_Ts := wd_422
theorem se_M_run : Cond.selects "MarkedPages" ⟨"MarkedPages", "run", "(III)I"⟩ ⟨"MarkedPages", "run", "(III)I"⟩ ∈ mp_Ts := wd_430
theorem se_P_startOfRun : Cond.selects "MarkedPages$Page" ⟨"MarkedPages$Page", "startOfRun", "(I)I"⟩ ⟨"MarkedPages$Page", "startOfRun", "(I)I"⟩ ∈ mp_Ts := wd_434
theorem se_M_count : Cond.selects "MarkedPages" ⟨"MarkedPages", "count", "(II)I"⟩ ⟨"MarkedPages", "count", "(II)I"⟩ ∈ mp_Ts := wd_442
theorem se_M_alike : Cond.selects "MarkedPages" ⟨"MarkedPages", "alike", "(II)Z"⟩ ⟨"MarkedPages", "alike", "(II)Z"⟩ ∈ mp_Ts := wd_449
theorem se_P_knowsAllOf : Cond.selects "MarkedPages$Page" ⟨"MarkedPages$Page", "knowsAllOf", "(LMarkedPages$Page;)Z"⟩ ⟨"MarkedPages$Page", "knowsAllOf", "(LMarkedPages$Page;)Z"⟩ ∈ mp_Ts := wd_453
theorem se_R_thrown : Cond.selects "MarkedPagesModel" ⟨"MarkedPagesModel", "thrown", "()I"⟩ ⟨"MarkedPagesModel", "thrown", "()I"⟩ ∈ mp_Ts := wd_516
theorem se_R_write : Cond.selects "MarkedPagesModel" ⟨"MarkedPagesModel", "write", "(IIC)I"⟩ ⟨"MarkedPagesModel", "write", "(IIC)I"⟩ ∈ mp_Ts := wd_520
theorem se_R_erase : Cond.selects "MarkedPagesModel" ⟨"MarkedPagesModel", "erase", "(II)C"⟩ ⟨"MarkedPagesModel", "erase", "(II)C"⟩ ∈ mp_Ts := wd_551
theorem se_R_mark : Cond.selects "MarkedPagesModel" ⟨"MarkedPagesModel", "mark", "(IIII)I"⟩ ⟨"MarkedPagesModel", "mark", "(IIII)I"⟩ ∈ mp_Ts := wd_555
theorem se_R_tell : Cond.selects "MarkedPagesModel" ⟨"MarkedPagesModel", "tell", "(III)I"⟩ ⟨"MarkedPagesModel", "tell", "(III)I"⟩ ∈ mp_Ts := wd_559
theorem se_R_length : Cond.selects "MarkedPagesModel" ⟨"MarkedPagesModel", "length", "(I)I"⟩ ⟨"MarkedPagesModel", "length", "(I)I"⟩ ∈ mp_Ts := wd_563
theorem se_R_at : Cond.selects "MarkedPagesModel" ⟨"MarkedPagesModel", "at", "(II)C"⟩ ⟨"MarkedPagesModel", "at", "(II)C"⟩ ∈ mp_Ts := wd_567
theorem se_R_format : Cond.selects "MarkedPagesModel" ⟨"MarkedPagesModel", "format", "(II)I"⟩ ⟨"MarkedPagesModel", "format", "(II)I"⟩ ∈ mp_Ts := wd_575
theorem se_R_id : Cond.selects "MarkedPagesModel" ⟨"MarkedPagesModel", "id", "(II)I"⟩ ⟨"MarkedPagesModel", "id", "(II)I"⟩ ∈ mp_Ts := wd_587
theorem se_R_runs : Cond.selects "MarkedPagesModel" ⟨"MarkedPagesModel", "runs", "(I)I"⟩ ⟨"MarkedPagesModel", "runs", "(I)I"⟩ ∈ mp_Ts := wd_591
theorem se_R_run : Cond.selects "MarkedPagesModel" ⟨"MarkedPagesModel", "run", "(III)I"⟩ ⟨"MarkedPagesModel", "run", "(III)I"⟩ ∈ mp_Ts := wd_599
theorem se_R_count : Cond.selects "MarkedPagesModel" ⟨"MarkedPagesModel", "count", "(II)I"⟩ ⟨"MarkedPagesModel", "count", "(II)I"⟩ ∈ mp_Ts := wd_603
theorem se_R_alike : Cond.selects "MarkedPagesModel" ⟨"MarkedPagesModel", "alike", "(II)Z"⟩ ⟨"MarkedPagesModel", "alike", "(II)Z"⟩ ∈ mp_Ts := wd_607
theorem im_M_init : Cond.instanceMethod y_M_init ∈ mp_Ts := wd_34
theorem im_M_write : Cond.instanceMethod y_M_write ∈ mp_Ts := wd_114
theorem im_M_erase : Cond.instanceMethod y_M_erase ∈ mp_Ts := wd_311
theorem im_M_mark : Cond.instanceMethod y_M_mark ∈ mp_Ts := wd_336
theorem im_M_tell : Cond.instanceMethod y_M_tell ∈ mp_Ts := wd_374
theorem im_M_length : Cond.instanceMethod y_M_length ∈ mp_Ts := wd_381
theorem im_M_at : Cond.instanceMethod y_M_at ∈ mp_Ts := wd_388
theorem im_M_format : Cond.instanceMethod y_M_format ∈ mp_Ts := wd_395
theorem im_M_id : Cond.instanceMethod y_M_id ∈ mp_Ts := wd_410
theorem im_M_runs : Cond.instanceMethod y_M_runs ∈ mp_Ts := wd_417
theorem im_M_run : Cond.instanceMethod y_M_run ∈ mp_Ts := wd_429
theorem im_M_count : Cond.instanceMethod y_M_count ∈ mp_Ts := wd_441
theorem im_M_alike : Cond.instanceMethod y_M_alike ∈ mp_Ts := wd_448
theorem im_M_pageNumbered : Cond.instanceMethod y_M_pageNumbered ∈ mp_Ts := wd_119
theorem im_M_make : Cond.instanceMethod y_M_make ∈ mp_Ts := wd_270
theorem im_M_refuseWhenAllAreMade : Cond.instanceMethod y_M_refuseWhenAllAreMade ∈ mp_Ts := wd_207
theorem st_M_refuseArgumentUnless : Cond.static y_M_refuseArgumentUnless ∈ mp_Ts := wd_122
theorem st_M_refuseIndexUnless : Cond.static y_M_refuseIndexUnless ∈ mp_Ts := wd_188
theorem im_R_init : Cond.instanceMethod y_R_init ∈ mp_Ts := wd_458
theorem im_R_thrown : Cond.instanceMethod y_R_thrown ∈ mp_Ts := wd_515
theorem st_R_isPage : Cond.static y_R_isPage ∈ mp_Ts := wd_523
theorem im_R_nextBehind : Cond.instanceMethod y_R_nextBehind ∈ mp_Ts := wd_531
theorem im_R_isGone : Cond.instanceMethod y_R_isGone ∈ mp_Ts := wd_535
theorem im_R_look : Cond.instanceMethod y_R_look ∈ mp_Ts := wd_527
theorem im_R_covers : Cond.instanceMethod y_R_covers ∈ mp_Ts := wd_583
theorem im_R_formatOf : Cond.instanceMethod y_R_formatOf ∈ mp_Ts := wd_579
theorem im_R_greatest : Cond.instanceMethod y_R_greatest ∈ mp_Ts := wd_543
theorem im_R_learn : Cond.instanceMethod y_R_learn ∈ mp_Ts := wd_547
theorem im_R_make : Cond.instanceMethod y_R_make ∈ mp_Ts := wd_539
theorem im_R_write : Cond.instanceMethod y_R_write ∈ mp_Ts := wd_519
theorem im_R_erase : Cond.instanceMethod y_R_erase ∈ mp_Ts := wd_550
theorem im_R_mark : Cond.instanceMethod y_R_mark ∈ mp_Ts := wd_554
theorem im_R_tell : Cond.instanceMethod y_R_tell ∈ mp_Ts := wd_558
theorem im_R_length : Cond.instanceMethod y_R_length ∈ mp_Ts := wd_562
theorem im_R_finds : Cond.instanceMethod y_R_finds ∈ mp_Ts := wd_571
theorem im_R_at : Cond.instanceMethod y_R_at ∈ mp_Ts := wd_566
theorem im_R_format : Cond.instanceMethod y_R_format ∈ mp_Ts := wd_574
theorem im_R_id : Cond.instanceMethod y_R_id ∈ mp_Ts := wd_586
theorem im_R_begins : Cond.instanceMethod y_R_begins ∈ mp_Ts := wd_595
theorem im_R_runs : Cond.instanceMethod y_R_runs ∈ mp_Ts := wd_590
theorem im_R_run : Cond.instanceMethod y_R_run ∈ mp_Ts := wd_598
theorem im_R_count : Cond.instanceMethod y_R_count ∈ mp_Ts := wd_602
theorem im_R_alike : Cond.instanceMethod y_R_alike ∈ mp_Ts := wd_606
theorem im_E_init : Cond.instanceMethod y_E_init ∈ mp_Ts := wd_322
theorem im_E_reach : Cond.instanceMethod y_E_reach ∈ mp_Ts := wd_283
theorem im_K_init : Cond.instanceMethod y_K_init ∈ mp_Ts := wd_345
theorem st_K_endsBeforeItsEndLetter : Cond.static y_K_endsBeforeItsEndLetter ∈ mp_Ts := wd_340
theorem im_K_reach : Cond.instanceMethod y_K_reach ∈ mp_Ts := wd_286
theorem im_K_covers : Cond.instanceMethod y_K_covers ∈ mp_Ts := wd_403
theorem im_O_init : Cond.instanceMethod y_O_init ∈ mp_Ts := wd_234
theorem im_P_init : Cond.instanceMethod y_P_init ∈ mp_Ts := wd_43
theorem im_P_nextTime : Cond.instanceMethod y_P_nextTime ∈ mp_Ts := wd_227
theorem im_P_learn : Cond.instanceMethod y_P_learn ∈ mp_Ts := wd_273
theorem im_P_knowsAllOf : Cond.instanceMethod y_P_knowsAllOf ∈ mp_Ts := wd_452
theorem im_P_putIntoRow : Cond.instanceMethod y_P_putIntoRow ∈ mp_Ts := wd_296
theorem im_P_setInRow : Cond.instanceMethod y_P_setInRow ∈ mp_Ts := wd_301
theorem im_P_addMarking : Cond.instanceMethod y_P_addMarking ∈ mp_Ts := wd_289
theorem im_P_gatherText : Cond.instanceMethod y_P_gatherText ∈ mp_Ts := wd_305
theorem im_P_writingShownAt : Cond.instanceMethod y_P_writingShownAt ∈ mp_Ts := wd_315
theorem im_P_formatOf : Cond.instanceMethod y_P_formatOf ∈ mp_Ts := wd_399
theorem im_P_startsRun : Cond.instanceMethod y_P_startsRun ∈ mp_Ts := wd_421
theorem im_P_startOfRun : Cond.instanceMethod y_P_startOfRun ∈ mp_Ts := wd_433
theorem im_W_init : Cond.instanceMethod y_W_init ∈ mp_Ts := wd_231
theorem im_W_reach : Cond.instanceMethod y_W_reach ∈ mp_Ts := wd_293
theorem st_L_write : Cond.static y_L_write ∈ mp_Ts := wd_108
theorem st_L_erase : Cond.static y_L_erase ∈ mp_Ts := wd_308
theorem st_L_mark : Cond.static y_L_mark ∈ mp_Ts := wd_333
theorem st_L_tell : Cond.static y_L_tell ∈ mp_Ts := wd_371
theorem st_L_length : Cond.static y_L_length ∈ mp_Ts := wd_378
theorem st_L_at : Cond.static y_L_at ∈ mp_Ts := wd_385
theorem st_L_format : Cond.static y_L_format ∈ mp_Ts := wd_392
theorem st_L_id : Cond.static y_L_id ∈ mp_Ts := wd_407
theorem st_L_runs : Cond.static y_L_runs ∈ mp_Ts := wd_414
theorem st_L_run : Cond.static y_L_run ∈ mp_Ts := wd_426
theorem st_L_count : Cond.static y_L_count ∈ mp_Ts := wd_438
theorem st_L_alike : Cond.static y_L_alike ∈ mp_Ts := wd_445
theorem in_M : Cond.initialized "MarkedPages" ∈ mp_Ts := wd_17
theorem in_P : Cond.initialized "MarkedPages$Page" ∈ mp_Ts := wd_18
theorem in_W : Cond.initialized "MarkedPages$Writing" ∈ mp_Ts := wd_27
theorem in_E : Cond.initialized "MarkedPages$Erasing" ∈ mp_Ts := wd_29
theorem in_K : Cond.initialized "MarkedPages$Marking" ∈ mp_Ts := wd_30
theorem in_O : Cond.initialized "MarkedPages$Operation" ∈ mp_Ts := wd_26
theorem in_R : Cond.initialized "MarkedPagesModel" ∈ mp_Ts := wd_19
theorem in_L : Cond.initialized "MarkedPagesLaw" ∈ mp_Ts := wd_16
theorem ml_L_58 : Cond.methodLink "MarkedPagesLaw" 58 ⟨"MarkedPages", "<init>", "()V"⟩ ∈ mp_Ts := wd_33
theorem ml_M_1 : Cond.methodLink "MarkedPages" 1 ⟨"java/lang/Object", "<init>", "()V"⟩ ∈ mp_Ts := wd_36
theorem ml_M_15 : Cond.methodLink "MarkedPages" 15 ⟨"MarkedPages$Page", "<init>", "()V"⟩ ∈ mp_Ts := wd_42
theorem ml_P_3 : Cond.methodLink "MarkedPages$Page" 3 ⟨"java/lang/Object", "<init>", "()V"⟩ ∈ mp_Ts := wd_45
theorem ml_L_62 : Cond.methodLink "MarkedPagesLaw" 62 ⟨"MarkedPagesLaw", "write", "(LMarkedPages;IIC[J)I"⟩ ∈ mp_Ts := wd_107
theorem ml_L_7 : Cond.methodLink "MarkedPagesLaw" 7 ⟨"MarkedPages", "write", "(IIC)I"⟩ ∈ mp_Ts := wd_113
theorem ml_M_20 : Cond.methodLink "MarkedPages" 20 ⟨"MarkedPages", "pageNumbered", "(I)LMarkedPages$Page;"⟩ ∈ mp_Ts := wd_117
theorem ml_M_64 : Cond.methodLink "MarkedPages" 64 ⟨"MarkedPages", "refuseArgumentUnless", "(Z)V"⟩ ∈ mp_Ts := wd_121
theorem ml_M_131 : Cond.methodLink "MarkedPages" 131 ⟨"java/lang/IllegalArgumentException", "<init>", "()V"⟩ ∈ mp_Ts := wd_165
theorem ml_M_27 : Cond.methodLink "MarkedPages" 27 ⟨"MarkedPages", "refuseIndexUnless", "(Z)V"⟩ ∈ mp_Ts := wd_187
theorem ml_M_134 : Cond.methodLink "MarkedPages" 134 ⟨"java/lang/IndexOutOfBoundsException", "<init>", "()V"⟩ ∈ mp_Ts := wd_199
theorem ml_M_31 : Cond.methodLink "MarkedPages" 31 ⟨"MarkedPages", "refuseWhenAllAreMade", "()V"⟩ ∈ mp_Ts := wd_205
theorem ml_M_128 : Cond.methodLink "MarkedPages" 128 ⟨"java/lang/IllegalStateException", "<init>", "()V"⟩ ∈ mp_Ts := wd_218
theorem ml_M_40 : Cond.methodLink "MarkedPages" 40 ⟨"MarkedPages$Page", "nextTime", "()I"⟩ ∈ mp_Ts := wd_226
theorem ml_M_44 : Cond.methodLink "MarkedPages" 44 ⟨"MarkedPages$Writing", "<init>", "(IIICLMarkedPages$Writing;)V"⟩ ∈ mp_Ts := wd_230
theorem ml_W_1 : Cond.methodLink "MarkedPages$Writing" 1 ⟨"MarkedPages$Operation", "<init>", "(III)V"⟩ ∈ mp_Ts := wd_233
theorem ml_O_1 : Cond.methodLink "MarkedPages$Operation" 1 ⟨"java/lang/Object", "<init>", "()V"⟩ ∈ mp_Ts := wd_236
theorem ml_M_47 : Cond.methodLink "MarkedPages" 47 ⟨"MarkedPages", "make", "(LMarkedPages$Page;LMarkedPages$Operation;)I"⟩ ∈ mp_Ts := wd_268
theorem ml_M_92 : Cond.methodLink "MarkedPages" 92 ⟨"MarkedPages$Page", "learn", "(LMarkedPages$Operation;)V"⟩ ∈ mp_Ts := wd_272
theorem ml_P_56 : Cond.methodLink "MarkedPages$Page" 56 ⟨"java/lang/Math", "max", "(II)I"⟩ ∈ mp_Ts := wd_276
theorem ml_P_62 : Cond.methodLink "MarkedPages$Page" 62 ⟨"MarkedPages$Operation", "reach", "(LMarkedPages$Page;)V"⟩ ∈ mp_Ts := wd_279
theorem ml_K_31 : Cond.methodLink "MarkedPages$Marking" 31 ⟨"MarkedPages$Page", "addMarking", "(LMarkedPages$Marking;)V"⟩ ∈ mp_Ts := wd_288
theorem ml_W_17 : Cond.methodLink "MarkedPages$Writing" 17 ⟨"MarkedPages$Page", "putIntoRow", "(LMarkedPages$Writing;)V"⟩ ∈ mp_Ts := wd_295
theorem ml_P_80 : Cond.methodLink "MarkedPages$Page" 80 ⟨"MarkedPages$Page", "setInRow", "(ILMarkedPages$Writing;)V"⟩ ∈ mp_Ts := wd_299
theorem ml_P_66 : Cond.methodLink "MarkedPages$Page" 66 ⟨"MarkedPages$Page", "gatherText", "()V"⟩ ∈ mp_Ts := wd_303
theorem ml_L_72 : Cond.methodLink "MarkedPagesLaw" 72 ⟨"MarkedPagesLaw", "erase", "(LMarkedPages;II[J)I"⟩ ∈ mp_Ts := wd_307
theorem ml_L_19 : Cond.methodLink "MarkedPagesLaw" 19 ⟨"MarkedPages", "erase", "(II)C"⟩ ∈ mp_Ts := wd_310
theorem ml_M_51 : Cond.methodLink "MarkedPages" 51 ⟨"MarkedPages$Page", "writingShownAt", "(I)LMarkedPages$Writing;"⟩ ∈ mp_Ts := wd_314
theorem mn_P_91 : Cond.methodLinkNest "MarkedPages$Page" 91 ⟨"MarkedPages", "refuseIndexUnless", "(Z)V"⟩ "MarkedPages" ∈ mp_Ts := wd_318
theorem ml_M_57 : Cond.methodLink "MarkedPages" 57 ⟨"MarkedPages$Erasing", "<init>", "(IIILMarkedPages$Writing;)V"⟩ ∈ mp_Ts := wd_321
theorem ml_E_1 : Cond.methodLink "MarkedPages$Erasing" 1 ⟨"MarkedPages$Operation", "<init>", "(III)V"⟩ ∈ mp_Ts := wd_324
theorem ml_L_76 : Cond.methodLink "MarkedPagesLaw" 76 ⟨"MarkedPagesLaw", "mark", "(LMarkedPages;IIII[J)I"⟩ ∈ mp_Ts := wd_332
theorem ml_L_23 : Cond.methodLink "MarkedPagesLaw" 23 ⟨"MarkedPages", "mark", "(IIII)I"⟩ ∈ mp_Ts := wd_335
theorem ml_M_67 : Cond.methodLink "MarkedPages" 67 ⟨"MarkedPages$Marking", "endsBeforeItsEndLetter", "(I)Z"⟩ ∈ mp_Ts := wd_339
theorem ml_M_73 : Cond.methodLink "MarkedPages" 73 ⟨"MarkedPages$Marking", "<init>", "(IIIILMarkedPages$Writing;LMarkedPages$Writing;)V"⟩ ∈ mp_Ts := wd_344
theorem ml_K_1 : Cond.methodLink "MarkedPages$Marking" 1 ⟨"MarkedPages$Operation", "<init>", "(III)V"⟩ ∈ mp_Ts := wd_347
theorem ml_K_17 : Cond.methodLink "MarkedPages$Marking" 17 ⟨"MarkedPages$Marking", "endsBeforeItsEndLetter", "(I)Z"⟩ ∈ mp_Ts := wd_348
theorem ml_L_80 : Cond.methodLink "MarkedPagesLaw" 80 ⟨"MarkedPagesLaw", "tell", "(LMarkedPages;III[J)I"⟩ ∈ mp_Ts := wd_370
theorem ml_L_27 : Cond.methodLink "MarkedPagesLaw" 27 ⟨"MarkedPages", "tell", "(III)I"⟩ ∈ mp_Ts := wd_373
theorem ml_L_84 : Cond.methodLink "MarkedPagesLaw" 84 ⟨"MarkedPagesLaw", "length", "(LMarkedPages;I[J)I"⟩ ∈ mp_Ts := wd_377
theorem ml_L_31 : Cond.methodLink "MarkedPagesLaw" 31 ⟨"MarkedPages", "length", "(I)I"⟩ ∈ mp_Ts := wd_380
theorem ml_L_88 : Cond.methodLink "MarkedPagesLaw" 88 ⟨"MarkedPagesLaw", "at", "(LMarkedPages;II[J)I"⟩ ∈ mp_Ts := wd_384
theorem ml_L_35 : Cond.methodLink "MarkedPagesLaw" 35 ⟨"MarkedPages", "at", "(II)C"⟩ ∈ mp_Ts := wd_387
theorem ml_L_91 : Cond.methodLink "MarkedPagesLaw" 91 ⟨"MarkedPagesLaw", "format", "(LMarkedPages;II[J)I"⟩ ∈ mp_Ts := wd_391
theorem ml_L_38 : Cond.methodLink "MarkedPagesLaw" 38 ⟨"MarkedPages", "format", "(II)I"⟩ ∈ mp_Ts := wd_394
theorem ml_M_96 : Cond.methodLink "MarkedPages" 96 ⟨"MarkedPages$Page", "formatOf", "(LMarkedPages$Writing;)I"⟩ ∈ mp_Ts := wd_398
theorem ml_P_95 : Cond.methodLink "MarkedPages$Page" 95 ⟨"MarkedPages$Marking", "covers", "(I[I)Z"⟩ ∈ mp_Ts := wd_402
theorem ml_L_94 : Cond.methodLink "MarkedPagesLaw" 94 ⟨"MarkedPagesLaw", "id", "(LMarkedPages;II[J)I"⟩ ∈ mp_Ts := wd_406
theorem ml_L_42 : Cond.methodLink "MarkedPagesLaw" 42 ⟨"MarkedPages", "id", "(II)I"⟩ ∈ mp_Ts := wd_409
theorem ml_L_97 : Cond.methodLink "MarkedPagesLaw" 97 ⟨"MarkedPagesLaw", "runs", "(LMarkedPages;I[J)I"⟩ ∈ mp_Ts := wd_413
theorem ml_L_45 : Cond.methodLink "MarkedPagesLaw" 45 ⟨"MarkedPages", "runs", "(I)I"⟩ ∈ mp_Ts := wd_416
theorem ml_M_103 : Cond.methodLink "MarkedPages" 103 ⟨"MarkedPages$Page", "startsRun", "(I)Z"⟩ ∈ mp_Ts := wd_420
theorem ml_P_106 : Cond.methodLink "MarkedPages$Page" 106 ⟨"MarkedPages$Page", "formatOf", "(LMarkedPages$Writing;)I"⟩ ∈ mp_Ts := wd_424
theorem ml_L_100 : Cond.methodLink "MarkedPagesLaw" 100 ⟨"MarkedPagesLaw", "run", "(LMarkedPages;III[J)I"⟩ ∈ mp_Ts := wd_425
theorem ml_L_48 : Cond.methodLink "MarkedPagesLaw" 48 ⟨"MarkedPages", "run", "(III)I"⟩ ∈ mp_Ts := wd_428
theorem ml_M_106 : Cond.methodLink "MarkedPages" 106 ⟨"MarkedPages$Page", "startOfRun", "(I)I"⟩ ∈ mp_Ts := wd_432
theorem ml_P_110 : Cond.methodLink "MarkedPages$Page" 110 ⟨"MarkedPages$Page", "startsRun", "(I)Z"⟩ ∈ mp_Ts := wd_436
theorem ml_L_103 : Cond.methodLink "MarkedPagesLaw" 103 ⟨"MarkedPagesLaw", "count", "(LMarkedPages;II[J)I"⟩ ∈ mp_Ts := wd_437
theorem ml_L_51 : Cond.methodLink "MarkedPagesLaw" 51 ⟨"MarkedPages", "count", "(II)I"⟩ ∈ mp_Ts := wd_440
theorem ml_L_106 : Cond.methodLink "MarkedPagesLaw" 106 ⟨"MarkedPagesLaw", "alike", "(LMarkedPages;II[J)I"⟩ ∈ mp_Ts := wd_444
theorem ml_L_54 : Cond.methodLink "MarkedPagesLaw" 54 ⟨"MarkedPages", "alike", "(II)Z"⟩ ∈ mp_Ts := wd_447
theorem ml_M_119 : Cond.methodLink "MarkedPages" 119 ⟨"MarkedPages$Page", "knowsAllOf", "(LMarkedPages$Page;)Z"⟩ ∈ mp_Ts := wd_451
theorem ml_L_61 : Cond.methodLink "MarkedPagesLaw" 61 ⟨"MarkedPagesModel", "<init>", "()V"⟩ ∈ mp_Ts := wd_457
theorem ml_R_1 : Cond.methodLink "MarkedPagesModel" 1 ⟨"java/lang/Object", "<init>", "()V"⟩ ∈ mp_Ts := wd_460
theorem ml_L_68 : Cond.methodLink "MarkedPagesLaw" 68 ⟨"MarkedPagesModel", "thrown", "()I"⟩ ∈ mp_Ts := wd_514
theorem ml_L_67 : Cond.methodLink "MarkedPagesLaw" 67 ⟨"MarkedPagesModel", "write", "(IIC)I"⟩ ∈ mp_Ts := wd_518
theorem ml_R_83 : Cond.methodLink "MarkedPagesModel" 83 ⟨"MarkedPagesModel", "isPage", "(I)Z"⟩ ∈ mp_Ts := wd_522
theorem ml_R_87 : Cond.methodLink "MarkedPagesModel" 87 ⟨"MarkedPagesModel", "look", "(I)V"⟩ ∈ mp_Ts := wd_525
theorem ml_R_64 : Cond.methodLink "MarkedPagesModel" 64 ⟨"MarkedPagesModel", "nextBehind", "(II)I"⟩ ∈ mp_Ts := wd_529
theorem ml_R_68 : Cond.methodLink "MarkedPagesModel" 68 ⟨"MarkedPagesModel", "isGone", "(II)Z"⟩ ∈ mp_Ts := wd_533
theorem ml_R_91 : Cond.methodLink "MarkedPagesModel" 91 ⟨"MarkedPagesModel", "make", "(IIIII)I"⟩ ∈ mp_Ts := wd_537
theorem ml_R_75 : Cond.methodLink "MarkedPagesModel" 75 ⟨"MarkedPagesModel", "greatest", "(I)I"⟩ ∈ mp_Ts := wd_541
theorem ml_R_79 : Cond.methodLink "MarkedPagesModel" 79 ⟨"MarkedPagesModel", "learn", "(II)V"⟩ ∈ mp_Ts := wd_545
theorem ml_L_75 : Cond.methodLink "MarkedPagesLaw" 75 ⟨"MarkedPagesModel", "erase", "(II)C"⟩ ∈ mp_Ts := wd_549
theorem ml_L_79 : Cond.methodLink "MarkedPagesLaw" 79 ⟨"MarkedPagesModel", "mark", "(IIII)I"⟩ ∈ mp_Ts := wd_553
theorem ml_L_83 : Cond.methodLink "MarkedPagesLaw" 83 ⟨"MarkedPagesModel", "tell", "(III)I"⟩ ∈ mp_Ts := wd_557
theorem ml_L_87 : Cond.methodLink "MarkedPagesLaw" 87 ⟨"MarkedPagesModel", "length", "(I)I"⟩ ∈ mp_Ts := wd_561
theorem ml_L_90 : Cond.methodLink "MarkedPagesLaw" 90 ⟨"MarkedPagesModel", "at", "(II)C"⟩ ∈ mp_Ts := wd_565
theorem ml_R_95 : Cond.methodLink "MarkedPagesModel" 95 ⟨"MarkedPagesModel", "finds", "(II)Z"⟩ ∈ mp_Ts := wd_569
theorem ml_L_93 : Cond.methodLink "MarkedPagesLaw" 93 ⟨"MarkedPagesModel", "format", "(II)I"⟩ ∈ mp_Ts := wd_573
theorem ml_R_98 : Cond.methodLink "MarkedPagesModel" 98 ⟨"MarkedPagesModel", "formatOf", "(II)I"⟩ ∈ mp_Ts := wd_577
theorem ml_R_72 : Cond.methodLink "MarkedPagesModel" 72 ⟨"MarkedPagesModel", "covers", "(II)Z"⟩ ∈ mp_Ts := wd_581
theorem ml_L_96 : Cond.methodLink "MarkedPagesLaw" 96 ⟨"MarkedPagesModel", "id", "(II)I"⟩ ∈ mp_Ts := wd_585
theorem ml_L_99 : Cond.methodLink "MarkedPagesLaw" 99 ⟨"MarkedPagesModel", "runs", "(I)I"⟩ ∈ mp_Ts := wd_589
theorem ml_R_101 : Cond.methodLink "MarkedPagesModel" 101 ⟨"MarkedPagesModel", "begins", "(II)Z"⟩ ∈ mp_Ts := wd_593
theorem ml_L_102 : Cond.methodLink "MarkedPagesLaw" 102 ⟨"MarkedPagesModel", "run", "(III)I"⟩ ∈ mp_Ts := wd_597
theorem ml_L_105 : Cond.methodLink "MarkedPagesLaw" 105 ⟨"MarkedPagesModel", "count", "(II)I"⟩ ∈ mp_Ts := wd_601
theorem ml_L_108 : Cond.methodLink "MarkedPagesLaw" 108 ⟨"MarkedPagesModel", "alike", "(II)Z"⟩ ∈ mp_Ts := wd_605
end
section
/-! Decode rows by program. -/
theorem d_M_init_0 : decode c_M_init 0 = .ok (.aload_n 0, 1) := by decide +kernel
theorem d_M_init_1 : decode c_M_init 1 = .ok (.invokespecial 1, 3) := by decide +kernel
theorem d_M_init_4 : decode c_M_init 4 = .ok (.aload_n 0, 1) := by decide +kernel
theorem d_M_init_5 : decode c_M_init 5 = .ok (.iconst 3, 1) := by decide +kernel
theorem d_M_init_6 : decode c_M_init 6 = .ok (.anewarray 9, 3) := by decide +kernel
theorem d_M_init_9 : decode c_M_init 9 = .ok (.putfield 11, 3) := by decide +kernel
theorem d_M_init_12 : decode c_M_init 12 = .ok (.iconst 0, 1) := by decide +kernel
theorem d_M_init_13 : decode c_M_init 13 = .ok (.istore_n 1, 1) := by decide +kernel
theorem d_M_init_14 : decode c_M_init 14 = .ok (.iload_n 1, 1) := by decide +kernel
theorem d_M_init_15 : decode c_M_init 15 = .ok (.iconst 3, 1) := by decide +kernel
theorem d_M_init_16 : decode c_M_init 16 = .ok (.if_icmp .ge 22, 3) := by decide +kernel
theorem d_M_init_19 : decode c_M_init 19 = .ok (.aload_n 0, 1) := by decide +kernel
theorem d_M_init_20 : decode c_M_init 20 = .ok (.getfield 11, 3) := by decide +kernel
theorem d_M_init_23 : decode c_M_init 23 = .ok (.iload_n 1, 1) := by decide +kernel
theorem d_M_init_24 : decode c_M_init 24 = .ok (.new 9, 3) := by decide +kernel
theorem d_M_init_27 : decode c_M_init 27 = .ok (.dup, 1) := by decide +kernel
theorem d_M_init_28 : decode c_M_init 28 = .ok (.invokespecial 15, 3) := by decide +kernel
theorem d_M_init_31 : decode c_M_init 31 = .ok (.aastore, 1) := by decide +kernel
theorem d_M_init_32 : decode c_M_init 32 = .ok (.iinc 1 1, 3) := by decide +kernel
theorem d_M_init_35 : decode c_M_init 35 = .ok (.goto (-21), 3) := by decide +kernel
theorem d_M_init_38 : decode c_M_init 38 = .ok (.aload_n 0, 1) := by decide +kernel
theorem d_M_init_39 : decode c_M_init 39 = .ok (.iconst 0, 1) := by decide +kernel
theorem d_M_init_40 : decode c_M_init 40 = .ok (.putfield 16, 3) := by decide +kernel
theorem d_M_init_43 : decode c_M_init 43 = .ok (.return_, 1) := by decide +kernel
theorem d_M_write_0 : decode c_M_write 0 = .ok (.aload_n 0, 1) := by decide +kernel
theorem d_M_write_1 : decode c_M_write 1 = .ok (.iload_n 1, 1) := by decide +kernel
theorem d_M_write_2 : decode c_M_write 2 = .ok (.invokevirtual 20, 3) := by decide +kernel
theorem d_M_write_5 : decode c_M_write 5 = .ok (.astore 4, 2) := by decide +kernel
theorem d_M_write_7 : decode c_M_write 7 = .ok (.iload_n 2, 1) := by decide +kernel
theorem d_M_write_8 : decode c_M_write 8 = .ok (.ifCond .lt 16, 3) := by decide +kernel
theorem d_M_write_11 : decode c_M_write 11 = .ok (.iload_n 2, 1) := by decide +kernel
theorem d_M_write_12 : decode c_M_write 12 = .ok (.aload 4, 2) := by decide +kernel
theorem d_M_write_14 : decode c_M_write 14 = .ok (.getfield 24, 3) := by decide +kernel
theorem d_M_write_17 : decode c_M_write 17 = .ok (.if_icmp .gt 7, 3) := by decide +kernel
theorem d_M_write_20 : decode c_M_write 20 = .ok (.iconst 1, 1) := by decide +kernel
theorem d_M_write_21 : decode c_M_write 21 = .ok (.goto 4, 3) := by decide +kernel
theorem d_M_write_24 : decode c_M_write 24 = .ok (.iconst 0, 1) := by decide +kernel
theorem d_M_write_25 : decode c_M_write 25 = .ok (.invokestatic 27, 3) := by decide +kernel
theorem d_M_write_28 : decode c_M_write 28 = .ok (.aload_n 0, 1) := by decide +kernel
theorem d_M_write_29 : decode c_M_write 29 = .ok (.invokevirtual 31, 3) := by decide +kernel
theorem d_M_write_32 : decode c_M_write 32 = .ok (.iload_n 2, 1) := by decide +kernel
theorem d_M_write_33 : decode c_M_write 33 = .ok (.ifCond .ne 7, 3) := by decide +kernel
theorem d_M_write_36 : decode c_M_write 36 = .ok (.aconst_null, 1) := by decide +kernel
theorem d_M_write_37 : decode c_M_write 37 = .ok (.goto 12, 3) := by decide +kernel
theorem d_M_write_40 : decode c_M_write 40 = .ok (.aload 4, 2) := by decide +kernel
theorem d_M_write_42 : decode c_M_write 42 = .ok (.getfield 34, 3) := by decide +kernel
theorem d_M_write_45 : decode c_M_write 45 = .ok (.iload_n 2, 1) := by decide +kernel
theorem d_M_write_46 : decode c_M_write 46 = .ok (.iconst 1, 1) := by decide +kernel
theorem d_M_write_47 : decode c_M_write 47 = .ok (.isub, 1) := by decide +kernel
theorem d_M_write_48 : decode c_M_write 48 = .ok (.aaload, 1) := by decide +kernel
theorem d_M_write_49 : decode c_M_write 49 = .ok (.astore 5, 2) := by decide +kernel
theorem d_M_write_51 : decode c_M_write 51 = .ok (.aload_n 0, 1) := by decide +kernel
theorem d_M_write_52 : decode c_M_write 52 = .ok (.aload 4, 2) := by decide +kernel
theorem d_M_write_54 : decode c_M_write 54 = .ok (.new 38, 3) := by decide +kernel
theorem d_M_write_57 : decode c_M_write 57 = .ok (.dup, 1) := by decide +kernel
theorem d_M_write_58 : decode c_M_write 58 = .ok (.aload_n 0, 1) := by decide +kernel
theorem d_M_write_59 : decode c_M_write 59 = .ok (.getfield 16, 3) := by decide +kernel
theorem d_M_write_62 : decode c_M_write 62 = .ok (.aload 4, 2) := by decide +kernel
theorem d_M_write_64 : decode c_M_write 64 = .ok (.invokevirtual 40, 3) := by decide +kernel
theorem d_M_write_67 : decode c_M_write 67 = .ok (.iload_n 1, 1) := by decide +kernel
theorem d_M_write_68 : decode c_M_write 68 = .ok (.iload_n 3, 1) := by decide +kernel
theorem d_M_write_69 : decode c_M_write 69 = .ok (.aload 5, 2) := by decide +kernel
theorem d_M_write_71 : decode c_M_write 71 = .ok (.invokespecial 44, 3) := by decide +kernel
theorem d_M_write_74 : decode c_M_write 74 = .ok (.invokevirtual 47, 3) := by decide +kernel
theorem d_M_write_77 : decode c_M_write 77 = .ok (.ireturn, 1) := by decide +kernel
theorem d_M_erase_0 : decode c_M_erase 0 = .ok (.aload_n 0, 1) := by decide +kernel
theorem d_M_erase_1 : decode c_M_erase 1 = .ok (.iload_n 1, 1) := by decide +kernel
theorem d_M_erase_2 : decode c_M_erase 2 = .ok (.invokevirtual 20, 3) := by decide +kernel
theorem d_M_erase_5 : decode c_M_erase 5 = .ok (.astore_n 3, 1) := by decide +kernel
theorem d_M_erase_6 : decode c_M_erase 6 = .ok (.aload_n 3, 1) := by decide +kernel
theorem d_M_erase_7 : decode c_M_erase 7 = .ok (.iload_n 2, 1) := by decide +kernel
theorem d_M_erase_8 : decode c_M_erase 8 = .ok (.invokevirtual 51, 3) := by decide +kernel
theorem d_M_erase_11 : decode c_M_erase 11 = .ok (.astore 4, 2) := by decide +kernel
theorem d_M_erase_13 : decode c_M_erase 13 = .ok (.aload_n 0, 1) := by decide +kernel
theorem d_M_erase_14 : decode c_M_erase 14 = .ok (.invokevirtual 31, 3) := by decide +kernel
theorem d_M_erase_17 : decode c_M_erase 17 = .ok (.aload_n 0, 1) := by decide +kernel
theorem d_M_erase_18 : decode c_M_erase 18 = .ok (.aload_n 3, 1) := by decide +kernel
theorem d_M_erase_19 : decode c_M_erase 19 = .ok (.new 55, 3) := by decide +kernel
theorem d_M_erase_22 : decode c_M_erase 22 = .ok (.dup, 1) := by decide +kernel
theorem d_M_erase_23 : decode c_M_erase 23 = .ok (.aload_n 0, 1) := by decide +kernel
theorem d_M_erase_24 : decode c_M_erase 24 = .ok (.getfield 16, 3) := by decide +kernel
theorem d_M_erase_27 : decode c_M_erase 27 = .ok (.aload_n 3, 1) := by decide +kernel
theorem d_M_erase_28 : decode c_M_erase 28 = .ok (.invokevirtual 40, 3) := by decide +kernel
theorem d_M_erase_31 : decode c_M_erase 31 = .ok (.iload_n 1, 1) := by decide +kernel
theorem d_M_erase_32 : decode c_M_erase 32 = .ok (.aload 4, 2) := by decide +kernel
theorem d_M_erase_34 : decode c_M_erase 34 = .ok (.invokespecial 57, 3) := by decide +kernel
theorem d_M_erase_37 : decode c_M_erase 37 = .ok (.invokevirtual 47, 3) := by decide +kernel
theorem d_M_erase_40 : decode c_M_erase 40 = .ok (.pop, 1) := by decide +kernel
theorem d_M_erase_41 : decode c_M_erase 41 = .ok (.aload 4, 2) := by decide +kernel
theorem d_M_erase_43 : decode c_M_erase 43 = .ok (.getfield 60, 3) := by decide +kernel
theorem d_M_erase_46 : decode c_M_erase 46 = .ok (.ireturn, 1) := by decide +kernel
theorem d_M_mark_0 : decode c_M_mark 0 = .ok (.aload_n 0, 1) := by decide +kernel
theorem d_M_mark_1 : decode c_M_mark 1 = .ok (.iload_n 1, 1) := by decide +kernel
theorem d_M_mark_2 : decode c_M_mark 2 = .ok (.invokevirtual 20, 3) := by decide +kernel
theorem d_M_mark_5 : decode c_M_mark 5 = .ok (.astore 5, 2) := by decide +kernel
theorem d_M_mark_7 : decode c_M_mark 7 = .ok (.iload 4, 2) := by decide +kernel
theorem d_M_mark_9 : decode c_M_mark 9 = .ok (.ifCond .lt 14, 3) := by decide +kernel
theorem d_M_mark_12 : decode c_M_mark 12 = .ok (.iload 4, 2) := by decide +kernel
theorem d_M_mark_14 : decode c_M_mark 14 = .ok (.bipush 8, 2) := by decide +kernel
theorem d_M_mark_16 : decode c_M_mark 16 = .ok (.if_icmp .ge 7, 3) := by decide +kernel
theorem d_M_mark_19 : decode c_M_mark 19 = .ok (.iconst 1, 1) := by decide +kernel
theorem d_M_mark_20 : decode c_M_mark 20 = .ok (.goto 4, 3) := by decide +kernel
theorem d_M_mark_23 : decode c_M_mark 23 = .ok (.iconst 0, 1) := by decide +kernel
theorem d_M_mark_24 : decode c_M_mark 24 = .ok (.invokestatic 64, 3) := by decide +kernel
theorem d_M_mark_27 : decode c_M_mark 27 = .ok (.iconst 0, 1) := by decide +kernel
theorem d_M_mark_28 : decode c_M_mark 28 = .ok (.iload_n 2, 1) := by decide +kernel
theorem d_M_mark_29 : decode c_M_mark 29 = .ok (.if_icmp .gt 21, 3) := by decide +kernel
theorem d_M_mark_32 : decode c_M_mark 32 = .ok (.iload_n 2, 1) := by decide +kernel
theorem d_M_mark_33 : decode c_M_mark 33 = .ok (.iload_n 3, 1) := by decide +kernel
theorem d_M_mark_34 : decode c_M_mark 34 = .ok (.if_icmp .ge 16, 3) := by decide +kernel
theorem d_M_mark_37 : decode c_M_mark 37 = .ok (.iload_n 3, 1) := by decide +kernel
theorem d_M_mark_38 : decode c_M_mark 38 = .ok (.aload 5, 2) := by decide +kernel
theorem d_M_mark_40 : decode c_M_mark 40 = .ok (.getfield 24, 3) := by decide +kernel
theorem d_M_mark_43 : decode c_M_mark 43 = .ok (.if_icmp .gt 7, 3) := by decide +kernel
theorem d_M_mark_46 : decode c_M_mark 46 = .ok (.iconst 1, 1) := by decide +kernel
theorem d_M_mark_47 : decode c_M_mark 47 = .ok (.goto 4, 3) := by decide +kernel
theorem d_M_mark_50 : decode c_M_mark 50 = .ok (.iconst 0, 1) := by decide +kernel
theorem d_M_mark_51 : decode c_M_mark 51 = .ok (.invokestatic 27, 3) := by decide +kernel
theorem d_M_mark_54 : decode c_M_mark 54 = .ok (.aload_n 0, 1) := by decide +kernel
theorem d_M_mark_55 : decode c_M_mark 55 = .ok (.invokevirtual 31, 3) := by decide +kernel
theorem d_M_mark_58 : decode c_M_mark 58 = .ok (.aload 5, 2) := by decide +kernel
theorem d_M_mark_60 : decode c_M_mark 60 = .ok (.getfield 34, 3) := by decide +kernel
theorem d_M_mark_63 : decode c_M_mark 63 = .ok (.iload_n 2, 1) := by decide +kernel
theorem d_M_mark_64 : decode c_M_mark 64 = .ok (.aaload, 1) := by decide +kernel
theorem d_M_mark_65 : decode c_M_mark 65 = .ok (.astore 6, 2) := by decide +kernel
theorem d_M_mark_67 : decode c_M_mark 67 = .ok (.iload 4, 2) := by decide +kernel
theorem d_M_mark_69 : decode c_M_mark 69 = .ok (.invokestatic 67, 3) := by decide +kernel
theorem d_M_mark_72 : decode c_M_mark 72 = .ok (.ifCond .eq 7, 3) := by decide +kernel
theorem d_M_mark_75 : decode c_M_mark 75 = .ok (.iload_n 3, 1) := by decide +kernel
theorem d_M_mark_76 : decode c_M_mark 76 = .ok (.goto 6, 3) := by decide +kernel
theorem d_M_mark_79 : decode c_M_mark 79 = .ok (.iload_n 3, 1) := by decide +kernel
theorem d_M_mark_80 : decode c_M_mark 80 = .ok (.iconst 1, 1) := by decide +kernel
theorem d_M_mark_81 : decode c_M_mark 81 = .ok (.isub, 1) := by decide +kernel
theorem d_M_mark_82 : decode c_M_mark 82 = .ok (.istore 7, 2) := by decide +kernel
theorem d_M_mark_84 : decode c_M_mark 84 = .ok (.iload 7, 2) := by decide +kernel
theorem d_M_mark_86 : decode c_M_mark 86 = .ok (.aload 5, 2) := by decide +kernel
theorem d_M_mark_88 : decode c_M_mark 88 = .ok (.getfield 24, 3) := by decide +kernel
theorem d_M_mark_91 : decode c_M_mark 91 = .ok (.if_icmp .ge 14, 3) := by decide +kernel
theorem d_M_mark_94 : decode c_M_mark 94 = .ok (.aload 5, 2) := by decide +kernel
theorem d_M_mark_96 : decode c_M_mark 96 = .ok (.getfield 34, 3) := by decide +kernel
theorem d_M_mark_99 : decode c_M_mark 99 = .ok (.iload 7, 2) := by decide +kernel
theorem d_M_mark_101 : decode c_M_mark 101 = .ok (.aaload, 1) := by decide +kernel
theorem d_M_mark_102 : decode c_M_mark 102 = .ok (.goto 4, 3) := by decide +kernel
theorem d_M_mark_105 : decode c_M_mark 105 = .ok (.aconst_null, 1) := by decide +kernel
theorem d_M_mark_106 : decode c_M_mark 106 = .ok (.astore 8, 2) := by decide +kernel
theorem d_M_mark_108 : decode c_M_mark 108 = .ok (.aload_n 0, 1) := by decide +kernel
theorem d_M_mark_109 : decode c_M_mark 109 = .ok (.aload 5, 2) := by decide +kernel
theorem d_M_mark_111 : decode c_M_mark 111 = .ok (.new 68, 3) := by decide +kernel
theorem d_M_mark_114 : decode c_M_mark 114 = .ok (.dup, 1) := by decide +kernel
theorem d_M_mark_115 : decode c_M_mark 115 = .ok (.aload_n 0, 1) := by decide +kernel
theorem d_M_mark_116 : decode c_M_mark 116 = .ok (.getfield 16, 3) := by decide +kernel
theorem d_M_mark_119 : decode c_M_mark 119 = .ok (.aload 5, 2) := by decide +kernel
theorem d_M_mark_121 : decode c_M_mark 121 = .ok (.invokevirtual 40, 3) := by decide +kernel
theorem d_M_mark_124 : decode c_M_mark 124 = .ok (.iload_n 1, 1) := by decide +kernel
theorem d_M_mark_125 : decode c_M_mark 125 = .ok (.iload 4, 2) := by decide +kernel
theorem d_M_mark_127 : decode c_M_mark 127 = .ok (.aload 6, 2) := by decide +kernel
theorem d_M_mark_129 : decode c_M_mark 129 = .ok (.aload 8, 2) := by decide +kernel
theorem d_M_mark_131 : decode c_M_mark 131 = .ok (.invokespecial 73, 3) := by decide +kernel
theorem d_M_mark_134 : decode c_M_mark 134 = .ok (.invokevirtual 47, 3) := by decide +kernel
theorem d_M_mark_137 : decode c_M_mark 137 = .ok (.ireturn, 1) := by decide +kernel
theorem d_M_tell_0 : decode c_M_tell 0 = .ok (.aload_n 0, 1) := by decide +kernel
theorem d_M_tell_1 : decode c_M_tell 1 = .ok (.iload_n 1, 1) := by decide +kernel
theorem d_M_tell_2 : decode c_M_tell 2 = .ok (.invokevirtual 20, 3) := by decide +kernel
theorem d_M_tell_5 : decode c_M_tell 5 = .ok (.astore 4, 2) := by decide +kernel
theorem d_M_tell_7 : decode c_M_tell 7 = .ok (.aload_n 0, 1) := by decide +kernel
theorem d_M_tell_8 : decode c_M_tell 8 = .ok (.iload_n 2, 1) := by decide +kernel
theorem d_M_tell_9 : decode c_M_tell 9 = .ok (.invokevirtual 20, 3) := by decide +kernel
theorem d_M_tell_12 : decode c_M_tell 12 = .ok (.astore 5, 2) := by decide +kernel
theorem d_M_tell_14 : decode c_M_tell 14 = .ok (.iload_n 3, 1) := by decide +kernel
theorem d_M_tell_15 : decode c_M_tell 15 = .ok (.ifCond .lt 7, 3) := by decide +kernel
theorem d_M_tell_18 : decode c_M_tell 18 = .ok (.iconst 1, 1) := by decide +kernel
theorem d_M_tell_19 : decode c_M_tell 19 = .ok (.goto 4, 3) := by decide +kernel
theorem d_M_tell_22 : decode c_M_tell 22 = .ok (.iconst 0, 1) := by decide +kernel
theorem d_M_tell_23 : decode c_M_tell 23 = .ok (.invokestatic 64, 3) := by decide +kernel
theorem d_M_tell_26 : decode c_M_tell 26 = .ok (.iconst 0, 1) := by decide +kernel
theorem d_M_tell_27 : decode c_M_tell 27 = .ok (.istore 6, 2) := by decide +kernel
theorem d_M_tell_29 : decode c_M_tell 29 = .ok (.iconst 0, 1) := by decide +kernel
theorem d_M_tell_30 : decode c_M_tell 30 = .ok (.istore 7, 2) := by decide +kernel
theorem d_M_tell_32 : decode c_M_tell 32 = .ok (.iload 7, 2) := by decide +kernel
theorem d_M_tell_34 : decode c_M_tell 34 = .ok (.aload 4, 2) := by decide +kernel
theorem d_M_tell_36 : decode c_M_tell 36 = .ok (.getfield 76, 3) := by decide +kernel
theorem d_M_tell_39 : decode c_M_tell 39 = .ok (.if_icmp .ge 49, 3) := by decide +kernel
theorem d_M_tell_42 : decode c_M_tell 42 = .ok (.iload 6, 2) := by decide +kernel
theorem d_M_tell_44 : decode c_M_tell 44 = .ok (.iload_n 3, 1) := by decide +kernel
theorem d_M_tell_45 : decode c_M_tell 45 = .ok (.if_icmp .ge 43, 3) := by decide +kernel
theorem d_M_tell_48 : decode c_M_tell 48 = .ok (.aload 4, 2) := by decide +kernel
theorem d_M_tell_50 : decode c_M_tell 50 = .ok (.getfield 79, 3) := by decide +kernel
theorem d_M_tell_53 : decode c_M_tell 53 = .ok (.iload 7, 2) := by decide +kernel
theorem d_M_tell_55 : decode c_M_tell 55 = .ok (.aaload, 1) := by decide +kernel
theorem d_M_tell_56 : decode c_M_tell 56 = .ok (.astore 8, 2) := by decide +kernel
theorem d_M_tell_58 : decode c_M_tell 58 = .ok (.aload 5, 2) := by decide +kernel
theorem d_M_tell_60 : decode c_M_tell 60 = .ok (.getfield 83, 3) := by decide +kernel
theorem d_M_tell_63 : decode c_M_tell 63 = .ok (.aload 8, 2) := by decide +kernel
theorem d_M_tell_65 : decode c_M_tell 65 = .ok (.getfield 87, 3) := by decide +kernel
theorem d_M_tell_68 : decode c_M_tell 68 = .ok (.baload, 1) := by decide +kernel
theorem d_M_tell_69 : decode c_M_tell 69 = .ok (.ifCond .ne 13, 3) := by decide +kernel
theorem d_M_tell_72 : decode c_M_tell 72 = .ok (.aload 5, 2) := by decide +kernel
theorem d_M_tell_74 : decode c_M_tell 74 = .ok (.aload 8, 2) := by decide +kernel
theorem d_M_tell_76 : decode c_M_tell 76 = .ok (.invokevirtual 92, 3) := by decide +kernel
theorem d_M_tell_79 : decode c_M_tell 79 = .ok (.iinc 6 1, 3) := by decide +kernel
theorem d_M_tell_82 : decode c_M_tell 82 = .ok (.iinc 7 1, 3) := by decide +kernel
theorem d_M_tell_85 : decode c_M_tell 85 = .ok (.goto (-53), 3) := by decide +kernel
theorem d_M_tell_88 : decode c_M_tell 88 = .ok (.iload 6, 2) := by decide +kernel
theorem d_M_tell_90 : decode c_M_tell 90 = .ok (.ireturn, 1) := by decide +kernel
theorem d_M_length_0 : decode c_M_length 0 = .ok (.aload_n 0, 1) := by decide +kernel
theorem d_M_length_1 : decode c_M_length 1 = .ok (.iload_n 1, 1) := by decide +kernel
theorem d_M_length_2 : decode c_M_length 2 = .ok (.invokevirtual 20, 3) := by decide +kernel
theorem d_M_length_5 : decode c_M_length 5 = .ok (.getfield 24, 3) := by decide +kernel
theorem d_M_length_8 : decode c_M_length 8 = .ok (.ireturn, 1) := by decide +kernel
theorem d_M_at_0 : decode c_M_at 0 = .ok (.aload_n 0, 1) := by decide +kernel
theorem d_M_at_1 : decode c_M_at 1 = .ok (.iload_n 1, 1) := by decide +kernel
theorem d_M_at_2 : decode c_M_at 2 = .ok (.invokevirtual 20, 3) := by decide +kernel
theorem d_M_at_5 : decode c_M_at 5 = .ok (.iload_n 2, 1) := by decide +kernel
theorem d_M_at_6 : decode c_M_at 6 = .ok (.invokevirtual 51, 3) := by decide +kernel
theorem d_M_at_9 : decode c_M_at 9 = .ok (.getfield 60, 3) := by decide +kernel
theorem d_M_at_12 : decode c_M_at 12 = .ok (.ireturn, 1) := by decide +kernel
theorem d_M_format_0 : decode c_M_format 0 = .ok (.aload_n 0, 1) := by decide +kernel
theorem d_M_format_1 : decode c_M_format 1 = .ok (.iload_n 1, 1) := by decide +kernel
theorem d_M_format_2 : decode c_M_format 2 = .ok (.invokevirtual 20, 3) := by decide +kernel
theorem d_M_format_5 : decode c_M_format 5 = .ok (.astore_n 3, 1) := by decide +kernel
theorem d_M_format_6 : decode c_M_format 6 = .ok (.aload_n 3, 1) := by decide +kernel
theorem d_M_format_7 : decode c_M_format 7 = .ok (.aload_n 3, 1) := by decide +kernel
theorem d_M_format_8 : decode c_M_format 8 = .ok (.iload_n 2, 1) := by decide +kernel
theorem d_M_format_9 : decode c_M_format 9 = .ok (.invokevirtual 51, 3) := by decide +kernel
theorem d_M_format_12 : decode c_M_format 12 = .ok (.invokevirtual 96, 3) := by decide +kernel
theorem d_M_format_15 : decode c_M_format 15 = .ok (.ireturn, 1) := by decide +kernel
theorem d_M_id_0 : decode c_M_id 0 = .ok (.aload_n 0, 1) := by decide +kernel
theorem d_M_id_1 : decode c_M_id 1 = .ok (.iload_n 1, 1) := by decide +kernel
theorem d_M_id_2 : decode c_M_id 2 = .ok (.invokevirtual 20, 3) := by decide +kernel
theorem d_M_id_5 : decode c_M_id 5 = .ok (.iload_n 2, 1) := by decide +kernel
theorem d_M_id_6 : decode c_M_id 6 = .ok (.invokevirtual 51, 3) := by decide +kernel
theorem d_M_id_9 : decode c_M_id 9 = .ok (.getfield 100, 3) := by decide +kernel
theorem d_M_id_12 : decode c_M_id 12 = .ok (.ireturn, 1) := by decide +kernel
theorem d_M_runs_0 : decode c_M_runs 0 = .ok (.aload_n 0, 1) := by decide +kernel
theorem d_M_runs_1 : decode c_M_runs 1 = .ok (.iload_n 1, 1) := by decide +kernel
theorem d_M_runs_2 : decode c_M_runs 2 = .ok (.invokevirtual 20, 3) := by decide +kernel
theorem d_M_runs_5 : decode c_M_runs 5 = .ok (.astore_n 2, 1) := by decide +kernel
theorem d_M_runs_6 : decode c_M_runs 6 = .ok (.iconst 0, 1) := by decide +kernel
theorem d_M_runs_7 : decode c_M_runs 7 = .ok (.istore_n 3, 1) := by decide +kernel
theorem d_M_runs_8 : decode c_M_runs 8 = .ok (.iconst 0, 1) := by decide +kernel
theorem d_M_runs_9 : decode c_M_runs 9 = .ok (.istore 4, 2) := by decide +kernel
theorem d_M_runs_11 : decode c_M_runs 11 = .ok (.iload 4, 2) := by decide +kernel
theorem d_M_runs_13 : decode c_M_runs 13 = .ok (.aload_n 2, 1) := by decide +kernel
theorem d_M_runs_14 : decode c_M_runs 14 = .ok (.getfield 24, 3) := by decide +kernel
theorem d_M_runs_17 : decode c_M_runs 17 = .ok (.if_icmp .ge 21, 3) := by decide +kernel
theorem d_M_runs_20 : decode c_M_runs 20 = .ok (.aload_n 2, 1) := by decide +kernel
theorem d_M_runs_21 : decode c_M_runs 21 = .ok (.iload 4, 2) := by decide +kernel
theorem d_M_runs_23 : decode c_M_runs 23 = .ok (.invokevirtual 103, 3) := by decide +kernel
theorem d_M_runs_26 : decode c_M_runs 26 = .ok (.ifCond .eq 6, 3) := by decide +kernel
theorem d_M_runs_29 : decode c_M_runs 29 = .ok (.iinc 3 1, 3) := by decide +kernel
theorem d_M_runs_32 : decode c_M_runs 32 = .ok (.iinc 4 1, 3) := by decide +kernel
theorem d_M_runs_35 : decode c_M_runs 35 = .ok (.goto (-24), 3) := by decide +kernel
theorem d_M_runs_38 : decode c_M_runs 38 = .ok (.iload_n 3, 1) := by decide +kernel
theorem d_M_runs_39 : decode c_M_runs 39 = .ok (.ireturn, 1) := by decide +kernel
theorem d_M_run_0 : decode c_M_run 0 = .ok (.aload_n 0, 1) := by decide +kernel
theorem d_M_run_1 : decode c_M_run 1 = .ok (.iload_n 1, 1) := by decide +kernel
theorem d_M_run_2 : decode c_M_run 2 = .ok (.invokevirtual 20, 3) := by decide +kernel
theorem d_M_run_5 : decode c_M_run 5 = .ok (.astore 4, 2) := by decide +kernel
theorem d_M_run_7 : decode c_M_run 7 = .ok (.iload_n 3, 1) := by decide +kernel
theorem d_M_run_8 : decode c_M_run 8 = .ok (.ifCond .lt 12, 3) := by decide +kernel
theorem d_M_run_11 : decode c_M_run 11 = .ok (.iload_n 3, 1) := by decide +kernel
theorem d_M_run_12 : decode c_M_run 12 = .ok (.iconst 2, 1) := by decide +kernel
theorem d_M_run_13 : decode c_M_run 13 = .ok (.if_icmp .gt 7, 3) := by decide +kernel
theorem d_M_run_16 : decode c_M_run 16 = .ok (.iconst 1, 1) := by decide +kernel
theorem d_M_run_17 : decode c_M_run 17 = .ok (.goto 4, 3) := by decide +kernel
theorem d_M_run_20 : decode c_M_run 20 = .ok (.iconst 0, 1) := by decide +kernel
theorem d_M_run_21 : decode c_M_run 21 = .ok (.invokestatic 64, 3) := by decide +kernel
theorem d_M_run_24 : decode c_M_run 24 = .ok (.aload 4, 2) := by decide +kernel
theorem d_M_run_26 : decode c_M_run 26 = .ok (.iload_n 2, 1) := by decide +kernel
theorem d_M_run_27 : decode c_M_run 27 = .ok (.invokevirtual 106, 3) := by decide +kernel
theorem d_M_run_30 : decode c_M_run 30 = .ok (.istore 5, 2) := by decide +kernel
theorem d_M_run_32 : decode c_M_run 32 = .ok (.iload 5, 2) := by decide +kernel
theorem d_M_run_34 : decode c_M_run 34 = .ok (.aload 4, 2) := by decide +kernel
theorem d_M_run_36 : decode c_M_run 36 = .ok (.getfield 24, 3) := by decide +kernel
theorem d_M_run_39 : decode c_M_run 39 = .ok (.if_icmp .ge 7, 3) := by decide +kernel
theorem d_M_run_42 : decode c_M_run 42 = .ok (.iconst 1, 1) := by decide +kernel
theorem d_M_run_43 : decode c_M_run 43 = .ok (.goto 4, 3) := by decide +kernel
theorem d_M_run_46 : decode c_M_run 46 = .ok (.iconst 0, 1) := by decide +kernel
theorem d_M_run_47 : decode c_M_run 47 = .ok (.invokestatic 27, 3) := by decide +kernel
theorem d_M_run_50 : decode c_M_run 50 = .ok (.iload_n 3, 1) := by decide +kernel
theorem d_M_run_51 : decode c_M_run 51 = .ok (.lookupswitch 40 #[(0, 25), (1, 28)], 25) := by decide +kernel
theorem d_M_run_76 : decode c_M_run 76 = .ok (.iload 5, 2) := by decide +kernel
theorem d_M_run_78 : decode c_M_run 78 = .ok (.ireturn, 1) := by decide +kernel
theorem d_M_run_79 : decode c_M_run 79 = .ok (.aload 4, 2) := by decide +kernel
theorem d_M_run_81 : decode c_M_run 81 = .ok (.iload_n 2, 1) := by decide +kernel
theorem d_M_run_82 : decode c_M_run 82 = .ok (.iconst 1, 1) := by decide +kernel
theorem d_M_run_83 : decode c_M_run 83 = .ok (.iadd, 1) := by decide +kernel
theorem d_M_run_84 : decode c_M_run 84 = .ok (.invokevirtual 106, 3) := by decide +kernel
theorem d_M_run_87 : decode c_M_run 87 = .ok (.iload 5, 2) := by decide +kernel
theorem d_M_run_89 : decode c_M_run 89 = .ok (.isub, 1) := by decide +kernel
theorem d_M_run_90 : decode c_M_run 90 = .ok (.ireturn, 1) := by decide +kernel
theorem d_M_run_91 : decode c_M_run 91 = .ok (.aload 4, 2) := by decide +kernel
theorem d_M_run_93 : decode c_M_run 93 = .ok (.aload 4, 2) := by decide +kernel
theorem d_M_run_95 : decode c_M_run 95 = .ok (.getfield 34, 3) := by decide +kernel
theorem d_M_run_98 : decode c_M_run 98 = .ok (.iload 5, 2) := by decide +kernel
theorem d_M_run_100 : decode c_M_run 100 = .ok (.aaload, 1) := by decide +kernel
theorem d_M_run_101 : decode c_M_run 101 = .ok (.invokevirtual 96, 3) := by decide +kernel
theorem d_M_run_104 : decode c_M_run 104 = .ok (.ireturn, 1) := by decide +kernel
theorem d_M_count_0 : decode c_M_count 0 = .ok (.aload_n 0, 1) := by decide +kernel
theorem d_M_count_1 : decode c_M_count 1 = .ok (.iload_n 1, 1) := by decide +kernel
theorem d_M_count_2 : decode c_M_count 2 = .ok (.invokevirtual 20, 3) := by decide +kernel
theorem d_M_count_5 : decode c_M_count 5 = .ok (.astore_n 3, 1) := by decide +kernel
theorem d_M_count_6 : decode c_M_count 6 = .ok (.iload_n 2, 1) := by decide +kernel
theorem d_M_count_7 : decode c_M_count 7 = .ok (.ifCond .lt 12, 3) := by decide +kernel
theorem d_M_count_10 : decode c_M_count 10 = .ok (.iload_n 2, 1) := by decide +kernel
theorem d_M_count_11 : decode c_M_count 11 = .ok (.iconst 3, 1) := by decide +kernel
theorem d_M_count_12 : decode c_M_count 12 = .ok (.if_icmp .gt 7, 3) := by decide +kernel
theorem d_M_count_15 : decode c_M_count 15 = .ok (.iconst 1, 1) := by decide +kernel
theorem d_M_count_16 : decode c_M_count 16 = .ok (.goto 4, 3) := by decide +kernel
theorem d_M_count_19 : decode c_M_count 19 = .ok (.iconst 0, 1) := by decide +kernel
theorem d_M_count_20 : decode c_M_count 20 = .ok (.invokestatic 64, 3) := by decide +kernel
theorem d_M_count_23 : decode c_M_count 23 = .ok (.iload_n 2, 1) := by decide +kernel
theorem d_M_count_24 : decode c_M_count 24 = .ok (.tableswitch 43 0 2 #[28, 33, 38], 28) := by decide +kernel
theorem d_M_count_52 : decode c_M_count 52 = .ok (.aload_n 3, 1) := by decide +kernel
theorem d_M_count_53 : decode c_M_count 53 = .ok (.getfield 76, 3) := by decide +kernel
theorem d_M_count_56 : decode c_M_count 56 = .ok (.ireturn, 1) := by decide +kernel
theorem d_M_count_57 : decode c_M_count 57 = .ok (.aload_n 3, 1) := by decide +kernel
theorem d_M_count_58 : decode c_M_count 58 = .ok (.getfield 110, 3) := by decide +kernel
theorem d_M_count_61 : decode c_M_count 61 = .ok (.ireturn, 1) := by decide +kernel
theorem d_M_count_62 : decode c_M_count 62 = .ok (.aload_n 3, 1) := by decide +kernel
theorem d_M_count_63 : decode c_M_count 63 = .ok (.getfield 113, 3) := by decide +kernel
theorem d_M_count_66 : decode c_M_count 66 = .ok (.ireturn, 1) := by decide +kernel
theorem d_M_count_67 : decode c_M_count 67 = .ok (.aload_n 3, 1) := by decide +kernel
theorem d_M_count_68 : decode c_M_count 68 = .ok (.getfield 116, 3) := by decide +kernel
theorem d_M_count_71 : decode c_M_count 71 = .ok (.ireturn, 1) := by decide +kernel
theorem d_M_alike_0 : decode c_M_alike 0 = .ok (.aload_n 0, 1) := by decide +kernel
theorem d_M_alike_1 : decode c_M_alike 1 = .ok (.iload_n 1, 1) := by decide +kernel
theorem d_M_alike_2 : decode c_M_alike 2 = .ok (.invokevirtual 20, 3) := by decide +kernel
theorem d_M_alike_5 : decode c_M_alike 5 = .ok (.astore_n 3, 1) := by decide +kernel
theorem d_M_alike_6 : decode c_M_alike 6 = .ok (.aload_n 0, 1) := by decide +kernel
theorem d_M_alike_7 : decode c_M_alike 7 = .ok (.iload_n 2, 1) := by decide +kernel
theorem d_M_alike_8 : decode c_M_alike 8 = .ok (.invokevirtual 20, 3) := by decide +kernel
theorem d_M_alike_11 : decode c_M_alike 11 = .ok (.astore 4, 2) := by decide +kernel
theorem d_M_alike_13 : decode c_M_alike 13 = .ok (.aload_n 3, 1) := by decide +kernel
theorem d_M_alike_14 : decode c_M_alike 14 = .ok (.getfield 76, 3) := by decide +kernel
theorem d_M_alike_17 : decode c_M_alike 17 = .ok (.aload 4, 2) := by decide +kernel
theorem d_M_alike_19 : decode c_M_alike 19 = .ok (.getfield 76, 3) := by decide +kernel
theorem d_M_alike_22 : decode c_M_alike 22 = .ok (.if_icmp .ne 16, 3) := by decide +kernel
theorem d_M_alike_25 : decode c_M_alike 25 = .ok (.aload_n 3, 1) := by decide +kernel
theorem d_M_alike_26 : decode c_M_alike 26 = .ok (.aload 4, 2) := by decide +kernel
theorem d_M_alike_28 : decode c_M_alike 28 = .ok (.invokevirtual 119, 3) := by decide +kernel
theorem d_M_alike_31 : decode c_M_alike 31 = .ok (.ifCond .eq 7, 3) := by decide +kernel
theorem d_M_alike_34 : decode c_M_alike 34 = .ok (.iconst 1, 1) := by decide +kernel
theorem d_M_alike_35 : decode c_M_alike 35 = .ok (.goto 4, 3) := by decide +kernel
theorem d_M_alike_38 : decode c_M_alike 38 = .ok (.iconst 0, 1) := by decide +kernel
theorem d_M_alike_39 : decode c_M_alike 39 = .ok (.ireturn, 1) := by decide +kernel
theorem d_M_pageNumbered_0 : decode c_M_pageNumbered 0 = .ok (.iload_n 1, 1) := by decide +kernel
theorem d_M_pageNumbered_1 : decode c_M_pageNumbered 1 = .ok (.ifCond .lt 12, 3) := by decide +kernel
theorem d_M_pageNumbered_4 : decode c_M_pageNumbered 4 = .ok (.iload_n 1, 1) := by decide +kernel
theorem d_M_pageNumbered_5 : decode c_M_pageNumbered 5 = .ok (.iconst 3, 1) := by decide +kernel
theorem d_M_pageNumbered_6 : decode c_M_pageNumbered 6 = .ok (.if_icmp .ge 7, 3) := by decide +kernel
theorem d_M_pageNumbered_9 : decode c_M_pageNumbered 9 = .ok (.iconst 1, 1) := by decide +kernel
theorem d_M_pageNumbered_10 : decode c_M_pageNumbered 10 = .ok (.goto 4, 3) := by decide +kernel
theorem d_M_pageNumbered_13 : decode c_M_pageNumbered 13 = .ok (.iconst 0, 1) := by decide +kernel
theorem d_M_pageNumbered_14 : decode c_M_pageNumbered 14 = .ok (.invokestatic 64, 3) := by decide +kernel
theorem d_M_pageNumbered_17 : decode c_M_pageNumbered 17 = .ok (.aload_n 0, 1) := by decide +kernel
theorem d_M_pageNumbered_18 : decode c_M_pageNumbered 18 = .ok (.getfield 11, 3) := by decide +kernel
theorem d_M_pageNumbered_21 : decode c_M_pageNumbered 21 = .ok (.iload_n 1, 1) := by decide +kernel
theorem d_M_pageNumbered_22 : decode c_M_pageNumbered 22 = .ok (.aaload, 1) := by decide +kernel
theorem d_M_pageNumbered_23 : decode c_M_pageNumbered 23 = .ok (.areturn, 1) := by decide +kernel
theorem d_M_make_0 : decode c_M_make 0 = .ok (.aload_n 0, 1) := by decide +kernel
theorem d_M_make_1 : decode c_M_make 1 = .ok (.dup, 1) := by decide +kernel
theorem d_M_make_2 : decode c_M_make 2 = .ok (.getfield 16, 3) := by decide +kernel
theorem d_M_make_5 : decode c_M_make 5 = .ok (.iconst 1, 1) := by decide +kernel
theorem d_M_make_6 : decode c_M_make 6 = .ok (.iadd, 1) := by decide +kernel
theorem d_M_make_7 : decode c_M_make 7 = .ok (.putfield 16, 3) := by decide +kernel
theorem d_M_make_10 : decode c_M_make 10 = .ok (.aload_n 1, 1) := by decide +kernel
theorem d_M_make_11 : decode c_M_make 11 = .ok (.aload_n 2, 1) := by decide +kernel
theorem d_M_make_12 : decode c_M_make 12 = .ok (.invokevirtual 92, 3) := by decide +kernel
theorem d_M_make_15 : decode c_M_make 15 = .ok (.aload_n 2, 1) := by decide +kernel
theorem d_M_make_16 : decode c_M_make 16 = .ok (.getfield 123, 3) := by decide +kernel
theorem d_M_make_19 : decode c_M_make 19 = .ok (.ireturn, 1) := by decide +kernel
theorem d_M_refuseWhenAllAreMade_0 : decode c_M_refuseWhenAllAreMade 0 = .ok (.aload_n 0, 1) := by decide +kernel
theorem d_M_refuseWhenAllAreMade_1 : decode c_M_refuseWhenAllAreMade 1 = .ok (.getfield 16, 3) := by decide +kernel
theorem d_M_refuseWhenAllAreMade_4 : decode c_M_refuseWhenAllAreMade 4 = .ok (.bipush 90, 2) := by decide +kernel
theorem d_M_refuseWhenAllAreMade_6 : decode c_M_refuseWhenAllAreMade 6 = .ok (.if_icmp .lt 11, 3) := by decide +kernel
theorem d_M_refuseWhenAllAreMade_9 : decode c_M_refuseWhenAllAreMade 9 = .ok (.new 126, 3) := by decide +kernel
theorem d_M_refuseWhenAllAreMade_12 : decode c_M_refuseWhenAllAreMade 12 = .ok (.dup, 1) := by decide +kernel
theorem d_M_refuseWhenAllAreMade_13 : decode c_M_refuseWhenAllAreMade 13 = .ok (.invokespecial 128, 3) := by decide +kernel
theorem d_M_refuseWhenAllAreMade_16 : decode c_M_refuseWhenAllAreMade 16 = .ok (.athrow, 1) := by decide +kernel
theorem d_M_refuseWhenAllAreMade_17 : decode c_M_refuseWhenAllAreMade 17 = .ok (.return_, 1) := by decide +kernel
theorem d_M_refuseArgumentUnless_0 : decode c_M_refuseArgumentUnless 0 = .ok (.iload_n 0, 1) := by decide +kernel
theorem d_M_refuseArgumentUnless_1 : decode c_M_refuseArgumentUnless 1 = .ok (.ifCond .ne 11, 3) := by decide +kernel
theorem d_M_refuseArgumentUnless_4 : decode c_M_refuseArgumentUnless 4 = .ok (.new 129, 3) := by decide +kernel
theorem d_M_refuseArgumentUnless_7 : decode c_M_refuseArgumentUnless 7 = .ok (.dup, 1) := by decide +kernel
theorem d_M_refuseArgumentUnless_8 : decode c_M_refuseArgumentUnless 8 = .ok (.invokespecial 131, 3) := by decide +kernel
theorem d_M_refuseArgumentUnless_11 : decode c_M_refuseArgumentUnless 11 = .ok (.athrow, 1) := by decide +kernel
theorem d_M_refuseArgumentUnless_12 : decode c_M_refuseArgumentUnless 12 = .ok (.return_, 1) := by decide +kernel
theorem d_M_refuseIndexUnless_0 : decode c_M_refuseIndexUnless 0 = .ok (.iload_n 0, 1) := by decide +kernel
theorem d_M_refuseIndexUnless_1 : decode c_M_refuseIndexUnless 1 = .ok (.ifCond .ne 11, 3) := by decide +kernel
theorem d_M_refuseIndexUnless_4 : decode c_M_refuseIndexUnless 4 = .ok (.new 132, 3) := by decide +kernel
theorem d_M_refuseIndexUnless_7 : decode c_M_refuseIndexUnless 7 = .ok (.dup, 1) := by decide +kernel
theorem d_M_refuseIndexUnless_8 : decode c_M_refuseIndexUnless 8 = .ok (.invokespecial 134, 3) := by decide +kernel
theorem d_M_refuseIndexUnless_11 : decode c_M_refuseIndexUnless 11 = .ok (.athrow, 1) := by decide +kernel
theorem d_M_refuseIndexUnless_12 : decode c_M_refuseIndexUnless 12 = .ok (.return_, 1) := by decide +kernel
theorem d_E_init_0 : decode c_E_init 0 = .ok (.aload_n 0, 1) := by decide +kernel
theorem d_E_init_1 : decode c_E_init 1 = .ok (.iload_n 1, 1) := by decide +kernel
theorem d_E_init_2 : decode c_E_init 2 = .ok (.iload_n 2, 1) := by decide +kernel
theorem d_E_init_3 : decode c_E_init 3 = .ok (.iload_n 3, 1) := by decide +kernel
theorem d_E_init_4 : decode c_E_init 4 = .ok (.invokespecial 1, 3) := by decide +kernel
theorem d_E_init_7 : decode c_E_init 7 = .ok (.aload_n 0, 1) := by decide +kernel
theorem d_E_init_8 : decode c_E_init 8 = .ok (.aload 4, 2) := by decide +kernel
theorem d_E_init_10 : decode c_E_init 10 = .ok (.putfield 7, 3) := by decide +kernel
theorem d_E_init_13 : decode c_E_init 13 = .ok (.return_, 1) := by decide +kernel
theorem d_E_reach_0 : decode c_E_reach 0 = .ok (.aload_n 1, 1) := by decide +kernel
theorem d_E_reach_1 : decode c_E_reach 1 = .ok (.getfield 13, 3) := by decide +kernel
theorem d_E_reach_4 : decode c_E_reach 4 = .ok (.aload_n 0, 1) := by decide +kernel
theorem d_E_reach_5 : decode c_E_reach 5 = .ok (.getfield 7, 3) := by decide +kernel
theorem d_E_reach_8 : decode c_E_reach 8 = .ok (.getfield 19, 3) := by decide +kernel
theorem d_E_reach_11 : decode c_E_reach 11 = .ok (.iconst 1, 1) := by decide +kernel
theorem d_E_reach_12 : decode c_E_reach 12 = .ok (.bastore, 1) := by decide +kernel
theorem d_E_reach_13 : decode c_E_reach 13 = .ok (.return_, 1) := by decide +kernel
theorem d_K_init_0 : decode c_K_init 0 = .ok (.aload_n 0, 1) := by decide +kernel
theorem d_K_init_1 : decode c_K_init 1 = .ok (.iload_n 1, 1) := by decide +kernel
theorem d_K_init_2 : decode c_K_init 2 = .ok (.iload_n 2, 1) := by decide +kernel
theorem d_K_init_3 : decode c_K_init 3 = .ok (.iload_n 3, 1) := by decide +kernel
theorem d_K_init_4 : decode c_K_init 4 = .ok (.invokespecial 1, 3) := by decide +kernel
theorem d_K_init_7 : decode c_K_init 7 = .ok (.aload_n 0, 1) := by decide +kernel
theorem d_K_init_8 : decode c_K_init 8 = .ok (.iload 4, 2) := by decide +kernel
theorem d_K_init_10 : decode c_K_init 10 = .ok (.iconst 2, 1) := by decide +kernel
theorem d_K_init_11 : decode c_K_init 11 = .ok (.irem, 1) := by decide +kernel
theorem d_K_init_12 : decode c_K_init 12 = .ok (.iconst 1, 1) := by decide +kernel
theorem d_K_init_13 : decode c_K_init 13 = .ok (.if_icmp .ne 7, 3) := by decide +kernel
theorem d_K_init_16 : decode c_K_init 16 = .ok (.iconst 1, 1) := by decide +kernel
theorem d_K_init_17 : decode c_K_init 17 = .ok (.goto 4, 3) := by decide +kernel
theorem d_K_init_20 : decode c_K_init 20 = .ok (.iconst 0, 1) := by decide +kernel
theorem d_K_init_21 : decode c_K_init 21 = .ok (.putfield 7, 3) := by decide +kernel
theorem d_K_init_24 : decode c_K_init 24 = .ok (.aload_n 0, 1) := by decide +kernel
theorem d_K_init_25 : decode c_K_init 25 = .ok (.iconst 1, 1) := by decide +kernel
theorem d_K_init_26 : decode c_K_init 26 = .ok (.iload 4, 2) := by decide +kernel
theorem d_K_init_28 : decode c_K_init 28 = .ok (.iconst 2, 1) := by decide +kernel
theorem d_K_init_29 : decode c_K_init 29 = .ok (.idiv, 1) := by decide +kernel
theorem d_K_init_30 : decode c_K_init 30 = .ok (.ishl, 1) := by decide +kernel
theorem d_K_init_31 : decode c_K_init 31 = .ok (.putfield 13, 3) := by decide +kernel
theorem d_K_init_34 : decode c_K_init 34 = .ok (.aload_n 0, 1) := by decide +kernel
theorem d_K_init_35 : decode c_K_init 35 = .ok (.iload 4, 2) := by decide +kernel
theorem d_K_init_37 : decode c_K_init 37 = .ok (.invokestatic 17, 3) := by decide +kernel
theorem d_K_init_40 : decode c_K_init 40 = .ok (.ifCond .ne 7, 3) := by decide +kernel
theorem d_K_init_43 : decode c_K_init 43 = .ok (.iconst 1, 1) := by decide +kernel
theorem d_K_init_44 : decode c_K_init 44 = .ok (.goto 4, 3) := by decide +kernel
theorem d_K_init_47 : decode c_K_init 47 = .ok (.iconst 0, 1) := by decide +kernel
theorem d_K_init_48 : decode c_K_init 48 = .ok (.putfield 21, 3) := by decide +kernel
theorem d_K_init_51 : decode c_K_init 51 = .ok (.aload_n 0, 1) := by decide +kernel
theorem d_K_init_52 : decode c_K_init 52 = .ok (.aload 5, 2) := by decide +kernel
theorem d_K_init_54 : decode c_K_init 54 = .ok (.putfield 24, 3) := by decide +kernel
theorem d_K_init_57 : decode c_K_init 57 = .ok (.aload_n 0, 1) := by decide +kernel
theorem d_K_init_58 : decode c_K_init 58 = .ok (.aload 6, 2) := by decide +kernel
theorem d_K_init_60 : decode c_K_init 60 = .ok (.putfield 28, 3) := by decide +kernel
theorem d_K_init_63 : decode c_K_init 63 = .ok (.return_, 1) := by decide +kernel
theorem d_K_endsBeforeItsEndLetter_0 : decode c_K_endsBeforeItsEndLetter 0 = .ok (.iload_n 0, 1) := by decide +kernel
theorem d_K_endsBeforeItsEndLetter_1 : decode c_K_endsBeforeItsEndLetter 1 = .ok (.iconst 2, 1) := by decide +kernel
theorem d_K_endsBeforeItsEndLetter_2 : decode c_K_endsBeforeItsEndLetter 2 = .ok (.idiv, 1) := by decide +kernel
theorem d_K_endsBeforeItsEndLetter_3 : decode c_K_endsBeforeItsEndLetter 3 = .ok (.iconst 2, 1) := by decide +kernel
theorem d_K_endsBeforeItsEndLetter_4 : decode c_K_endsBeforeItsEndLetter 4 = .ok (.if_icmp .ge 7, 3) := by decide +kernel
theorem d_K_endsBeforeItsEndLetter_7 : decode c_K_endsBeforeItsEndLetter 7 = .ok (.iconst 1, 1) := by decide +kernel
theorem d_K_endsBeforeItsEndLetter_8 : decode c_K_endsBeforeItsEndLetter 8 = .ok (.goto 4, 3) := by decide +kernel
theorem d_K_endsBeforeItsEndLetter_11 : decode c_K_endsBeforeItsEndLetter 11 = .ok (.iconst 0, 1) := by decide +kernel
theorem d_K_endsBeforeItsEndLetter_12 : decode c_K_endsBeforeItsEndLetter 12 = .ok (.ireturn, 1) := by decide +kernel
theorem d_K_reach_0 : decode c_K_reach 0 = .ok (.aload_n 1, 1) := by decide +kernel
theorem d_K_reach_1 : decode c_K_reach 1 = .ok (.aload_n 0, 1) := by decide +kernel
theorem d_K_reach_2 : decode c_K_reach 2 = .ok (.invokevirtual 31, 3) := by decide +kernel
theorem d_K_reach_5 : decode c_K_reach 5 = .ok (.return_, 1) := by decide +kernel
theorem d_K_covers_0 : decode c_K_covers 0 = .ok (.iload_n 1, 1) := by decide +kernel
theorem d_K_covers_1 : decode c_K_covers 1 = .ok (.aload_n 2, 1) := by decide +kernel
theorem d_K_covers_2 : decode c_K_covers 2 = .ok (.aload_n 0, 1) := by decide +kernel
theorem d_K_covers_3 : decode c_K_covers 3 = .ok (.getfield 24, 3) := by decide +kernel
theorem d_K_covers_6 : decode c_K_covers 6 = .ok (.getfield 37, 3) := by decide +kernel
theorem d_K_covers_9 : decode c_K_covers 9 = .ok (.iaload, 1) := by decide +kernel
theorem d_K_covers_10 : decode c_K_covers 10 = .ok (.if_icmp .ge 5, 3) := by decide +kernel
theorem d_K_covers_13 : decode c_K_covers 13 = .ok (.iconst 0, 1) := by decide +kernel
theorem d_K_covers_14 : decode c_K_covers 14 = .ok (.ireturn, 1) := by decide +kernel
theorem d_K_covers_15 : decode c_K_covers 15 = .ok (.aload_n 0, 1) := by decide +kernel
theorem d_K_covers_16 : decode c_K_covers 16 = .ok (.getfield 28, 3) := by decide +kernel
theorem d_K_covers_19 : decode c_K_covers 19 = .ok (.ifnonnull 5, 3) := by decide +kernel
theorem d_K_covers_22 : decode c_K_covers 22 = .ok (.iconst 1, 1) := by decide +kernel
theorem d_K_covers_23 : decode c_K_covers 23 = .ok (.ireturn, 1) := by decide +kernel
theorem d_K_covers_24 : decode c_K_covers 24 = .ok (.aload_n 2, 1) := by decide +kernel
theorem d_K_covers_25 : decode c_K_covers 25 = .ok (.aload_n 0, 1) := by decide +kernel
theorem d_K_covers_26 : decode c_K_covers 26 = .ok (.getfield 28, 3) := by decide +kernel
theorem d_K_covers_29 : decode c_K_covers 29 = .ok (.getfield 37, 3) := by decide +kernel
theorem d_K_covers_32 : decode c_K_covers 32 = .ok (.iaload, 1) := by decide +kernel
theorem d_K_covers_33 : decode c_K_covers 33 = .ok (.istore_n 3, 1) := by decide +kernel
theorem d_K_covers_34 : decode c_K_covers 34 = .ok (.iload_n 1, 1) := by decide +kernel
theorem d_K_covers_35 : decode c_K_covers 35 = .ok (.iload_n 3, 1) := by decide +kernel
theorem d_K_covers_36 : decode c_K_covers 36 = .ok (.if_icmp .lt 15, 3) := by decide +kernel
theorem d_K_covers_39 : decode c_K_covers 39 = .ok (.iload_n 1, 1) := by decide +kernel
theorem d_K_covers_40 : decode c_K_covers 40 = .ok (.iload_n 3, 1) := by decide +kernel
theorem d_K_covers_41 : decode c_K_covers 41 = .ok (.if_icmp .ne 14, 3) := by decide +kernel
theorem d_K_covers_44 : decode c_K_covers 44 = .ok (.aload_n 0, 1) := by decide +kernel
theorem d_K_covers_45 : decode c_K_covers 45 = .ok (.getfield 21, 3) := by decide +kernel
theorem d_K_covers_48 : decode c_K_covers 48 = .ok (.ifCond .eq 7, 3) := by decide +kernel
theorem d_K_covers_51 : decode c_K_covers 51 = .ok (.iconst 1, 1) := by decide +kernel
theorem d_K_covers_52 : decode c_K_covers 52 = .ok (.goto 4, 3) := by decide +kernel
theorem d_K_covers_55 : decode c_K_covers 55 = .ok (.iconst 0, 1) := by decide +kernel
theorem d_K_covers_56 : decode c_K_covers 56 = .ok (.ireturn, 1) := by decide +kernel
theorem d_O_init_0 : decode c_O_init 0 = .ok (.aload_n 0, 1) := by decide +kernel
theorem d_O_init_1 : decode c_O_init 1 = .ok (.invokespecial 1, 3) := by decide +kernel
theorem d_O_init_4 : decode c_O_init 4 = .ok (.aload_n 0, 1) := by decide +kernel
theorem d_O_init_5 : decode c_O_init 5 = .ok (.iload_n 1, 1) := by decide +kernel
theorem d_O_init_6 : decode c_O_init 6 = .ok (.putfield 7, 3) := by decide +kernel
theorem d_O_init_9 : decode c_O_init 9 = .ok (.aload_n 0, 1) := by decide +kernel
theorem d_O_init_10 : decode c_O_init 10 = .ok (.iload_n 2, 1) := by decide +kernel
theorem d_O_init_11 : decode c_O_init 11 = .ok (.putfield 13, 3) := by decide +kernel
theorem d_O_init_14 : decode c_O_init 14 = .ok (.aload_n 0, 1) := by decide +kernel
theorem d_O_init_15 : decode c_O_init 15 = .ok (.iconst 4, 1) := by decide +kernel
theorem d_O_init_16 : decode c_O_init 16 = .ok (.iload_n 2, 1) := by decide +kernel
theorem d_O_init_17 : decode c_O_init 17 = .ok (.imul, 1) := by decide +kernel
theorem d_O_init_18 : decode c_O_init 18 = .ok (.iload_n 3, 1) := by decide +kernel
theorem d_O_init_19 : decode c_O_init 19 = .ok (.iadd, 1) := by decide +kernel
theorem d_O_init_20 : decode c_O_init 20 = .ok (.putfield 16, 3) := by decide +kernel
theorem d_O_init_23 : decode c_O_init 23 = .ok (.return_, 1) := by decide +kernel
theorem d_W_init_0 : decode c_W_init 0 = .ok (.aload_n 0, 1) := by decide +kernel
theorem d_W_init_1 : decode c_W_init 1 = .ok (.iload_n 1, 1) := by decide +kernel
theorem d_W_init_2 : decode c_W_init 2 = .ok (.iload_n 2, 1) := by decide +kernel
theorem d_W_init_3 : decode c_W_init 3 = .ok (.iload_n 3, 1) := by decide +kernel
theorem d_W_init_4 : decode c_W_init 4 = .ok (.invokespecial 1, 3) := by decide +kernel
theorem d_W_init_7 : decode c_W_init 7 = .ok (.aload_n 0, 1) := by decide +kernel
theorem d_W_init_8 : decode c_W_init 8 = .ok (.iload 4, 2) := by decide +kernel
theorem d_W_init_10 : decode c_W_init 10 = .ok (.putfield 7, 3) := by decide +kernel
theorem d_W_init_13 : decode c_W_init 13 = .ok (.aload_n 0, 1) := by decide +kernel
theorem d_W_init_14 : decode c_W_init 14 = .ok (.aload 5, 2) := by decide +kernel
theorem d_W_init_16 : decode c_W_init 16 = .ok (.putfield 13, 3) := by decide +kernel
theorem d_W_init_19 : decode c_W_init 19 = .ok (.return_, 1) := by decide +kernel
theorem d_W_reach_0 : decode c_W_reach 0 = .ok (.aload_n 1, 1) := by decide +kernel
theorem d_W_reach_1 : decode c_W_reach 1 = .ok (.aload_n 0, 1) := by decide +kernel
theorem d_W_reach_2 : decode c_W_reach 2 = .ok (.invokevirtual 17, 3) := by decide +kernel
theorem d_W_reach_5 : decode c_W_reach 5 = .ok (.return_, 1) := by decide +kernel
end
section
/-! Decode rows by program. -/
theorem d_P_init_0 : decode c_P_init 0 = .ok (.aload_n 0, 1) := by decide +kernel
theorem d_P_init_1 : decode c_P_init 1 = .ok (.invokespecial 3, 3) := by decide +kernel
theorem d_P_init_4 : decode c_P_init 4 = .ok (.aload_n 0, 1) := by decide +kernel
theorem d_P_init_5 : decode c_P_init 5 = .ok (.bipush 90, 2) := by decide +kernel
theorem d_P_init_7 : decode c_P_init 7 = .ok (.anewarray 9, 3) := by decide +kernel
theorem d_P_init_10 : decode c_P_init 10 = .ok (.putfield 11, 3) := by decide +kernel
theorem d_P_init_13 : decode c_P_init 13 = .ok (.aload_n 0, 1) := by decide +kernel
theorem d_P_init_14 : decode c_P_init 14 = .ok (.bipush 90, 2) := by decide +kernel
theorem d_P_init_16 : decode c_P_init 16 = .ok (.anewarray 17, 3) := by decide +kernel
theorem d_P_init_19 : decode c_P_init 19 = .ok (.putfield 19, 3) := by decide +kernel
theorem d_P_init_22 : decode c_P_init 22 = .ok (.aload_n 0, 1) := by decide +kernel
theorem d_P_init_23 : decode c_P_init 23 = .ok (.bipush 90, 2) := by decide +kernel
theorem d_P_init_25 : decode c_P_init 25 = .ok (.anewarray 17, 3) := by decide +kernel
theorem d_P_init_28 : decode c_P_init 28 = .ok (.putfield 23, 3) := by decide +kernel
theorem d_P_init_31 : decode c_P_init 31 = .ok (.aload_n 0, 1) := by decide +kernel
theorem d_P_init_32 : decode c_P_init 32 = .ok (.bipush 90, 2) := by decide +kernel
theorem d_P_init_34 : decode c_P_init 34 = .ok (.anewarray 26, 3) := by decide +kernel
theorem d_P_init_37 : decode c_P_init 37 = .ok (.putfield 28, 3) := by decide +kernel
theorem d_P_init_40 : decode c_P_init 40 = .ok (.aload_n 0, 1) := by decide +kernel
theorem d_P_init_41 : decode c_P_init 41 = .ok (.bipush 90, 2) := by decide +kernel
theorem d_P_init_43 : decode c_P_init 43 = .ok (.newarray .boolean, 2) := by decide +kernel
theorem d_P_init_45 : decode c_P_init 45 = .ok (.putfield 32, 3) := by decide +kernel
theorem d_P_init_48 : decode c_P_init 48 = .ok (.aload_n 0, 1) := by decide +kernel
theorem d_P_init_49 : decode c_P_init 49 = .ok (.bipush 90, 2) := by decide +kernel
theorem d_P_init_51 : decode c_P_init 51 = .ok (.newarray .boolean, 2) := by decide +kernel
theorem d_P_init_53 : decode c_P_init 53 = .ok (.putfield 36, 3) := by decide +kernel
theorem d_P_init_56 : decode c_P_init 56 = .ok (.aload_n 0, 1) := by decide +kernel
theorem d_P_init_57 : decode c_P_init 57 = .ok (.bipush 90, 2) := by decide +kernel
theorem d_P_init_59 : decode c_P_init 59 = .ok (.newarray .int, 2) := by decide +kernel
theorem d_P_init_61 : decode c_P_init 61 = .ok (.putfield 39, 3) := by decide +kernel
theorem d_P_init_64 : decode c_P_init 64 = .ok (.return_, 1) := by decide +kernel
theorem d_P_nextTime_0 : decode c_P_nextTime 0 = .ok (.aload_n 0, 1) := by decide +kernel
theorem d_P_nextTime_1 : decode c_P_nextTime 1 = .ok (.getfield 43, 3) := by decide +kernel
theorem d_P_nextTime_4 : decode c_P_nextTime 4 = .ok (.iconst 1, 1) := by decide +kernel
theorem d_P_nextTime_5 : decode c_P_nextTime 5 = .ok (.iadd, 1) := by decide +kernel
theorem d_P_nextTime_6 : decode c_P_nextTime 6 = .ok (.ireturn, 1) := by decide +kernel
theorem d_P_learn_0 : decode c_P_learn 0 = .ok (.aload_n 0, 1) := by decide +kernel
theorem d_P_learn_1 : decode c_P_learn 1 = .ok (.getfield 11, 3) := by decide +kernel
theorem d_P_learn_4 : decode c_P_learn 4 = .ok (.aload_n 0, 1) := by decide +kernel
theorem d_P_learn_5 : decode c_P_learn 5 = .ok (.getfield 47, 3) := by decide +kernel
theorem d_P_learn_8 : decode c_P_learn 8 = .ok (.aload_n 1, 1) := by decide +kernel
theorem d_P_learn_9 : decode c_P_learn 9 = .ok (.aastore, 1) := by decide +kernel
theorem d_P_learn_10 : decode c_P_learn 10 = .ok (.aload_n 0, 1) := by decide +kernel
theorem d_P_learn_11 : decode c_P_learn 11 = .ok (.dup, 1) := by decide +kernel
theorem d_P_learn_12 : decode c_P_learn 12 = .ok (.getfield 47, 3) := by decide +kernel
theorem d_P_learn_15 : decode c_P_learn 15 = .ok (.iconst 1, 1) := by decide +kernel
theorem d_P_learn_16 : decode c_P_learn 16 = .ok (.iadd, 1) := by decide +kernel
theorem d_P_learn_17 : decode c_P_learn 17 = .ok (.putfield 47, 3) := by decide +kernel
theorem d_P_learn_20 : decode c_P_learn 20 = .ok (.aload_n 0, 1) := by decide +kernel
theorem d_P_learn_21 : decode c_P_learn 21 = .ok (.getfield 32, 3) := by decide +kernel
theorem d_P_learn_24 : decode c_P_learn 24 = .ok (.aload_n 1, 1) := by decide +kernel
theorem d_P_learn_25 : decode c_P_learn 25 = .ok (.getfield 50, 3) := by decide +kernel
theorem d_P_learn_28 : decode c_P_learn 28 = .ok (.iconst 1, 1) := by decide +kernel
theorem d_P_learn_29 : decode c_P_learn 29 = .ok (.bastore, 1) := by decide +kernel
theorem d_P_learn_30 : decode c_P_learn 30 = .ok (.aload_n 0, 1) := by decide +kernel
theorem d_P_learn_31 : decode c_P_learn 31 = .ok (.aload_n 0, 1) := by decide +kernel
theorem d_P_learn_32 : decode c_P_learn 32 = .ok (.getfield 43, 3) := by decide +kernel
theorem d_P_learn_35 : decode c_P_learn 35 = .ok (.aload_n 1, 1) := by decide +kernel
theorem d_P_learn_36 : decode c_P_learn 36 = .ok (.getfield 53, 3) := by decide +kernel
theorem d_P_learn_39 : decode c_P_learn 39 = .ok (.invokestatic 56, 3) := by decide +kernel
theorem d_P_learn_42 : decode c_P_learn 42 = .ok (.putfield 43, 3) := by decide +kernel
theorem d_P_learn_45 : decode c_P_learn 45 = .ok (.aload_n 1, 1) := by decide +kernel
theorem d_P_learn_46 : decode c_P_learn 46 = .ok (.aload_n 0, 1) := by decide +kernel
theorem d_P_learn_47 : decode c_P_learn 47 = .ok (.invokevirtual 62, 3) := by decide +kernel
theorem d_P_learn_50 : decode c_P_learn 50 = .ok (.aload_n 0, 1) := by decide +kernel
theorem d_P_learn_51 : decode c_P_learn 51 = .ok (.invokevirtual 66, 3) := by decide +kernel
theorem d_P_learn_54 : decode c_P_learn 54 = .ok (.return_, 1) := by decide +kernel
theorem d_P_knowsAllOf_0 : decode c_P_knowsAllOf 0 = .ok (.iconst 0, 1) := by decide +kernel
theorem d_P_knowsAllOf_1 : decode c_P_knowsAllOf 1 = .ok (.istore_n 2, 1) := by decide +kernel
theorem d_P_knowsAllOf_2 : decode c_P_knowsAllOf 2 = .ok (.iload_n 2, 1) := by decide +kernel
theorem d_P_knowsAllOf_3 : decode c_P_knowsAllOf 3 = .ok (.aload_n 1, 1) := by decide +kernel
theorem d_P_knowsAllOf_4 : decode c_P_knowsAllOf 4 = .ok (.getfield 47, 3) := by decide +kernel
theorem d_P_knowsAllOf_7 : decode c_P_knowsAllOf 7 = .ok (.if_icmp .ge 28, 3) := by decide +kernel
theorem d_P_knowsAllOf_10 : decode c_P_knowsAllOf 10 = .ok (.aload_n 0, 1) := by decide +kernel
theorem d_P_knowsAllOf_11 : decode c_P_knowsAllOf 11 = .ok (.getfield 32, 3) := by decide +kernel
theorem d_P_knowsAllOf_14 : decode c_P_knowsAllOf 14 = .ok (.aload_n 1, 1) := by decide +kernel
theorem d_P_knowsAllOf_15 : decode c_P_knowsAllOf 15 = .ok (.getfield 11, 3) := by decide +kernel
theorem d_P_knowsAllOf_18 : decode c_P_knowsAllOf 18 = .ok (.iload_n 2, 1) := by decide +kernel
theorem d_P_knowsAllOf_19 : decode c_P_knowsAllOf 19 = .ok (.aaload, 1) := by decide +kernel
theorem d_P_knowsAllOf_20 : decode c_P_knowsAllOf 20 = .ok (.getfield 50, 3) := by decide +kernel
theorem d_P_knowsAllOf_23 : decode c_P_knowsAllOf 23 = .ok (.baload, 1) := by decide +kernel
theorem d_P_knowsAllOf_24 : decode c_P_knowsAllOf 24 = .ok (.ifCond .ne 5, 3) := by decide +kernel
theorem d_P_knowsAllOf_27 : decode c_P_knowsAllOf 27 = .ok (.iconst 0, 1) := by decide +kernel
theorem d_P_knowsAllOf_28 : decode c_P_knowsAllOf 28 = .ok (.ireturn, 1) := by decide +kernel
theorem d_P_knowsAllOf_29 : decode c_P_knowsAllOf 29 = .ok (.iinc 2 1, 3) := by decide +kernel
theorem d_P_knowsAllOf_32 : decode c_P_knowsAllOf 32 = .ok (.goto (-30), 3) := by decide +kernel
theorem d_P_knowsAllOf_35 : decode c_P_knowsAllOf 35 = .ok (.iconst 1, 1) := by decide +kernel
theorem d_P_knowsAllOf_36 : decode c_P_knowsAllOf 36 = .ok (.ireturn, 1) := by decide +kernel
theorem d_P_putIntoRow_0 : decode c_P_putIntoRow 0 = .ok (.aload_n 1, 1) := by decide +kernel
theorem d_P_putIntoRow_1 : decode c_P_putIntoRow 1 = .ok (.getfield 69, 3) := by decide +kernel
theorem d_P_putIntoRow_4 : decode c_P_putIntoRow 4 = .ok (.ifnonnull 7, 3) := by decide +kernel
theorem d_P_putIntoRow_7 : decode c_P_putIntoRow 7 = .ok (.iconst 0, 1) := by decide +kernel
theorem d_P_putIntoRow_8 : decode c_P_putIntoRow 8 = .ok (.goto 17, 3) := by decide +kernel
theorem d_P_putIntoRow_11 : decode c_P_putIntoRow 11 = .ok (.aload_n 0, 1) := by decide +kernel
theorem d_P_putIntoRow_12 : decode c_P_putIntoRow 12 = .ok (.getfield 39, 3) := by decide +kernel
theorem d_P_putIntoRow_15 : decode c_P_putIntoRow 15 = .ok (.aload_n 1, 1) := by decide +kernel
theorem d_P_putIntoRow_16 : decode c_P_putIntoRow 16 = .ok (.getfield 69, 3) := by decide +kernel
theorem d_P_putIntoRow_19 : decode c_P_putIntoRow 19 = .ok (.getfield 73, 3) := by decide +kernel
theorem d_P_putIntoRow_22 : decode c_P_putIntoRow 22 = .ok (.iaload, 1) := by decide +kernel
theorem d_P_putIntoRow_23 : decode c_P_putIntoRow 23 = .ok (.iconst 1, 1) := by decide +kernel
theorem d_P_putIntoRow_24 : decode c_P_putIntoRow 24 = .ok (.iadd, 1) := by decide +kernel
theorem d_P_putIntoRow_25 : decode c_P_putIntoRow 25 = .ok (.istore_n 2, 1) := by decide +kernel
theorem d_P_putIntoRow_26 : decode c_P_putIntoRow 26 = .ok (.iload_n 2, 1) := by decide +kernel
theorem d_P_putIntoRow_27 : decode c_P_putIntoRow 27 = .ok (.aload_n 0, 1) := by decide +kernel
theorem d_P_putIntoRow_28 : decode c_P_putIntoRow 28 = .ok (.getfield 74, 3) := by decide +kernel
theorem d_P_putIntoRow_31 : decode c_P_putIntoRow 31 = .ok (.if_icmp .ge 25, 3) := by decide +kernel
theorem d_P_putIntoRow_34 : decode c_P_putIntoRow 34 = .ok (.aload_n 0, 1) := by decide +kernel
theorem d_P_putIntoRow_35 : decode c_P_putIntoRow 35 = .ok (.getfield 19, 3) := by decide +kernel
theorem d_P_putIntoRow_38 : decode c_P_putIntoRow 38 = .ok (.iload_n 2, 1) := by decide +kernel
theorem d_P_putIntoRow_39 : decode c_P_putIntoRow 39 = .ok (.aaload, 1) := by decide +kernel
theorem d_P_putIntoRow_40 : decode c_P_putIntoRow 40 = .ok (.getfield 77, 3) := by decide +kernel
theorem d_P_putIntoRow_43 : decode c_P_putIntoRow 43 = .ok (.aload_n 1, 1) := by decide +kernel
theorem d_P_putIntoRow_44 : decode c_P_putIntoRow 44 = .ok (.getfield 77, 3) := by decide +kernel
theorem d_P_putIntoRow_47 : decode c_P_putIntoRow 47 = .ok (.if_icmp .le 9, 3) := by decide +kernel
theorem d_P_putIntoRow_50 : decode c_P_putIntoRow 50 = .ok (.iinc 2 1, 3) := by decide +kernel
theorem d_P_putIntoRow_53 : decode c_P_putIntoRow 53 = .ok (.goto (-27), 3) := by decide +kernel
theorem d_P_putIntoRow_56 : decode c_P_putIntoRow 56 = .ok (.aload_n 0, 1) := by decide +kernel
theorem d_P_putIntoRow_57 : decode c_P_putIntoRow 57 = .ok (.getfield 74, 3) := by decide +kernel
theorem d_P_putIntoRow_60 : decode c_P_putIntoRow 60 = .ok (.istore_n 3, 1) := by decide +kernel
theorem d_P_putIntoRow_61 : decode c_P_putIntoRow 61 = .ok (.iload_n 3, 1) := by decide +kernel
theorem d_P_putIntoRow_62 : decode c_P_putIntoRow 62 = .ok (.iload_n 2, 1) := by decide +kernel
theorem d_P_putIntoRow_63 : decode c_P_putIntoRow 63 = .ok (.if_icmp .le 22, 3) := by decide +kernel
theorem d_P_putIntoRow_66 : decode c_P_putIntoRow 66 = .ok (.aload_n 0, 1) := by decide +kernel
theorem d_P_putIntoRow_67 : decode c_P_putIntoRow 67 = .ok (.iload_n 3, 1) := by decide +kernel
theorem d_P_putIntoRow_68 : decode c_P_putIntoRow 68 = .ok (.aload_n 0, 1) := by decide +kernel
theorem d_P_putIntoRow_69 : decode c_P_putIntoRow 69 = .ok (.getfield 19, 3) := by decide +kernel
theorem d_P_putIntoRow_72 : decode c_P_putIntoRow 72 = .ok (.iload_n 3, 1) := by decide +kernel
theorem d_P_putIntoRow_73 : decode c_P_putIntoRow 73 = .ok (.iconst 1, 1) := by decide +kernel
theorem d_P_putIntoRow_74 : decode c_P_putIntoRow 74 = .ok (.isub, 1) := by decide +kernel
theorem d_P_putIntoRow_75 : decode c_P_putIntoRow 75 = .ok (.aaload, 1) := by decide +kernel
theorem d_P_putIntoRow_76 : decode c_P_putIntoRow 76 = .ok (.invokevirtual 80, 3) := by decide +kernel
theorem d_P_putIntoRow_79 : decode c_P_putIntoRow 79 = .ok (.iinc 3 (-1), 3) := by decide +kernel
theorem d_P_putIntoRow_82 : decode c_P_putIntoRow 82 = .ok (.goto (-21), 3) := by decide +kernel
theorem d_P_putIntoRow_85 : decode c_P_putIntoRow 85 = .ok (.aload_n 0, 1) := by decide +kernel
theorem d_P_putIntoRow_86 : decode c_P_putIntoRow 86 = .ok (.iload_n 2, 1) := by decide +kernel
theorem d_P_putIntoRow_87 : decode c_P_putIntoRow 87 = .ok (.aload_n 1, 1) := by decide +kernel
theorem d_P_putIntoRow_88 : decode c_P_putIntoRow 88 = .ok (.invokevirtual 80, 3) := by decide +kernel
theorem d_P_putIntoRow_91 : decode c_P_putIntoRow 91 = .ok (.aload_n 0, 1) := by decide +kernel
theorem d_P_putIntoRow_92 : decode c_P_putIntoRow 92 = .ok (.dup, 1) := by decide +kernel
theorem d_P_putIntoRow_93 : decode c_P_putIntoRow 93 = .ok (.getfield 74, 3) := by decide +kernel
theorem d_P_putIntoRow_96 : decode c_P_putIntoRow 96 = .ok (.iconst 1, 1) := by decide +kernel
theorem d_P_putIntoRow_97 : decode c_P_putIntoRow 97 = .ok (.iadd, 1) := by decide +kernel
theorem d_P_putIntoRow_98 : decode c_P_putIntoRow 98 = .ok (.putfield 74, 3) := by decide +kernel
theorem d_P_putIntoRow_101 : decode c_P_putIntoRow 101 = .ok (.return_, 1) := by decide +kernel
theorem d_P_setInRow_0 : decode c_P_setInRow 0 = .ok (.aload_n 0, 1) := by decide +kernel
theorem d_P_setInRow_1 : decode c_P_setInRow 1 = .ok (.getfield 19, 3) := by decide +kernel
theorem d_P_setInRow_4 : decode c_P_setInRow 4 = .ok (.iload_n 1, 1) := by decide +kernel
theorem d_P_setInRow_5 : decode c_P_setInRow 5 = .ok (.aload_n 2, 1) := by decide +kernel
theorem d_P_setInRow_6 : decode c_P_setInRow 6 = .ok (.aastore, 1) := by decide +kernel
theorem d_P_setInRow_7 : decode c_P_setInRow 7 = .ok (.aload_n 0, 1) := by decide +kernel
theorem d_P_setInRow_8 : decode c_P_setInRow 8 = .ok (.getfield 39, 3) := by decide +kernel
theorem d_P_setInRow_11 : decode c_P_setInRow 11 = .ok (.aload_n 2, 1) := by decide +kernel
theorem d_P_setInRow_12 : decode c_P_setInRow 12 = .ok (.getfield 73, 3) := by decide +kernel
theorem d_P_setInRow_15 : decode c_P_setInRow 15 = .ok (.iload_n 1, 1) := by decide +kernel
theorem d_P_setInRow_16 : decode c_P_setInRow 16 = .ok (.iastore, 1) := by decide +kernel
theorem d_P_setInRow_17 : decode c_P_setInRow 17 = .ok (.return_, 1) := by decide +kernel
theorem d_P_addMarking_0 : decode c_P_addMarking 0 = .ok (.aload_n 0, 1) := by decide +kernel
theorem d_P_addMarking_1 : decode c_P_addMarking 1 = .ok (.getfield 84, 3) := by decide +kernel
theorem d_P_addMarking_4 : decode c_P_addMarking 4 = .ok (.istore_n 2, 1) := by decide +kernel
theorem d_P_addMarking_5 : decode c_P_addMarking 5 = .ok (.iload_n 2, 1) := by decide +kernel
theorem d_P_addMarking_6 : decode c_P_addMarking 6 = .ok (.ifCond .le 41, 3) := by decide +kernel
theorem d_P_addMarking_9 : decode c_P_addMarking 9 = .ok (.aload_n 0, 1) := by decide +kernel
theorem d_P_addMarking_10 : decode c_P_addMarking 10 = .ok (.getfield 28, 3) := by decide +kernel
theorem d_P_addMarking_13 : decode c_P_addMarking 13 = .ok (.iload_n 2, 1) := by decide +kernel
theorem d_P_addMarking_14 : decode c_P_addMarking 14 = .ok (.iconst 1, 1) := by decide +kernel
theorem d_P_addMarking_15 : decode c_P_addMarking 15 = .ok (.isub, 1) := by decide +kernel
theorem d_P_addMarking_16 : decode c_P_addMarking 16 = .ok (.aaload, 1) := by decide +kernel
theorem d_P_addMarking_17 : decode c_P_addMarking 17 = .ok (.getfield 87, 3) := by decide +kernel
theorem d_P_addMarking_20 : decode c_P_addMarking 20 = .ok (.aload_n 1, 1) := by decide +kernel
theorem d_P_addMarking_21 : decode c_P_addMarking 21 = .ok (.getfield 87, 3) := by decide +kernel
theorem d_P_addMarking_24 : decode c_P_addMarking 24 = .ok (.if_icmp .le 23, 3) := by decide +kernel
theorem d_P_addMarking_27 : decode c_P_addMarking 27 = .ok (.aload_n 0, 1) := by decide +kernel
theorem d_P_addMarking_28 : decode c_P_addMarking 28 = .ok (.getfield 28, 3) := by decide +kernel
theorem d_P_addMarking_31 : decode c_P_addMarking 31 = .ok (.iload_n 2, 1) := by decide +kernel
theorem d_P_addMarking_32 : decode c_P_addMarking 32 = .ok (.aload_n 0, 1) := by decide +kernel
theorem d_P_addMarking_33 : decode c_P_addMarking 33 = .ok (.getfield 28, 3) := by decide +kernel
theorem d_P_addMarking_36 : decode c_P_addMarking 36 = .ok (.iload_n 2, 1) := by decide +kernel
theorem d_P_addMarking_37 : decode c_P_addMarking 37 = .ok (.iconst 1, 1) := by decide +kernel
theorem d_P_addMarking_38 : decode c_P_addMarking 38 = .ok (.isub, 1) := by decide +kernel
theorem d_P_addMarking_39 : decode c_P_addMarking 39 = .ok (.aaload, 1) := by decide +kernel
theorem d_P_addMarking_40 : decode c_P_addMarking 40 = .ok (.aastore, 1) := by decide +kernel
theorem d_P_addMarking_41 : decode c_P_addMarking 41 = .ok (.iinc 2 (-1), 3) := by decide +kernel
theorem d_P_addMarking_44 : decode c_P_addMarking 44 = .ok (.goto (-39), 3) := by decide +kernel
theorem d_P_addMarking_47 : decode c_P_addMarking 47 = .ok (.aload_n 0, 1) := by decide +kernel
theorem d_P_addMarking_48 : decode c_P_addMarking 48 = .ok (.getfield 28, 3) := by decide +kernel
theorem d_P_addMarking_51 : decode c_P_addMarking 51 = .ok (.iload_n 2, 1) := by decide +kernel
theorem d_P_addMarking_52 : decode c_P_addMarking 52 = .ok (.aload_n 1, 1) := by decide +kernel
theorem d_P_addMarking_53 : decode c_P_addMarking 53 = .ok (.aastore, 1) := by decide +kernel
theorem d_P_addMarking_54 : decode c_P_addMarking 54 = .ok (.aload_n 0, 1) := by decide +kernel
theorem d_P_addMarking_55 : decode c_P_addMarking 55 = .ok (.dup, 1) := by decide +kernel
theorem d_P_addMarking_56 : decode c_P_addMarking 56 = .ok (.getfield 84, 3) := by decide +kernel
theorem d_P_addMarking_59 : decode c_P_addMarking 59 = .ok (.iconst 1, 1) := by decide +kernel
theorem d_P_addMarking_60 : decode c_P_addMarking 60 = .ok (.iadd, 1) := by decide +kernel
theorem d_P_addMarking_61 : decode c_P_addMarking 61 = .ok (.putfield 84, 3) := by decide +kernel
theorem d_P_addMarking_64 : decode c_P_addMarking 64 = .ok (.return_, 1) := by decide +kernel
theorem d_P_gatherText_0 : decode c_P_gatherText 0 = .ok (.aload_n 0, 1) := by decide +kernel
theorem d_P_gatherText_1 : decode c_P_gatherText 1 = .ok (.iconst 0, 1) := by decide +kernel
theorem d_P_gatherText_2 : decode c_P_gatherText 2 = .ok (.putfield 88, 3) := by decide +kernel
theorem d_P_gatherText_5 : decode c_P_gatherText 5 = .ok (.iconst 0, 1) := by decide +kernel
theorem d_P_gatherText_6 : decode c_P_gatherText 6 = .ok (.istore_n 1, 1) := by decide +kernel
theorem d_P_gatherText_7 : decode c_P_gatherText 7 = .ok (.iload_n 1, 1) := by decide +kernel
theorem d_P_gatherText_8 : decode c_P_gatherText 8 = .ok (.aload_n 0, 1) := by decide +kernel
theorem d_P_gatherText_9 : decode c_P_gatherText 9 = .ok (.getfield 74, 3) := by decide +kernel
theorem d_P_gatherText_12 : decode c_P_gatherText 12 = .ok (.if_icmp .ge 51, 3) := by decide +kernel
theorem d_P_gatherText_15 : decode c_P_gatherText 15 = .ok (.aload_n 0, 1) := by decide +kernel
theorem d_P_gatherText_16 : decode c_P_gatherText 16 = .ok (.getfield 36, 3) := by decide +kernel
theorem d_P_gatherText_19 : decode c_P_gatherText 19 = .ok (.aload_n 0, 1) := by decide +kernel
theorem d_P_gatherText_20 : decode c_P_gatherText 20 = .ok (.getfield 19, 3) := by decide +kernel
theorem d_P_gatherText_23 : decode c_P_gatherText 23 = .ok (.iload_n 1, 1) := by decide +kernel
theorem d_P_gatherText_24 : decode c_P_gatherText 24 = .ok (.aaload, 1) := by decide +kernel
theorem d_P_gatherText_25 : decode c_P_gatherText 25 = .ok (.getfield 73, 3) := by decide +kernel
theorem d_P_gatherText_28 : decode c_P_gatherText 28 = .ok (.baload, 1) := by decide +kernel
theorem d_P_gatherText_29 : decode c_P_gatherText 29 = .ok (.ifCond .ne 28, 3) := by decide +kernel
theorem d_P_gatherText_32 : decode c_P_gatherText 32 = .ok (.aload_n 0, 1) := by decide +kernel
theorem d_P_gatherText_33 : decode c_P_gatherText 33 = .ok (.getfield 23, 3) := by decide +kernel
theorem d_P_gatherText_36 : decode c_P_gatherText 36 = .ok (.aload_n 0, 1) := by decide +kernel
theorem d_P_gatherText_37 : decode c_P_gatherText 37 = .ok (.getfield 88, 3) := by decide +kernel
theorem d_P_gatherText_40 : decode c_P_gatherText 40 = .ok (.aload_n 0, 1) := by decide +kernel
theorem d_P_gatherText_41 : decode c_P_gatherText 41 = .ok (.getfield 19, 3) := by decide +kernel
theorem d_P_gatherText_44 : decode c_P_gatherText 44 = .ok (.iload_n 1, 1) := by decide +kernel
theorem d_P_gatherText_45 : decode c_P_gatherText 45 = .ok (.aaload, 1) := by decide +kernel
theorem d_P_gatherText_46 : decode c_P_gatherText 46 = .ok (.aastore, 1) := by decide +kernel
theorem d_P_gatherText_47 : decode c_P_gatherText 47 = .ok (.aload_n 0, 1) := by decide +kernel
theorem d_P_gatherText_48 : decode c_P_gatherText 48 = .ok (.dup, 1) := by decide +kernel
theorem d_P_gatherText_49 : decode c_P_gatherText 49 = .ok (.getfield 88, 3) := by decide +kernel
theorem d_P_gatherText_52 : decode c_P_gatherText 52 = .ok (.iconst 1, 1) := by decide +kernel
theorem d_P_gatherText_53 : decode c_P_gatherText 53 = .ok (.iadd, 1) := by decide +kernel
theorem d_P_gatherText_54 : decode c_P_gatherText 54 = .ok (.putfield 88, 3) := by decide +kernel
theorem d_P_gatherText_57 : decode c_P_gatherText 57 = .ok (.iinc 1 1, 3) := by decide +kernel
theorem d_P_gatherText_60 : decode c_P_gatherText 60 = .ok (.goto (-53), 3) := by decide +kernel
theorem d_P_gatherText_63 : decode c_P_gatherText 63 = .ok (.return_, 1) := by decide +kernel
theorem d_P_writingShownAt_0 : decode c_P_writingShownAt 0 = .ok (.iload_n 1, 1) := by decide +kernel
theorem d_P_writingShownAt_1 : decode c_P_writingShownAt 1 = .ok (.ifCond .lt 15, 3) := by decide +kernel
theorem d_P_writingShownAt_4 : decode c_P_writingShownAt 4 = .ok (.iload_n 1, 1) := by decide +kernel
theorem d_P_writingShownAt_5 : decode c_P_writingShownAt 5 = .ok (.aload_n 0, 1) := by decide +kernel
theorem d_P_writingShownAt_6 : decode c_P_writingShownAt 6 = .ok (.getfield 88, 3) := by decide +kernel
theorem d_P_writingShownAt_9 : decode c_P_writingShownAt 9 = .ok (.if_icmp .ge 7, 3) := by decide +kernel
theorem d_P_writingShownAt_12 : decode c_P_writingShownAt 12 = .ok (.iconst 1, 1) := by decide +kernel
theorem d_P_writingShownAt_13 : decode c_P_writingShownAt 13 = .ok (.goto 4, 3) := by decide +kernel
theorem d_P_writingShownAt_16 : decode c_P_writingShownAt 16 = .ok (.iconst 0, 1) := by decide +kernel
theorem d_P_writingShownAt_17 : decode c_P_writingShownAt 17 = .ok (.invokestatic 91, 3) := by decide +kernel
theorem d_P_writingShownAt_20 : decode c_P_writingShownAt 20 = .ok (.aload_n 0, 1) := by decide +kernel
theorem d_P_writingShownAt_21 : decode c_P_writingShownAt 21 = .ok (.getfield 23, 3) := by decide +kernel
theorem d_P_writingShownAt_24 : decode c_P_writingShownAt 24 = .ok (.iload_n 1, 1) := by decide +kernel
theorem d_P_writingShownAt_25 : decode c_P_writingShownAt 25 = .ok (.aaload, 1) := by decide +kernel
theorem d_P_writingShownAt_26 : decode c_P_writingShownAt 26 = .ok (.areturn, 1) := by decide +kernel
theorem d_P_formatOf_0 : decode c_P_formatOf 0 = .ok (.aload_n 0, 1) := by decide +kernel
theorem d_P_formatOf_1 : decode c_P_formatOf 1 = .ok (.getfield 39, 3) := by decide +kernel
theorem d_P_formatOf_4 : decode c_P_formatOf 4 = .ok (.aload_n 1, 1) := by decide +kernel
theorem d_P_formatOf_5 : decode c_P_formatOf 5 = .ok (.getfield 73, 3) := by decide +kernel
theorem d_P_formatOf_8 : decode c_P_formatOf 8 = .ok (.iaload, 1) := by decide +kernel
theorem d_P_formatOf_9 : decode c_P_formatOf 9 = .ok (.istore_n 2, 1) := by decide +kernel
theorem d_P_formatOf_10 : decode c_P_formatOf 10 = .ok (.iconst 0, 1) := by decide +kernel
theorem d_P_formatOf_11 : decode c_P_formatOf 11 = .ok (.istore_n 3, 1) := by decide +kernel
theorem d_P_formatOf_12 : decode c_P_formatOf 12 = .ok (.iconst 0, 1) := by decide +kernel
theorem d_P_formatOf_13 : decode c_P_formatOf 13 = .ok (.istore 4, 2) := by decide +kernel
theorem d_P_formatOf_15 : decode c_P_formatOf 15 = .ok (.iload 4, 2) := by decide +kernel
theorem d_P_formatOf_17 : decode c_P_formatOf 17 = .ok (.aload_n 0, 1) := by decide +kernel
theorem d_P_formatOf_18 : decode c_P_formatOf 18 = .ok (.getfield 84, 3) := by decide +kernel
theorem d_P_formatOf_21 : decode c_P_formatOf 21 = .ok (.if_icmp .ge 59, 3) := by decide +kernel
theorem d_P_formatOf_24 : decode c_P_formatOf 24 = .ok (.aload_n 0, 1) := by decide +kernel
theorem d_P_formatOf_25 : decode c_P_formatOf 25 = .ok (.getfield 28, 3) := by decide +kernel
theorem d_P_formatOf_28 : decode c_P_formatOf 28 = .ok (.iload 4, 2) := by decide +kernel
theorem d_P_formatOf_30 : decode c_P_formatOf 30 = .ok (.aaload, 1) := by decide +kernel
theorem d_P_formatOf_31 : decode c_P_formatOf 31 = .ok (.astore 5, 2) := by decide +kernel
theorem d_P_formatOf_33 : decode c_P_formatOf 33 = .ok (.aload 5, 2) := by decide +kernel
theorem d_P_formatOf_35 : decode c_P_formatOf 35 = .ok (.iload_n 2, 1) := by decide +kernel
theorem d_P_formatOf_36 : decode c_P_formatOf 36 = .ok (.aload_n 0, 1) := by decide +kernel
theorem d_P_formatOf_37 : decode c_P_formatOf 37 = .ok (.getfield 39, 3) := by decide +kernel
theorem d_P_formatOf_40 : decode c_P_formatOf 40 = .ok (.invokevirtual 95, 3) := by decide +kernel
theorem d_P_formatOf_43 : decode c_P_formatOf 43 = .ok (.ifCond .eq 31, 3) := by decide +kernel
theorem d_P_formatOf_46 : decode c_P_formatOf 46 = .ok (.aload 5, 2) := by decide +kernel
theorem d_P_formatOf_48 : decode c_P_formatOf 48 = .ok (.getfield 99, 3) := by decide +kernel
theorem d_P_formatOf_51 : decode c_P_formatOf 51 = .ok (.ifCond .eq 13, 3) := by decide +kernel
theorem d_P_formatOf_54 : decode c_P_formatOf 54 = .ok (.iload_n 3, 1) := by decide +kernel
theorem d_P_formatOf_55 : decode c_P_formatOf 55 = .ok (.aload 5, 2) := by decide +kernel
theorem d_P_formatOf_57 : decode c_P_formatOf 57 = .ok (.getfield 103, 3) := by decide +kernel
theorem d_P_formatOf_60 : decode c_P_formatOf 60 = .ok (.ior, 1) := by decide +kernel
theorem d_P_formatOf_61 : decode c_P_formatOf 61 = .ok (.goto 12, 3) := by decide +kernel
theorem d_P_formatOf_64 : decode c_P_formatOf 64 = .ok (.iload_n 3, 1) := by decide +kernel
theorem d_P_formatOf_65 : decode c_P_formatOf 65 = .ok (.aload 5, 2) := by decide +kernel
theorem d_P_formatOf_67 : decode c_P_formatOf 67 = .ok (.getfield 103, 3) := by decide +kernel
theorem d_P_formatOf_70 : decode c_P_formatOf 70 = .ok (.iconst (-1), 1) := by decide +kernel
theorem d_P_formatOf_71 : decode c_P_formatOf 71 = .ok (.ixor, 1) := by decide +kernel
theorem d_P_formatOf_72 : decode c_P_formatOf 72 = .ok (.iand, 1) := by decide +kernel
theorem d_P_formatOf_73 : decode c_P_formatOf 73 = .ok (.istore_n 3, 1) := by decide +kernel
theorem d_P_formatOf_74 : decode c_P_formatOf 74 = .ok (.iinc 4 1, 3) := by decide +kernel
theorem d_P_formatOf_77 : decode c_P_formatOf 77 = .ok (.goto (-62), 3) := by decide +kernel
theorem d_P_formatOf_80 : decode c_P_formatOf 80 = .ok (.iload_n 3, 1) := by decide +kernel
theorem d_P_formatOf_81 : decode c_P_formatOf 81 = .ok (.ireturn, 1) := by decide +kernel
theorem d_P_startsRun_0 : decode c_P_startsRun 0 = .ok (.iload_n 1, 1) := by decide +kernel
theorem d_P_startsRun_1 : decode c_P_startsRun 1 = .ok (.ifCond .eq 28, 3) := by decide +kernel
theorem d_P_startsRun_4 : decode c_P_startsRun 4 = .ok (.aload_n 0, 1) := by decide +kernel
theorem d_P_startsRun_5 : decode c_P_startsRun 5 = .ok (.aload_n 0, 1) := by decide +kernel
theorem d_P_startsRun_6 : decode c_P_startsRun 6 = .ok (.getfield 23, 3) := by decide +kernel
theorem d_P_startsRun_9 : decode c_P_startsRun 9 = .ok (.iload_n 1, 1) := by decide +kernel
theorem d_P_startsRun_10 : decode c_P_startsRun 10 = .ok (.aaload, 1) := by decide +kernel
theorem d_P_startsRun_11 : decode c_P_startsRun 11 = .ok (.invokevirtual 106, 3) := by decide +kernel
theorem d_P_startsRun_14 : decode c_P_startsRun 14 = .ok (.aload_n 0, 1) := by decide +kernel
theorem d_P_startsRun_15 : decode c_P_startsRun 15 = .ok (.aload_n 0, 1) := by decide +kernel
theorem d_P_startsRun_16 : decode c_P_startsRun 16 = .ok (.getfield 23, 3) := by decide +kernel
theorem d_P_startsRun_19 : decode c_P_startsRun 19 = .ok (.iload_n 1, 1) := by decide +kernel
theorem d_P_startsRun_20 : decode c_P_startsRun 20 = .ok (.iconst 1, 1) := by decide +kernel
theorem d_P_startsRun_21 : decode c_P_startsRun 21 = .ok (.isub, 1) := by decide +kernel
theorem d_P_startsRun_22 : decode c_P_startsRun 22 = .ok (.aaload, 1) := by decide +kernel
theorem d_P_startsRun_23 : decode c_P_startsRun 23 = .ok (.invokevirtual 106, 3) := by decide +kernel
theorem d_P_startsRun_26 : decode c_P_startsRun 26 = .ok (.if_icmp .eq 7, 3) := by decide +kernel
theorem d_P_startsRun_29 : decode c_P_startsRun 29 = .ok (.iconst 1, 1) := by decide +kernel
theorem d_P_startsRun_30 : decode c_P_startsRun 30 = .ok (.goto 4, 3) := by decide +kernel
theorem d_P_startsRun_33 : decode c_P_startsRun 33 = .ok (.iconst 0, 1) := by decide +kernel
theorem d_P_startsRun_34 : decode c_P_startsRun 34 = .ok (.ireturn, 1) := by decide +kernel
theorem d_P_startOfRun_0 : decode c_P_startOfRun 0 = .ok (.iconst 0, 1) := by decide +kernel
theorem d_P_startOfRun_1 : decode c_P_startOfRun 1 = .ok (.istore_n 2, 1) := by decide +kernel
theorem d_P_startOfRun_2 : decode c_P_startOfRun 2 = .ok (.iconst 0, 1) := by decide +kernel
theorem d_P_startOfRun_3 : decode c_P_startOfRun 3 = .ok (.istore_n 3, 1) := by decide +kernel
theorem d_P_startOfRun_4 : decode c_P_startOfRun 4 = .ok (.iload_n 3, 1) := by decide +kernel
theorem d_P_startOfRun_5 : decode c_P_startOfRun 5 = .ok (.aload_n 0, 1) := by decide +kernel
theorem d_P_startOfRun_6 : decode c_P_startOfRun 6 = .ok (.getfield 88, 3) := by decide +kernel
theorem d_P_startOfRun_9 : decode c_P_startOfRun 9 = .ok (.if_icmp .ge 27, 3) := by decide +kernel
theorem d_P_startOfRun_12 : decode c_P_startOfRun 12 = .ok (.aload_n 0, 1) := by decide +kernel
theorem d_P_startOfRun_13 : decode c_P_startOfRun 13 = .ok (.iload_n 3, 1) := by decide +kernel
theorem d_P_startOfRun_14 : decode c_P_startOfRun 14 = .ok (.invokevirtual 110, 3) := by decide +kernel
theorem d_P_startOfRun_17 : decode c_P_startOfRun 17 = .ok (.ifCond .eq 13, 3) := by decide +kernel
theorem d_P_startOfRun_20 : decode c_P_startOfRun 20 = .ok (.iload_n 2, 1) := by decide +kernel
theorem d_P_startOfRun_21 : decode c_P_startOfRun 21 = .ok (.iload_n 1, 1) := by decide +kernel
theorem d_P_startOfRun_22 : decode c_P_startOfRun 22 = .ok (.if_icmp .ne 5, 3) := by decide +kernel
theorem d_P_startOfRun_25 : decode c_P_startOfRun 25 = .ok (.iload_n 3, 1) := by decide +kernel
theorem d_P_startOfRun_26 : decode c_P_startOfRun 26 = .ok (.ireturn, 1) := by decide +kernel
theorem d_P_startOfRun_27 : decode c_P_startOfRun 27 = .ok (.iinc 2 1, 3) := by decide +kernel
theorem d_P_startOfRun_30 : decode c_P_startOfRun 30 = .ok (.iinc 3 1, 3) := by decide +kernel
theorem d_P_startOfRun_33 : decode c_P_startOfRun 33 = .ok (.goto (-29), 3) := by decide +kernel
theorem d_P_startOfRun_36 : decode c_P_startOfRun 36 = .ok (.aload_n 0, 1) := by decide +kernel
theorem d_P_startOfRun_37 : decode c_P_startOfRun 37 = .ok (.getfield 88, 3) := by decide +kernel
theorem d_P_startOfRun_40 : decode c_P_startOfRun 40 = .ok (.ireturn, 1) := by decide +kernel
end
section
/-! Decode rows by program. -/
theorem d_R_init_0 : decode c_R_init 0 = .ok (.aload_n 0, 1) := by decide +kernel
theorem d_R_init_1 : decode c_R_init 1 = .ok (.invokespecial 1, 3) := by decide +kernel
theorem d_R_init_4 : decode c_R_init 4 = .ok (.aload_n 0, 1) := by decide +kernel
theorem d_R_init_5 : decode c_R_init 5 = .ok (.bipush 90, 2) := by decide +kernel
theorem d_R_init_7 : decode c_R_init 7 = .ok (.newarray .int, 2) := by decide +kernel
theorem d_R_init_9 : decode c_R_init 9 = .ok (.putfield 7, 3) := by decide +kernel
theorem d_R_init_12 : decode c_R_init 12 = .ok (.aload_n 0, 1) := by decide +kernel
theorem d_R_init_13 : decode c_R_init 13 = .ok (.bipush 90, 2) := by decide +kernel
theorem d_R_init_15 : decode c_R_init 15 = .ok (.newarray .int, 2) := by decide +kernel
theorem d_R_init_17 : decode c_R_init 17 = .ok (.putfield 13, 3) := by decide +kernel
theorem d_R_init_20 : decode c_R_init 20 = .ok (.aload_n 0, 1) := by decide +kernel
theorem d_R_init_21 : decode c_R_init 21 = .ok (.bipush 90, 2) := by decide +kernel
theorem d_R_init_23 : decode c_R_init 23 = .ok (.newarray .int, 2) := by decide +kernel
theorem d_R_init_25 : decode c_R_init 25 = .ok (.putfield 16, 3) := by decide +kernel
theorem d_R_init_28 : decode c_R_init 28 = .ok (.aload_n 0, 1) := by decide +kernel
theorem d_R_init_29 : decode c_R_init 29 = .ok (.bipush 90, 2) := by decide +kernel
theorem d_R_init_31 : decode c_R_init 31 = .ok (.newarray .int, 2) := by decide +kernel
theorem d_R_init_33 : decode c_R_init 33 = .ok (.putfield 19, 3) := by decide +kernel
theorem d_R_init_36 : decode c_R_init 36 = .ok (.aload_n 0, 1) := by decide +kernel
theorem d_R_init_37 : decode c_R_init 37 = .ok (.bipush 90, 2) := by decide +kernel
theorem d_R_init_39 : decode c_R_init 39 = .ok (.newarray .int, 2) := by decide +kernel
theorem d_R_init_41 : decode c_R_init 41 = .ok (.putfield 22, 3) := by decide +kernel
theorem d_R_init_44 : decode c_R_init 44 = .ok (.aload_n 0, 1) := by decide +kernel
theorem d_R_init_45 : decode c_R_init 45 = .ok (.bipush 90, 2) := by decide +kernel
theorem d_R_init_47 : decode c_R_init 47 = .ok (.newarray .char, 2) := by decide +kernel
theorem d_R_init_49 : decode c_R_init 49 = .ok (.putfield 25, 3) := by decide +kernel
theorem d_R_init_52 : decode c_R_init 52 = .ok (.aload_n 0, 1) := by decide +kernel
theorem d_R_init_53 : decode c_R_init 53 = .ok (.sipush 270, 3) := by decide +kernel
theorem d_R_init_56 : decode c_R_init 56 = .ok (.newarray .int, 2) := by decide +kernel
theorem d_R_init_58 : decode c_R_init 58 = .ok (.putfield 29, 3) := by decide +kernel
theorem d_R_init_61 : decode c_R_init 61 = .ok (.aload_n 0, 1) := by decide +kernel
theorem d_R_init_62 : decode c_R_init 62 = .ok (.sipush 270, 3) := by decide +kernel
theorem d_R_init_65 : decode c_R_init 65 = .ok (.newarray .boolean, 2) := by decide +kernel
theorem d_R_init_67 : decode c_R_init 67 = .ok (.putfield 32, 3) := by decide +kernel
theorem d_R_init_70 : decode c_R_init 70 = .ok (.aload_n 0, 1) := by decide +kernel
theorem d_R_init_71 : decode c_R_init 71 = .ok (.iconst 3, 1) := by decide +kernel
theorem d_R_init_72 : decode c_R_init 72 = .ok (.newarray .int, 2) := by decide +kernel
theorem d_R_init_74 : decode c_R_init 74 = .ok (.putfield 36, 3) := by decide +kernel
theorem d_R_init_77 : decode c_R_init 77 = .ok (.aload_n 0, 1) := by decide +kernel
theorem d_R_init_78 : decode c_R_init 78 = .ok (.bipush 90, 2) := by decide +kernel
theorem d_R_init_80 : decode c_R_init 80 = .ok (.newarray .int, 2) := by decide +kernel
theorem d_R_init_82 : decode c_R_init 82 = .ok (.putfield 39, 3) := by decide +kernel
theorem d_R_init_85 : decode c_R_init 85 = .ok (.aload_n 0, 1) := by decide +kernel
theorem d_R_init_86 : decode c_R_init 86 = .ok (.bipush 90, 2) := by decide +kernel
theorem d_R_init_88 : decode c_R_init 88 = .ok (.newarray .int, 2) := by decide +kernel
theorem d_R_init_90 : decode c_R_init 90 = .ok (.putfield 42, 3) := by decide +kernel
theorem d_R_init_93 : decode c_R_init 93 = .ok (.aload_n 0, 1) := by decide +kernel
theorem d_R_init_94 : decode c_R_init 94 = .ok (.bipush 90, 2) := by decide +kernel
theorem d_R_init_96 : decode c_R_init 96 = .ok (.newarray .int, 2) := by decide +kernel
theorem d_R_init_98 : decode c_R_init 98 = .ok (.putfield 45, 3) := by decide +kernel
theorem d_R_init_101 : decode c_R_init 101 = .ok (.aload_n 0, 1) := by decide +kernel
theorem d_R_init_102 : decode c_R_init 102 = .ok (.bipush 90, 2) := by decide +kernel
theorem d_R_init_104 : decode c_R_init 104 = .ok (.newarray .boolean, 2) := by decide +kernel
theorem d_R_init_106 : decode c_R_init 106 = .ok (.putfield 48, 3) := by decide +kernel
theorem d_R_init_109 : decode c_R_init 109 = .ok (.return_, 1) := by decide +kernel
theorem d_R_thrown_0 : decode c_R_thrown 0 = .ok (.aload_n 0, 1) := by decide +kernel
theorem d_R_thrown_1 : decode c_R_thrown 1 = .ok (.getfield 51, 3) := by decide +kernel
theorem d_R_thrown_4 : decode c_R_thrown 4 = .ok (.ireturn, 1) := by decide +kernel
theorem d_R_isPage_0 : decode c_R_isPage 0 = .ok (.iload_n 0, 1) := by decide +kernel
theorem d_R_isPage_1 : decode c_R_isPage 1 = .ok (.ifCond .lt 12, 3) := by decide +kernel
theorem d_R_isPage_4 : decode c_R_isPage 4 = .ok (.iload_n 0, 1) := by decide +kernel
theorem d_R_isPage_5 : decode c_R_isPage 5 = .ok (.iconst 3, 1) := by decide +kernel
theorem d_R_isPage_6 : decode c_R_isPage 6 = .ok (.if_icmp .ge 7, 3) := by decide +kernel
theorem d_R_isPage_9 : decode c_R_isPage 9 = .ok (.iconst 1, 1) := by decide +kernel
theorem d_R_isPage_10 : decode c_R_isPage 10 = .ok (.goto 4, 3) := by decide +kernel
theorem d_R_isPage_13 : decode c_R_isPage 13 = .ok (.iconst 0, 1) := by decide +kernel
theorem d_R_isPage_14 : decode c_R_isPage 14 = .ok (.ireturn, 1) := by decide +kernel
theorem d_R_nextBehind_0 : decode c_R_nextBehind 0 = .ok (.iconst (-1), 1) := by decide +kernel
theorem d_R_nextBehind_1 : decode c_R_nextBehind 1 = .ok (.istore_n 3, 1) := by decide +kernel
theorem d_R_nextBehind_2 : decode c_R_nextBehind 2 = .ok (.iconst 0, 1) := by decide +kernel
theorem d_R_nextBehind_3 : decode c_R_nextBehind 3 = .ok (.istore 4, 2) := by decide +kernel
theorem d_R_nextBehind_5 : decode c_R_nextBehind 5 = .ok (.iload 4, 2) := by decide +kernel
theorem d_R_nextBehind_7 : decode c_R_nextBehind 7 = .ok (.aload_n 0, 1) := by decide +kernel
theorem d_R_nextBehind_8 : decode c_R_nextBehind 8 = .ok (.getfield 55, 3) := by decide +kernel
theorem d_R_nextBehind_11 : decode c_R_nextBehind 11 = .ok (.if_icmp .ge 94, 3) := by decide +kernel
theorem d_R_nextBehind_14 : decode c_R_nextBehind 14 = .ok (.aload_n 0, 1) := by decide +kernel
theorem d_R_nextBehind_15 : decode c_R_nextBehind 15 = .ok (.getfield 32, 3) := by decide +kernel
theorem d_R_nextBehind_18 : decode c_R_nextBehind 18 = .ok (.bipush 90, 2) := by decide +kernel
theorem d_R_nextBehind_20 : decode c_R_nextBehind 20 = .ok (.iload_n 1, 1) := by decide +kernel
theorem d_R_nextBehind_21 : decode c_R_nextBehind 21 = .ok (.imul, 1) := by decide +kernel
theorem d_R_nextBehind_22 : decode c_R_nextBehind 22 = .ok (.iload 4, 2) := by decide +kernel
theorem d_R_nextBehind_24 : decode c_R_nextBehind 24 = .ok (.iadd, 1) := by decide +kernel
theorem d_R_nextBehind_25 : decode c_R_nextBehind 25 = .ok (.baload, 1) := by decide +kernel
theorem d_R_nextBehind_26 : decode c_R_nextBehind 26 = .ok (.ifCond .eq 38, 3) := by decide +kernel
theorem d_R_nextBehind_29 : decode c_R_nextBehind 29 = .ok (.aload_n 0, 1) := by decide +kernel
theorem d_R_nextBehind_30 : decode c_R_nextBehind 30 = .ok (.getfield 7, 3) := by decide +kernel
theorem d_R_nextBehind_33 : decode c_R_nextBehind 33 = .ok (.iload 4, 2) := by decide +kernel
theorem d_R_nextBehind_35 : decode c_R_nextBehind 35 = .ok (.iaload, 1) := by decide +kernel
theorem d_R_nextBehind_36 : decode c_R_nextBehind 36 = .ok (.ifCond .ne 28, 3) := by decide +kernel
theorem d_R_nextBehind_39 : decode c_R_nextBehind 39 = .ok (.aload_n 0, 1) := by decide +kernel
theorem d_R_nextBehind_40 : decode c_R_nextBehind 40 = .ok (.getfield 16, 3) := by decide +kernel
theorem d_R_nextBehind_43 : decode c_R_nextBehind 43 = .ok (.iload 4, 2) := by decide +kernel
theorem d_R_nextBehind_45 : decode c_R_nextBehind 45 = .ok (.iaload, 1) := by decide +kernel
theorem d_R_nextBehind_46 : decode c_R_nextBehind 46 = .ok (.iload_n 2, 1) := by decide +kernel
theorem d_R_nextBehind_47 : decode c_R_nextBehind 47 = .ok (.if_icmp .ne 17, 3) := by decide +kernel
theorem d_R_nextBehind_50 : decode c_R_nextBehind 50 = .ok (.aload_n 0, 1) := by decide +kernel
theorem d_R_nextBehind_51 : decode c_R_nextBehind 51 = .ok (.getfield 48, 3) := by decide +kernel
theorem d_R_nextBehind_54 : decode c_R_nextBehind 54 = .ok (.iload 4, 2) := by decide +kernel
theorem d_R_nextBehind_56 : decode c_R_nextBehind 56 = .ok (.baload, 1) := by decide +kernel
theorem d_R_nextBehind_57 : decode c_R_nextBehind 57 = .ok (.ifCond .ne 7, 3) := by decide +kernel
theorem d_R_nextBehind_60 : decode c_R_nextBehind 60 = .ok (.iconst 1, 1) := by decide +kernel
theorem d_R_nextBehind_61 : decode c_R_nextBehind 61 = .ok (.goto 4, 3) := by decide +kernel
theorem d_R_nextBehind_64 : decode c_R_nextBehind 64 = .ok (.iconst 0, 1) := by decide +kernel
theorem d_R_nextBehind_65 : decode c_R_nextBehind 65 = .ok (.istore 5, 2) := by decide +kernel
theorem d_R_nextBehind_67 : decode c_R_nextBehind 67 = .ok (.iload 5, 2) := by decide +kernel
theorem d_R_nextBehind_69 : decode c_R_nextBehind 69 = .ok (.ifCond .eq 28, 3) := by decide +kernel
theorem d_R_nextBehind_72 : decode c_R_nextBehind 72 = .ok (.iload_n 3, 1) := by decide +kernel
theorem d_R_nextBehind_73 : decode c_R_nextBehind 73 = .ok (.ifCond .lt 19, 3) := by decide +kernel
theorem d_R_nextBehind_76 : decode c_R_nextBehind 76 = .ok (.aload_n 0, 1) := by decide +kernel
theorem d_R_nextBehind_77 : decode c_R_nextBehind 77 = .ok (.getfield 13, 3) := by decide +kernel
theorem d_R_nextBehind_80 : decode c_R_nextBehind 80 = .ok (.iload 4, 2) := by decide +kernel
theorem d_R_nextBehind_82 : decode c_R_nextBehind 82 = .ok (.iaload, 1) := by decide +kernel
theorem d_R_nextBehind_83 : decode c_R_nextBehind 83 = .ok (.aload_n 0, 1) := by decide +kernel
theorem d_R_nextBehind_84 : decode c_R_nextBehind 84 = .ok (.getfield 13, 3) := by decide +kernel
theorem d_R_nextBehind_87 : decode c_R_nextBehind 87 = .ok (.iload_n 3, 1) := by decide +kernel
theorem d_R_nextBehind_88 : decode c_R_nextBehind 88 = .ok (.iaload, 1) := by decide +kernel
theorem d_R_nextBehind_89 : decode c_R_nextBehind 89 = .ok (.if_icmp .le 8, 3) := by decide +kernel
theorem d_R_nextBehind_92 : decode c_R_nextBehind 92 = .ok (.iload 4, 2) := by decide +kernel
theorem d_R_nextBehind_94 : decode c_R_nextBehind 94 = .ok (.goto 4, 3) := by decide +kernel
theorem d_R_nextBehind_97 : decode c_R_nextBehind 97 = .ok (.iload_n 3, 1) := by decide +kernel
theorem d_R_nextBehind_98 : decode c_R_nextBehind 98 = .ok (.istore_n 3, 1) := by decide +kernel
theorem d_R_nextBehind_99 : decode c_R_nextBehind 99 = .ok (.iinc 4 1, 3) := by decide +kernel
theorem d_R_nextBehind_102 : decode c_R_nextBehind 102 = .ok (.goto (-97), 3) := by decide +kernel
theorem d_R_nextBehind_105 : decode c_R_nextBehind 105 = .ok (.iload_n 3, 1) := by decide +kernel
theorem d_R_nextBehind_106 : decode c_R_nextBehind 106 = .ok (.ireturn, 1) := by decide +kernel
theorem d_R_isGone_0 : decode c_R_isGone 0 = .ok (.iconst 0, 1) := by decide +kernel
theorem d_R_isGone_1 : decode c_R_isGone 1 = .ok (.istore_n 3, 1) := by decide +kernel
theorem d_R_isGone_2 : decode c_R_isGone 2 = .ok (.iconst 0, 1) := by decide +kernel
theorem d_R_isGone_3 : decode c_R_isGone 3 = .ok (.istore 4, 2) := by decide +kernel
theorem d_R_isGone_5 : decode c_R_isGone 5 = .ok (.iload 4, 2) := by decide +kernel
theorem d_R_isGone_7 : decode c_R_isGone 7 = .ok (.aload_n 0, 1) := by decide +kernel
theorem d_R_isGone_8 : decode c_R_isGone 8 = .ok (.getfield 55, 3) := by decide +kernel
theorem d_R_isGone_11 : decode c_R_isGone 11 = .ok (.if_icmp .ge 56, 3) := by decide +kernel
theorem d_R_isGone_14 : decode c_R_isGone 14 = .ok (.iload_n 3, 1) := by decide +kernel
theorem d_R_isGone_15 : decode c_R_isGone 15 = .ok (.ifCond .ne 40, 3) := by decide +kernel
theorem d_R_isGone_18 : decode c_R_isGone 18 = .ok (.aload_n 0, 1) := by decide +kernel
theorem d_R_isGone_19 : decode c_R_isGone 19 = .ok (.getfield 32, 3) := by decide +kernel
theorem d_R_isGone_22 : decode c_R_isGone 22 = .ok (.bipush 90, 2) := by decide +kernel
theorem d_R_isGone_24 : decode c_R_isGone 24 = .ok (.iload_n 1, 1) := by decide +kernel
theorem d_R_isGone_25 : decode c_R_isGone 25 = .ok (.imul, 1) := by decide +kernel
theorem d_R_isGone_26 : decode c_R_isGone 26 = .ok (.iload 4, 2) := by decide +kernel
theorem d_R_isGone_28 : decode c_R_isGone 28 = .ok (.iadd, 1) := by decide +kernel
theorem d_R_isGone_29 : decode c_R_isGone 29 = .ok (.baload, 1) := by decide +kernel
theorem d_R_isGone_30 : decode c_R_isGone 30 = .ok (.ifCond .eq 29, 3) := by decide +kernel
theorem d_R_isGone_33 : decode c_R_isGone 33 = .ok (.aload_n 0, 1) := by decide +kernel
theorem d_R_isGone_34 : decode c_R_isGone 34 = .ok (.getfield 7, 3) := by decide +kernel
theorem d_R_isGone_37 : decode c_R_isGone 37 = .ok (.iload 4, 2) := by decide +kernel
theorem d_R_isGone_39 : decode c_R_isGone 39 = .ok (.iaload, 1) := by decide +kernel
theorem d_R_isGone_40 : decode c_R_isGone 40 = .ok (.iconst 1, 1) := by decide +kernel
theorem d_R_isGone_41 : decode c_R_isGone 41 = .ok (.if_icmp .ne 18, 3) := by decide +kernel
theorem d_R_isGone_44 : decode c_R_isGone 44 = .ok (.aload_n 0, 1) := by decide +kernel
theorem d_R_isGone_45 : decode c_R_isGone 45 = .ok (.getfield 16, 3) := by decide +kernel
theorem d_R_isGone_48 : decode c_R_isGone 48 = .ok (.iload 4, 2) := by decide +kernel
theorem d_R_isGone_50 : decode c_R_isGone 50 = .ok (.iaload, 1) := by decide +kernel
theorem d_R_isGone_51 : decode c_R_isGone 51 = .ok (.iload_n 2, 1) := by decide +kernel
theorem d_R_isGone_52 : decode c_R_isGone 52 = .ok (.if_icmp .ne 7, 3) := by decide +kernel
theorem d_R_isGone_55 : decode c_R_isGone 55 = .ok (.iconst 1, 1) := by decide +kernel
theorem d_R_isGone_56 : decode c_R_isGone 56 = .ok (.goto 4, 3) := by decide +kernel
theorem d_R_isGone_59 : decode c_R_isGone 59 = .ok (.iconst 0, 1) := by decide +kernel
theorem d_R_isGone_60 : decode c_R_isGone 60 = .ok (.istore_n 3, 1) := by decide +kernel
theorem d_R_isGone_61 : decode c_R_isGone 61 = .ok (.iinc 4 1, 3) := by decide +kernel
theorem d_R_isGone_64 : decode c_R_isGone 64 = .ok (.goto (-59), 3) := by decide +kernel
theorem d_R_isGone_67 : decode c_R_isGone 67 = .ok (.iload_n 3, 1) := by decide +kernel
theorem d_R_isGone_68 : decode c_R_isGone 68 = .ok (.ireturn, 1) := by decide +kernel
theorem d_R_look_0 : decode c_R_look 0 = .ok (.iconst 0, 1) := by decide +kernel
theorem d_R_look_1 : decode c_R_look 1 = .ok (.istore_n 2, 1) := by decide +kernel
theorem d_R_look_2 : decode c_R_look 2 = .ok (.iload_n 2, 1) := by decide +kernel
theorem d_R_look_3 : decode c_R_look 3 = .ok (.aload_n 0, 1) := by decide +kernel
theorem d_R_look_4 : decode c_R_look 4 = .ok (.getfield 55, 3) := by decide +kernel
theorem d_R_look_7 : decode c_R_look 7 = .ok (.if_icmp .ge 23, 3) := by decide +kernel
theorem d_R_look_10 : decode c_R_look 10 = .ok (.aload_n 0, 1) := by decide +kernel
theorem d_R_look_11 : decode c_R_look 11 = .ok (.getfield 48, 3) := by decide +kernel
theorem d_R_look_14 : decode c_R_look 14 = .ok (.iload_n 2, 1) := by decide +kernel
theorem d_R_look_15 : decode c_R_look 15 = .ok (.iconst 0, 1) := by decide +kernel
theorem d_R_look_16 : decode c_R_look 16 = .ok (.bastore, 1) := by decide +kernel
theorem d_R_look_17 : decode c_R_look 17 = .ok (.aload_n 0, 1) := by decide +kernel
theorem d_R_look_18 : decode c_R_look 18 = .ok (.getfield 42, 3) := by decide +kernel
theorem d_R_look_21 : decode c_R_look 21 = .ok (.iload_n 2, 1) := by decide +kernel
theorem d_R_look_22 : decode c_R_look 22 = .ok (.iconst (-1), 1) := by decide +kernel
theorem d_R_look_23 : decode c_R_look 23 = .ok (.iastore, 1) := by decide +kernel
theorem d_R_look_24 : decode c_R_look 24 = .ok (.iinc 2 1, 3) := by decide +kernel
theorem d_R_look_27 : decode c_R_look 27 = .ok (.goto (-25), 3) := by decide +kernel
theorem d_R_look_30 : decode c_R_look 30 = .ok (.aload_n 0, 1) := by decide +kernel
theorem d_R_look_31 : decode c_R_look 31 = .ok (.iconst 0, 1) := by decide +kernel
theorem d_R_look_32 : decode c_R_look 32 = .ok (.putfield 58, 3) := by decide +kernel
theorem d_R_look_35 : decode c_R_look 35 = .ok (.aload_n 0, 1) := by decide +kernel
theorem d_R_look_36 : decode c_R_look 36 = .ok (.iconst 0, 1) := by decide +kernel
theorem d_R_look_37 : decode c_R_look 37 = .ok (.putfield 61, 3) := by decide +kernel
theorem d_R_look_40 : decode c_R_look 40 = .ok (.iconst (-1), 1) := by decide +kernel
theorem d_R_look_41 : decode c_R_look 41 = .ok (.istore_n 2, 1) := by decide +kernel
theorem d_R_look_42 : decode c_R_look 42 = .ok (.aload_n 0, 1) := by decide +kernel
theorem d_R_look_43 : decode c_R_look 43 = .ok (.iload_n 1, 1) := by decide +kernel
theorem d_R_look_44 : decode c_R_look 44 = .ok (.iload_n 2, 1) := by decide +kernel
theorem d_R_look_45 : decode c_R_look 45 = .ok (.invokevirtual 64, 3) := by decide +kernel
theorem d_R_look_48 : decode c_R_look 48 = .ok (.istore_n 3, 1) := by decide +kernel
theorem d_R_look_49 : decode c_R_look 49 = .ok (.iload_n 2, 1) := by decide +kernel
theorem d_R_look_50 : decode c_R_look 50 = .ok (.ifCond .ge 7, 3) := by decide +kernel
theorem d_R_look_53 : decode c_R_look 53 = .ok (.iload_n 3, 1) := by decide +kernel
theorem d_R_look_54 : decode c_R_look 54 = .ok (.ifCond .lt 95, 3) := by decide +kernel
theorem d_R_look_57 : decode c_R_look 57 = .ok (.iload_n 3, 1) := by decide +kernel
theorem d_R_look_58 : decode c_R_look 58 = .ok (.ifCond .ge 13, 3) := by decide +kernel
theorem d_R_look_61 : decode c_R_look 61 = .ok (.aload_n 0, 1) := by decide +kernel
theorem d_R_look_62 : decode c_R_look 62 = .ok (.getfield 16, 3) := by decide +kernel
theorem d_R_look_65 : decode c_R_look 65 = .ok (.iload_n 2, 1) := by decide +kernel
theorem d_R_look_66 : decode c_R_look 66 = .ok (.iaload, 1) := by decide +kernel
theorem d_R_look_67 : decode c_R_look 67 = .ok (.istore_n 2, 1) := by decide +kernel
theorem d_R_look_68 : decode c_R_look 68 = .ok (.goto 71, 3) := by decide +kernel
theorem d_R_look_71 : decode c_R_look 71 = .ok (.iload_n 3, 1) := by decide +kernel
theorem d_R_look_72 : decode c_R_look 72 = .ok (.istore_n 2, 1) := by decide +kernel
theorem d_R_look_73 : decode c_R_look 73 = .ok (.aload_n 0, 1) := by decide +kernel
theorem d_R_look_74 : decode c_R_look 74 = .ok (.getfield 48, 3) := by decide +kernel
theorem d_R_look_77 : decode c_R_look 77 = .ok (.iload_n 2, 1) := by decide +kernel
theorem d_R_look_78 : decode c_R_look 78 = .ok (.iconst 1, 1) := by decide +kernel
theorem d_R_look_79 : decode c_R_look 79 = .ok (.bastore, 1) := by decide +kernel
theorem d_R_look_80 : decode c_R_look 80 = .ok (.aload_n 0, 1) := by decide +kernel
theorem d_R_look_81 : decode c_R_look 81 = .ok (.getfield 42, 3) := by decide +kernel
theorem d_R_look_84 : decode c_R_look 84 = .ok (.iload_n 2, 1) := by decide +kernel
theorem d_R_look_85 : decode c_R_look 85 = .ok (.aload_n 0, 1) := by decide +kernel
theorem d_R_look_86 : decode c_R_look 86 = .ok (.getfield 58, 3) := by decide +kernel
theorem d_R_look_89 : decode c_R_look 89 = .ok (.iastore, 1) := by decide +kernel
theorem d_R_look_90 : decode c_R_look 90 = .ok (.aload_n 0, 1) := by decide +kernel
theorem d_R_look_91 : decode c_R_look 91 = .ok (.getfield 39, 3) := by decide +kernel
theorem d_R_look_94 : decode c_R_look 94 = .ok (.aload_n 0, 1) := by decide +kernel
theorem d_R_look_95 : decode c_R_look 95 = .ok (.getfield 58, 3) := by decide +kernel
theorem d_R_look_98 : decode c_R_look 98 = .ok (.iload_n 2, 1) := by decide +kernel
theorem d_R_look_99 : decode c_R_look 99 = .ok (.iastore, 1) := by decide +kernel
theorem d_R_look_100 : decode c_R_look 100 = .ok (.aload_n 0, 1) := by decide +kernel
theorem d_R_look_101 : decode c_R_look 101 = .ok (.dup, 1) := by decide +kernel
theorem d_R_look_102 : decode c_R_look 102 = .ok (.getfield 58, 3) := by decide +kernel
theorem d_R_look_105 : decode c_R_look 105 = .ok (.iconst 1, 1) := by decide +kernel
theorem d_R_look_106 : decode c_R_look 106 = .ok (.iadd, 1) := by decide +kernel
theorem d_R_look_107 : decode c_R_look 107 = .ok (.putfield 58, 3) := by decide +kernel
theorem d_R_look_110 : decode c_R_look 110 = .ok (.aload_n 0, 1) := by decide +kernel
theorem d_R_look_111 : decode c_R_look 111 = .ok (.iload_n 1, 1) := by decide +kernel
theorem d_R_look_112 : decode c_R_look 112 = .ok (.iload_n 2, 1) := by decide +kernel
theorem d_R_look_113 : decode c_R_look 113 = .ok (.invokevirtual 68, 3) := by decide +kernel
theorem d_R_look_116 : decode c_R_look 116 = .ok (.ifCond .ne 23, 3) := by decide +kernel
theorem d_R_look_119 : decode c_R_look 119 = .ok (.aload_n 0, 1) := by decide +kernel
theorem d_R_look_120 : decode c_R_look 120 = .ok (.getfield 45, 3) := by decide +kernel
theorem d_R_look_123 : decode c_R_look 123 = .ok (.aload_n 0, 1) := by decide +kernel
theorem d_R_look_124 : decode c_R_look 124 = .ok (.getfield 61, 3) := by decide +kernel
theorem d_R_look_127 : decode c_R_look 127 = .ok (.iload_n 2, 1) := by decide +kernel
theorem d_R_look_128 : decode c_R_look 128 = .ok (.iastore, 1) := by decide +kernel
theorem d_R_look_129 : decode c_R_look 129 = .ok (.aload_n 0, 1) := by decide +kernel
theorem d_R_look_130 : decode c_R_look 130 = .ok (.dup, 1) := by decide +kernel
theorem d_R_look_131 : decode c_R_look 131 = .ok (.getfield 61, 3) := by decide +kernel
theorem d_R_look_134 : decode c_R_look 134 = .ok (.iconst 1, 1) := by decide +kernel
theorem d_R_look_135 : decode c_R_look 135 = .ok (.iadd, 1) := by decide +kernel
theorem d_R_look_136 : decode c_R_look 136 = .ok (.putfield 61, 3) := by decide +kernel
theorem d_R_look_139 : decode c_R_look 139 = .ok (.aload_n 0, 1) := by decide +kernel
theorem d_R_look_140 : decode c_R_look 140 = .ok (.iload_n 1, 1) := by decide +kernel
theorem d_R_look_141 : decode c_R_look 141 = .ok (.iload_n 2, 1) := by decide +kernel
theorem d_R_look_142 : decode c_R_look 142 = .ok (.invokevirtual 64, 3) := by decide +kernel
theorem d_R_look_145 : decode c_R_look 145 = .ok (.istore_n 3, 1) := by decide +kernel
theorem d_R_look_146 : decode c_R_look 146 = .ok (.goto (-97), 3) := by decide +kernel
theorem d_R_look_149 : decode c_R_look 149 = .ok (.return_, 1) := by decide +kernel
theorem d_R_covers_0 : decode c_R_covers 0 = .ok (.aload_n 0, 1) := by decide +kernel
theorem d_R_covers_1 : decode c_R_covers 1 = .ok (.getfield 42, 3) := by decide +kernel
theorem d_R_covers_4 : decode c_R_covers 4 = .ok (.iload_n 2, 1) := by decide +kernel
theorem d_R_covers_5 : decode c_R_covers 5 = .ok (.iaload, 1) := by decide +kernel
theorem d_R_covers_6 : decode c_R_covers 6 = .ok (.istore_n 3, 1) := by decide +kernel
theorem d_R_covers_7 : decode c_R_covers 7 = .ok (.iload_n 3, 1) := by decide +kernel
theorem d_R_covers_8 : decode c_R_covers 8 = .ok (.aload_n 0, 1) := by decide +kernel
theorem d_R_covers_9 : decode c_R_covers 9 = .ok (.getfield 42, 3) := by decide +kernel
theorem d_R_covers_12 : decode c_R_covers 12 = .ok (.aload_n 0, 1) := by decide +kernel
theorem d_R_covers_13 : decode c_R_covers 13 = .ok (.getfield 16, 3) := by decide +kernel
theorem d_R_covers_16 : decode c_R_covers 16 = .ok (.iload_n 1, 1) := by decide +kernel
theorem d_R_covers_17 : decode c_R_covers 17 = .ok (.iaload, 1) := by decide +kernel
theorem d_R_covers_18 : decode c_R_covers 18 = .ok (.iaload, 1) := by decide +kernel
theorem d_R_covers_19 : decode c_R_covers 19 = .ok (.if_icmp .ge 5, 3) := by decide +kernel
theorem d_R_covers_22 : decode c_R_covers 22 = .ok (.iconst 0, 1) := by decide +kernel
theorem d_R_covers_23 : decode c_R_covers 23 = .ok (.ireturn, 1) := by decide +kernel
theorem d_R_covers_24 : decode c_R_covers 24 = .ok (.aload_n 0, 1) := by decide +kernel
theorem d_R_covers_25 : decode c_R_covers 25 = .ok (.getfield 19, 3) := by decide +kernel
theorem d_R_covers_28 : decode c_R_covers 28 = .ok (.iload_n 1, 1) := by decide +kernel
theorem d_R_covers_29 : decode c_R_covers 29 = .ok (.iaload, 1) := by decide +kernel
theorem d_R_covers_30 : decode c_R_covers 30 = .ok (.ifCond .ge 5, 3) := by decide +kernel
theorem d_R_covers_33 : decode c_R_covers 33 = .ok (.iconst 1, 1) := by decide +kernel
theorem d_R_covers_34 : decode c_R_covers 34 = .ok (.ireturn, 1) := by decide +kernel
theorem d_R_covers_35 : decode c_R_covers 35 = .ok (.aload_n 0, 1) := by decide +kernel
theorem d_R_covers_36 : decode c_R_covers 36 = .ok (.getfield 42, 3) := by decide +kernel
theorem d_R_covers_39 : decode c_R_covers 39 = .ok (.aload_n 0, 1) := by decide +kernel
theorem d_R_covers_40 : decode c_R_covers 40 = .ok (.getfield 19, 3) := by decide +kernel
theorem d_R_covers_43 : decode c_R_covers 43 = .ok (.iload_n 1, 1) := by decide +kernel
theorem d_R_covers_44 : decode c_R_covers 44 = .ok (.iaload, 1) := by decide +kernel
theorem d_R_covers_45 : decode c_R_covers 45 = .ok (.iaload, 1) := by decide +kernel
theorem d_R_covers_46 : decode c_R_covers 46 = .ok (.istore 4, 2) := by decide +kernel
theorem d_R_covers_48 : decode c_R_covers 48 = .ok (.aload_n 0, 1) := by decide +kernel
theorem d_R_covers_49 : decode c_R_covers 49 = .ok (.getfield 22, 3) := by decide +kernel
theorem d_R_covers_52 : decode c_R_covers 52 = .ok (.iload_n 1, 1) := by decide +kernel
theorem d_R_covers_53 : decode c_R_covers 53 = .ok (.iaload, 1) := by decide +kernel
theorem d_R_covers_54 : decode c_R_covers 54 = .ok (.iconst 4, 1) := by decide +kernel
theorem d_R_covers_55 : decode c_R_covers 55 = .ok (.if_icmp .ge 17, 3) := by decide +kernel
theorem d_R_covers_58 : decode c_R_covers 58 = .ok (.iload_n 3, 1) := by decide +kernel
theorem d_R_covers_59 : decode c_R_covers 59 = .ok (.iload 4, 2) := by decide +kernel
theorem d_R_covers_61 : decode c_R_covers 61 = .ok (.if_icmp .ge 7, 3) := by decide +kernel
theorem d_R_covers_64 : decode c_R_covers 64 = .ok (.iconst 1, 1) := by decide +kernel
theorem d_R_covers_65 : decode c_R_covers 65 = .ok (.goto 18, 3) := by decide +kernel
theorem d_R_covers_68 : decode c_R_covers 68 = .ok (.iconst 0, 1) := by decide +kernel
theorem d_R_covers_69 : decode c_R_covers 69 = .ok (.goto 14, 3) := by decide +kernel
theorem d_R_covers_72 : decode c_R_covers 72 = .ok (.iload_n 3, 1) := by decide +kernel
theorem d_R_covers_73 : decode c_R_covers 73 = .ok (.iload 4, 2) := by decide +kernel
theorem d_R_covers_75 : decode c_R_covers 75 = .ok (.if_icmp .gt 7, 3) := by decide +kernel
theorem d_R_covers_78 : decode c_R_covers 78 = .ok (.iconst 1, 1) := by decide +kernel
theorem d_R_covers_79 : decode c_R_covers 79 = .ok (.goto 4, 3) := by decide +kernel
theorem d_R_covers_82 : decode c_R_covers 82 = .ok (.iconst 0, 1) := by decide +kernel
theorem d_R_covers_83 : decode c_R_covers 83 = .ok (.ireturn, 1) := by decide +kernel
theorem d_R_formatOf_0 : decode c_R_formatOf 0 = .ok (.iconst 0, 1) := by decide +kernel
theorem d_R_formatOf_1 : decode c_R_formatOf 1 = .ok (.istore_n 3, 1) := by decide +kernel
theorem d_R_formatOf_2 : decode c_R_formatOf 2 = .ok (.iconst 0, 1) := by decide +kernel
theorem d_R_formatOf_3 : decode c_R_formatOf 3 = .ok (.istore 4, 2) := by decide +kernel
theorem d_R_formatOf_5 : decode c_R_formatOf 5 = .ok (.iload 4, 2) := by decide +kernel
theorem d_R_formatOf_7 : decode c_R_formatOf 7 = .ok (.iconst 4, 1) := by decide +kernel
theorem d_R_formatOf_8 : decode c_R_formatOf 8 = .ok (.if_icmp .ge 152, 3) := by decide +kernel
theorem d_R_formatOf_11 : decode c_R_formatOf 11 = .ok (.iconst (-1), 1) := by decide +kernel
theorem d_R_formatOf_12 : decode c_R_formatOf 12 = .ok (.istore 5, 2) := by decide +kernel
theorem d_R_formatOf_14 : decode c_R_formatOf 14 = .ok (.iconst 0, 1) := by decide +kernel
theorem d_R_formatOf_15 : decode c_R_formatOf 15 = .ok (.istore 6, 2) := by decide +kernel
theorem d_R_formatOf_17 : decode c_R_formatOf 17 = .ok (.iload 6, 2) := by decide +kernel
theorem d_R_formatOf_19 : decode c_R_formatOf 19 = .ok (.aload_n 0, 1) := by decide +kernel
theorem d_R_formatOf_20 : decode c_R_formatOf 20 = .ok (.getfield 55, 3) := by decide +kernel
theorem d_R_formatOf_23 : decode c_R_formatOf 23 = .ok (.if_icmp .ge 102, 3) := by decide +kernel
theorem d_R_formatOf_26 : decode c_R_formatOf 26 = .ok (.aload_n 0, 1) := by decide +kernel
theorem d_R_formatOf_27 : decode c_R_formatOf 27 = .ok (.getfield 32, 3) := by decide +kernel
theorem d_R_formatOf_30 : decode c_R_formatOf 30 = .ok (.bipush 90, 2) := by decide +kernel
theorem d_R_formatOf_32 : decode c_R_formatOf 32 = .ok (.iload_n 1, 1) := by decide +kernel
theorem d_R_formatOf_33 : decode c_R_formatOf 33 = .ok (.imul, 1) := by decide +kernel
theorem d_R_formatOf_34 : decode c_R_formatOf 34 = .ok (.iload 6, 2) := by decide +kernel
theorem d_R_formatOf_36 : decode c_R_formatOf 36 = .ok (.iadd, 1) := by decide +kernel
theorem d_R_formatOf_37 : decode c_R_formatOf 37 = .ok (.baload, 1) := by decide +kernel
theorem d_R_formatOf_38 : decode c_R_formatOf 38 = .ok (.ifCond .eq 32, 3) := by decide +kernel
theorem d_R_formatOf_41 : decode c_R_formatOf 41 = .ok (.aload_n 0, 1) := by decide +kernel
theorem d_R_formatOf_42 : decode c_R_formatOf 42 = .ok (.getfield 7, 3) := by decide +kernel
theorem d_R_formatOf_45 : decode c_R_formatOf 45 = .ok (.iload 6, 2) := by decide +kernel
theorem d_R_formatOf_47 : decode c_R_formatOf 47 = .ok (.iaload, 1) := by decide +kernel
theorem d_R_formatOf_48 : decode c_R_formatOf 48 = .ok (.iconst 2, 1) := by decide +kernel
theorem d_R_formatOf_49 : decode c_R_formatOf 49 = .ok (.if_icmp .ne 21, 3) := by decide +kernel
theorem d_R_formatOf_52 : decode c_R_formatOf 52 = .ok (.aload_n 0, 1) := by decide +kernel
theorem d_R_formatOf_53 : decode c_R_formatOf 53 = .ok (.getfield 22, 3) := by decide +kernel
theorem d_R_formatOf_56 : decode c_R_formatOf 56 = .ok (.iload 6, 2) := by decide +kernel
theorem d_R_formatOf_58 : decode c_R_formatOf 58 = .ok (.iaload, 1) := by decide +kernel
theorem d_R_formatOf_59 : decode c_R_formatOf 59 = .ok (.iconst 2, 1) := by decide +kernel
theorem d_R_formatOf_60 : decode c_R_formatOf 60 = .ok (.idiv, 1) := by decide +kernel
theorem d_R_formatOf_61 : decode c_R_formatOf 61 = .ok (.iload 4, 2) := by decide +kernel
theorem d_R_formatOf_63 : decode c_R_formatOf 63 = .ok (.if_icmp .ne 7, 3) := by decide +kernel
theorem d_R_formatOf_66 : decode c_R_formatOf 66 = .ok (.iconst 1, 1) := by decide +kernel
theorem d_R_formatOf_67 : decode c_R_formatOf 67 = .ok (.goto 4, 3) := by decide +kernel
theorem d_R_formatOf_70 : decode c_R_formatOf 70 = .ok (.iconst 0, 1) := by decide +kernel
theorem d_R_formatOf_71 : decode c_R_formatOf 71 = .ok (.istore 7, 2) := by decide +kernel
theorem d_R_formatOf_73 : decode c_R_formatOf 73 = .ok (.iload 7, 2) := by decide +kernel
theorem d_R_formatOf_75 : decode c_R_formatOf 75 = .ok (.ifCond .eq 40, 3) := by decide +kernel
theorem d_R_formatOf_78 : decode c_R_formatOf 78 = .ok (.aload_n 0, 1) := by decide +kernel
theorem d_R_formatOf_79 : decode c_R_formatOf 79 = .ok (.iload 6, 2) := by decide +kernel
theorem d_R_formatOf_81 : decode c_R_formatOf 81 = .ok (.iload_n 2, 1) := by decide +kernel
theorem d_R_formatOf_82 : decode c_R_formatOf 82 = .ok (.invokevirtual 72, 3) := by decide +kernel
theorem d_R_formatOf_85 : decode c_R_formatOf 85 = .ok (.ifCond .eq 30, 3) := by decide +kernel
theorem d_R_formatOf_88 : decode c_R_formatOf 88 = .ok (.iload 5, 2) := by decide +kernel
theorem d_R_formatOf_90 : decode c_R_formatOf 90 = .ok (.ifCond .lt 20, 3) := by decide +kernel
theorem d_R_formatOf_93 : decode c_R_formatOf 93 = .ok (.aload_n 0, 1) := by decide +kernel
theorem d_R_formatOf_94 : decode c_R_formatOf 94 = .ok (.getfield 13, 3) := by decide +kernel
theorem d_R_formatOf_97 : decode c_R_formatOf 97 = .ok (.iload 6, 2) := by decide +kernel
theorem d_R_formatOf_99 : decode c_R_formatOf 99 = .ok (.iaload, 1) := by decide +kernel
theorem d_R_formatOf_100 : decode c_R_formatOf 100 = .ok (.aload_n 0, 1) := by decide +kernel
theorem d_R_formatOf_101 : decode c_R_formatOf 101 = .ok (.getfield 13, 3) := by decide +kernel
theorem d_R_formatOf_104 : decode c_R_formatOf 104 = .ok (.iload 5, 2) := by decide +kernel
theorem d_R_formatOf_106 : decode c_R_formatOf 106 = .ok (.iaload, 1) := by decide +kernel
theorem d_R_formatOf_107 : decode c_R_formatOf 107 = .ok (.if_icmp .le 8, 3) := by decide +kernel
theorem d_R_formatOf_110 : decode c_R_formatOf 110 = .ok (.iload 6, 2) := by decide +kernel
theorem d_R_formatOf_112 : decode c_R_formatOf 112 = .ok (.goto 5, 3) := by decide +kernel
theorem d_R_formatOf_115 : decode c_R_formatOf 115 = .ok (.iload 5, 2) := by decide +kernel
theorem d_R_formatOf_117 : decode c_R_formatOf 117 = .ok (.istore 5, 2) := by decide +kernel
theorem d_R_formatOf_119 : decode c_R_formatOf 119 = .ok (.iinc 6 1, 3) := by decide +kernel
theorem d_R_formatOf_122 : decode c_R_formatOf 122 = .ok (.goto (-105), 3) := by decide +kernel
theorem d_R_formatOf_125 : decode c_R_formatOf 125 = .ok (.iload_n 3, 1) := by decide +kernel
theorem d_R_formatOf_126 : decode c_R_formatOf 126 = .ok (.iload 5, 2) := by decide +kernel
theorem d_R_formatOf_128 : decode c_R_formatOf 128 = .ok (.ifCond .lt 23, 3) := by decide +kernel
theorem d_R_formatOf_131 : decode c_R_formatOf 131 = .ok (.aload_n 0, 1) := by decide +kernel
theorem d_R_formatOf_132 : decode c_R_formatOf 132 = .ok (.getfield 22, 3) := by decide +kernel
theorem d_R_formatOf_135 : decode c_R_formatOf 135 = .ok (.iload 5, 2) := by decide +kernel
theorem d_R_formatOf_137 : decode c_R_formatOf 137 = .ok (.iaload, 1) := by decide +kernel
theorem d_R_formatOf_138 : decode c_R_formatOf 138 = .ok (.iconst 2, 1) := by decide +kernel
theorem d_R_formatOf_139 : decode c_R_formatOf 139 = .ok (.irem, 1) := by decide +kernel
theorem d_R_formatOf_140 : decode c_R_formatOf 140 = .ok (.iconst 1, 1) := by decide +kernel
theorem d_R_formatOf_141 : decode c_R_formatOf 141 = .ok (.if_icmp .ne 10, 3) := by decide +kernel
theorem d_R_formatOf_144 : decode c_R_formatOf 144 = .ok (.iconst 1, 1) := by decide +kernel
theorem d_R_formatOf_145 : decode c_R_formatOf 145 = .ok (.iload 4, 2) := by decide +kernel
theorem d_R_formatOf_147 : decode c_R_formatOf 147 = .ok (.ishl, 1) := by decide +kernel
theorem d_R_formatOf_148 : decode c_R_formatOf 148 = .ok (.goto 4, 3) := by decide +kernel
theorem d_R_formatOf_151 : decode c_R_formatOf 151 = .ok (.iconst 0, 1) := by decide +kernel
theorem d_R_formatOf_152 : decode c_R_formatOf 152 = .ok (.iadd, 1) := by decide +kernel
theorem d_R_formatOf_153 : decode c_R_formatOf 153 = .ok (.istore_n 3, 1) := by decide +kernel
theorem d_R_formatOf_154 : decode c_R_formatOf 154 = .ok (.iinc 4 1, 3) := by decide +kernel
theorem d_R_formatOf_157 : decode c_R_formatOf 157 = .ok (.goto (-152), 3) := by decide +kernel
theorem d_R_formatOf_160 : decode c_R_formatOf 160 = .ok (.iload_n 3, 1) := by decide +kernel
theorem d_R_formatOf_161 : decode c_R_formatOf 161 = .ok (.ireturn, 1) := by decide +kernel
theorem d_R_greatest_0 : decode c_R_greatest 0 = .ok (.iconst 0, 1) := by decide +kernel
theorem d_R_greatest_1 : decode c_R_greatest 1 = .ok (.istore_n 2, 1) := by decide +kernel
theorem d_R_greatest_2 : decode c_R_greatest 2 = .ok (.iconst 0, 1) := by decide +kernel
theorem d_R_greatest_3 : decode c_R_greatest 3 = .ok (.istore_n 3, 1) := by decide +kernel
theorem d_R_greatest_4 : decode c_R_greatest 4 = .ok (.iload_n 3, 1) := by decide +kernel
theorem d_R_greatest_5 : decode c_R_greatest 5 = .ok (.aload_n 0, 1) := by decide +kernel
theorem d_R_greatest_6 : decode c_R_greatest 6 = .ok (.getfield 55, 3) := by decide +kernel
theorem d_R_greatest_9 : decode c_R_greatest 9 = .ok (.if_icmp .ge 48, 3) := by decide +kernel
theorem d_R_greatest_12 : decode c_R_greatest 12 = .ok (.aload_n 0, 1) := by decide +kernel
theorem d_R_greatest_13 : decode c_R_greatest 13 = .ok (.getfield 32, 3) := by decide +kernel
theorem d_R_greatest_16 : decode c_R_greatest 16 = .ok (.bipush 90, 2) := by decide +kernel
theorem d_R_greatest_18 : decode c_R_greatest 18 = .ok (.iload_n 1, 1) := by decide +kernel
theorem d_R_greatest_19 : decode c_R_greatest 19 = .ok (.imul, 1) := by decide +kernel
theorem d_R_greatest_20 : decode c_R_greatest 20 = .ok (.iload_n 3, 1) := by decide +kernel
theorem d_R_greatest_21 : decode c_R_greatest 21 = .ok (.iadd, 1) := by decide +kernel
theorem d_R_greatest_22 : decode c_R_greatest 22 = .ok (.baload, 1) := by decide +kernel
theorem d_R_greatest_23 : decode c_R_greatest 23 = .ok (.ifCond .eq 26, 3) := by decide +kernel
theorem d_R_greatest_26 : decode c_R_greatest 26 = .ok (.aload_n 0, 1) := by decide +kernel
theorem d_R_greatest_27 : decode c_R_greatest 27 = .ok (.getfield 13, 3) := by decide +kernel
theorem d_R_greatest_30 : decode c_R_greatest 30 = .ok (.iload_n 3, 1) := by decide +kernel
theorem d_R_greatest_31 : decode c_R_greatest 31 = .ok (.iaload, 1) := by decide +kernel
theorem d_R_greatest_32 : decode c_R_greatest 32 = .ok (.iconst 4, 1) := by decide +kernel
theorem d_R_greatest_33 : decode c_R_greatest 33 = .ok (.idiv, 1) := by decide +kernel
theorem d_R_greatest_34 : decode c_R_greatest 34 = .ok (.iload_n 2, 1) := by decide +kernel
theorem d_R_greatest_35 : decode c_R_greatest 35 = .ok (.if_icmp .le 14, 3) := by decide +kernel
theorem d_R_greatest_38 : decode c_R_greatest 38 = .ok (.aload_n 0, 1) := by decide +kernel
theorem d_R_greatest_39 : decode c_R_greatest 39 = .ok (.getfield 13, 3) := by decide +kernel
theorem d_R_greatest_42 : decode c_R_greatest 42 = .ok (.iload_n 3, 1) := by decide +kernel
theorem d_R_greatest_43 : decode c_R_greatest 43 = .ok (.iaload, 1) := by decide +kernel
theorem d_R_greatest_44 : decode c_R_greatest 44 = .ok (.iconst 4, 1) := by decide +kernel
theorem d_R_greatest_45 : decode c_R_greatest 45 = .ok (.idiv, 1) := by decide +kernel
theorem d_R_greatest_46 : decode c_R_greatest 46 = .ok (.goto 4, 3) := by decide +kernel
theorem d_R_greatest_49 : decode c_R_greatest 49 = .ok (.iload_n 2, 1) := by decide +kernel
theorem d_R_greatest_50 : decode c_R_greatest 50 = .ok (.istore_n 2, 1) := by decide +kernel
theorem d_R_greatest_51 : decode c_R_greatest 51 = .ok (.iinc 3 1, 3) := by decide +kernel
theorem d_R_greatest_54 : decode c_R_greatest 54 = .ok (.goto (-50), 3) := by decide +kernel
theorem d_R_greatest_57 : decode c_R_greatest 57 = .ok (.iload_n 2, 1) := by decide +kernel
theorem d_R_greatest_58 : decode c_R_greatest 58 = .ok (.ireturn, 1) := by decide +kernel
theorem d_R_learn_0 : decode c_R_learn 0 = .ok (.aload_n 0, 1) := by decide +kernel
theorem d_R_learn_1 : decode c_R_learn 1 = .ok (.getfield 29, 3) := by decide +kernel
theorem d_R_learn_4 : decode c_R_learn 4 = .ok (.bipush 90, 2) := by decide +kernel
theorem d_R_learn_6 : decode c_R_learn 6 = .ok (.iload_n 1, 1) := by decide +kernel
theorem d_R_learn_7 : decode c_R_learn 7 = .ok (.imul, 1) := by decide +kernel
theorem d_R_learn_8 : decode c_R_learn 8 = .ok (.aload_n 0, 1) := by decide +kernel
theorem d_R_learn_9 : decode c_R_learn 9 = .ok (.getfield 36, 3) := by decide +kernel
theorem d_R_learn_12 : decode c_R_learn 12 = .ok (.iload_n 1, 1) := by decide +kernel
theorem d_R_learn_13 : decode c_R_learn 13 = .ok (.iaload, 1) := by decide +kernel
theorem d_R_learn_14 : decode c_R_learn 14 = .ok (.iadd, 1) := by decide +kernel
theorem d_R_learn_15 : decode c_R_learn 15 = .ok (.iload_n 2, 1) := by decide +kernel
theorem d_R_learn_16 : decode c_R_learn 16 = .ok (.iastore, 1) := by decide +kernel
theorem d_R_learn_17 : decode c_R_learn 17 = .ok (.aload_n 0, 1) := by decide +kernel
theorem d_R_learn_18 : decode c_R_learn 18 = .ok (.getfield 36, 3) := by decide +kernel
theorem d_R_learn_21 : decode c_R_learn 21 = .ok (.iload_n 1, 1) := by decide +kernel
theorem d_R_learn_22 : decode c_R_learn 22 = .ok (.dup2, 1) := by decide +kernel
theorem d_R_learn_23 : decode c_R_learn 23 = .ok (.iaload, 1) := by decide +kernel
theorem d_R_learn_24 : decode c_R_learn 24 = .ok (.iconst 1, 1) := by decide +kernel
theorem d_R_learn_25 : decode c_R_learn 25 = .ok (.iadd, 1) := by decide +kernel
theorem d_R_learn_26 : decode c_R_learn 26 = .ok (.iastore, 1) := by decide +kernel
theorem d_R_learn_27 : decode c_R_learn 27 = .ok (.aload_n 0, 1) := by decide +kernel
theorem d_R_learn_28 : decode c_R_learn 28 = .ok (.getfield 32, 3) := by decide +kernel
theorem d_R_learn_31 : decode c_R_learn 31 = .ok (.bipush 90, 2) := by decide +kernel
theorem d_R_learn_33 : decode c_R_learn 33 = .ok (.iload_n 1, 1) := by decide +kernel
theorem d_R_learn_34 : decode c_R_learn 34 = .ok (.imul, 1) := by decide +kernel
theorem d_R_learn_35 : decode c_R_learn 35 = .ok (.iload_n 2, 1) := by decide +kernel
theorem d_R_learn_36 : decode c_R_learn 36 = .ok (.iadd, 1) := by decide +kernel
theorem d_R_learn_37 : decode c_R_learn 37 = .ok (.iconst 1, 1) := by decide +kernel
theorem d_R_learn_38 : decode c_R_learn 38 = .ok (.bastore, 1) := by decide +kernel
theorem d_R_learn_39 : decode c_R_learn 39 = .ok (.return_, 1) := by decide +kernel
theorem d_R_make_0 : decode c_R_make 0 = .ok (.iconst 1, 1) := by decide +kernel
theorem d_R_make_1 : decode c_R_make 1 = .ok (.aload_n 0, 1) := by decide +kernel
theorem d_R_make_2 : decode c_R_make 2 = .ok (.iload_n 1, 1) := by decide +kernel
theorem d_R_make_3 : decode c_R_make 3 = .ok (.invokevirtual 75, 3) := by decide +kernel
theorem d_R_make_6 : decode c_R_make 6 = .ok (.iadd, 1) := by decide +kernel
theorem d_R_make_7 : decode c_R_make 7 = .ok (.istore 6, 2) := by decide +kernel
theorem d_R_make_9 : decode c_R_make 9 = .ok (.aload_n 0, 1) := by decide +kernel
theorem d_R_make_10 : decode c_R_make 10 = .ok (.getfield 7, 3) := by decide +kernel
theorem d_R_make_13 : decode c_R_make 13 = .ok (.aload_n 0, 1) := by decide +kernel
theorem d_R_make_14 : decode c_R_make 14 = .ok (.getfield 55, 3) := by decide +kernel
theorem d_R_make_17 : decode c_R_make 17 = .ok (.iload_n 2, 1) := by decide +kernel
theorem d_R_make_18 : decode c_R_make 18 = .ok (.iastore, 1) := by decide +kernel
theorem d_R_make_19 : decode c_R_make 19 = .ok (.aload_n 0, 1) := by decide +kernel
theorem d_R_make_20 : decode c_R_make 20 = .ok (.getfield 13, 3) := by decide +kernel
theorem d_R_make_23 : decode c_R_make 23 = .ok (.aload_n 0, 1) := by decide +kernel
theorem d_R_make_24 : decode c_R_make 24 = .ok (.getfield 55, 3) := by decide +kernel
theorem d_R_make_27 : decode c_R_make 27 = .ok (.iconst 4, 1) := by decide +kernel
theorem d_R_make_28 : decode c_R_make 28 = .ok (.iload 6, 2) := by decide +kernel
theorem d_R_make_30 : decode c_R_make 30 = .ok (.imul, 1) := by decide +kernel
theorem d_R_make_31 : decode c_R_make 31 = .ok (.iload_n 1, 1) := by decide +kernel
theorem d_R_make_32 : decode c_R_make 32 = .ok (.iadd, 1) := by decide +kernel
theorem d_R_make_33 : decode c_R_make 33 = .ok (.iastore, 1) := by decide +kernel
theorem d_R_make_34 : decode c_R_make 34 = .ok (.aload_n 0, 1) := by decide +kernel
theorem d_R_make_35 : decode c_R_make 35 = .ok (.getfield 16, 3) := by decide +kernel
theorem d_R_make_38 : decode c_R_make 38 = .ok (.aload_n 0, 1) := by decide +kernel
theorem d_R_make_39 : decode c_R_make 39 = .ok (.getfield 55, 3) := by decide +kernel
theorem d_R_make_42 : decode c_R_make 42 = .ok (.iload_n 3, 1) := by decide +kernel
theorem d_R_make_43 : decode c_R_make 43 = .ok (.iastore, 1) := by decide +kernel
theorem d_R_make_44 : decode c_R_make 44 = .ok (.aload_n 0, 1) := by decide +kernel
theorem d_R_make_45 : decode c_R_make 45 = .ok (.getfield 19, 3) := by decide +kernel
theorem d_R_make_48 : decode c_R_make 48 = .ok (.aload_n 0, 1) := by decide +kernel
theorem d_R_make_49 : decode c_R_make 49 = .ok (.getfield 55, 3) := by decide +kernel
theorem d_R_make_52 : decode c_R_make 52 = .ok (.iload 4, 2) := by decide +kernel
theorem d_R_make_54 : decode c_R_make 54 = .ok (.iastore, 1) := by decide +kernel
theorem d_R_make_55 : decode c_R_make 55 = .ok (.aload_n 0, 1) := by decide +kernel
theorem d_R_make_56 : decode c_R_make 56 = .ok (.getfield 22, 3) := by decide +kernel
theorem d_R_make_59 : decode c_R_make 59 = .ok (.aload_n 0, 1) := by decide +kernel
theorem d_R_make_60 : decode c_R_make 60 = .ok (.getfield 55, 3) := by decide +kernel
theorem d_R_make_63 : decode c_R_make 63 = .ok (.iload 5, 2) := by decide +kernel
theorem d_R_make_65 : decode c_R_make 65 = .ok (.iastore, 1) := by decide +kernel
theorem d_R_make_66 : decode c_R_make 66 = .ok (.aload_n 0, 1) := by decide +kernel
theorem d_R_make_67 : decode c_R_make 67 = .ok (.dup, 1) := by decide +kernel
theorem d_R_make_68 : decode c_R_make 68 = .ok (.getfield 55, 3) := by decide +kernel
theorem d_R_make_71 : decode c_R_make 71 = .ok (.iconst 1, 1) := by decide +kernel
theorem d_R_make_72 : decode c_R_make 72 = .ok (.iadd, 1) := by decide +kernel
theorem d_R_make_73 : decode c_R_make 73 = .ok (.putfield 55, 3) := by decide +kernel
theorem d_R_make_76 : decode c_R_make 76 = .ok (.aload_n 0, 1) := by decide +kernel
theorem d_R_make_77 : decode c_R_make 77 = .ok (.iload_n 1, 1) := by decide +kernel
theorem d_R_make_78 : decode c_R_make 78 = .ok (.aload_n 0, 1) := by decide +kernel
theorem d_R_make_79 : decode c_R_make 79 = .ok (.getfield 55, 3) := by decide +kernel
theorem d_R_make_82 : decode c_R_make 82 = .ok (.iconst 1, 1) := by decide +kernel
theorem d_R_make_83 : decode c_R_make 83 = .ok (.isub, 1) := by decide +kernel
theorem d_R_make_84 : decode c_R_make 84 = .ok (.invokevirtual 79, 3) := by decide +kernel
theorem d_R_make_87 : decode c_R_make 87 = .ok (.iload 6, 2) := by decide +kernel
theorem d_R_make_89 : decode c_R_make 89 = .ok (.ireturn, 1) := by decide +kernel
theorem d_R_write_0 : decode c_R_write 0 = .ok (.aload_n 0, 1) := by decide +kernel
theorem d_R_write_1 : decode c_R_write 1 = .ok (.iload_n 1, 1) := by decide +kernel
theorem d_R_write_2 : decode c_R_write 2 = .ok (.invokestatic 83, 3) := by decide +kernel
theorem d_R_write_5 : decode c_R_write 5 = .ok (.ifCond .eq 7, 3) := by decide +kernel
theorem d_R_write_8 : decode c_R_write 8 = .ok (.iconst 0, 1) := by decide +kernel
theorem d_R_write_9 : decode c_R_write 9 = .ok (.goto 4, 3) := by decide +kernel
theorem d_R_write_12 : decode c_R_write 12 = .ok (.iconst 1, 1) := by decide +kernel
theorem d_R_write_13 : decode c_R_write 13 = .ok (.putfield 51, 3) := by decide +kernel
theorem d_R_write_16 : decode c_R_write 16 = .ok (.aload_n 0, 1) := by decide +kernel
theorem d_R_write_17 : decode c_R_write 17 = .ok (.getfield 51, 3) := by decide +kernel
theorem d_R_write_20 : decode c_R_write 20 = .ok (.ifCond .le 5, 3) := by decide +kernel
theorem d_R_write_23 : decode c_R_write 23 = .ok (.iconst 0, 1) := by decide +kernel
theorem d_R_write_24 : decode c_R_write 24 = .ok (.ireturn, 1) := by decide +kernel
theorem d_R_write_25 : decode c_R_write 25 = .ok (.aload_n 0, 1) := by decide +kernel
theorem d_R_write_26 : decode c_R_write 26 = .ok (.iload_n 1, 1) := by decide +kernel
theorem d_R_write_27 : decode c_R_write 27 = .ok (.invokevirtual 87, 3) := by decide +kernel
theorem d_R_write_30 : decode c_R_write 30 = .ok (.aload_n 0, 1) := by decide +kernel
theorem d_R_write_31 : decode c_R_write 31 = .ok (.iload_n 2, 1) := by decide +kernel
theorem d_R_write_32 : decode c_R_write 32 = .ok (.ifCond .lt 11, 3) := by decide +kernel
theorem d_R_write_35 : decode c_R_write 35 = .ok (.iload_n 2, 1) := by decide +kernel
theorem d_R_write_36 : decode c_R_write 36 = .ok (.aload_n 0, 1) := by decide +kernel
theorem d_R_write_37 : decode c_R_write 37 = .ok (.getfield 61, 3) := by decide +kernel
theorem d_R_write_40 : decode c_R_write 40 = .ok (.if_icmp .le 7, 3) := by decide +kernel
theorem d_R_write_43 : decode c_R_write 43 = .ok (.iconst 2, 1) := by decide +kernel
theorem d_R_write_44 : decode c_R_write 44 = .ok (.goto 17, 3) := by decide +kernel
theorem d_R_write_47 : decode c_R_write 47 = .ok (.aload_n 0, 1) := by decide +kernel
theorem d_R_write_48 : decode c_R_write 48 = .ok (.getfield 55, 3) := by decide +kernel
theorem d_R_write_51 : decode c_R_write 51 = .ok (.bipush 90, 2) := by decide +kernel
theorem d_R_write_53 : decode c_R_write 53 = .ok (.if_icmp .ne 7, 3) := by decide +kernel
theorem d_R_write_56 : decode c_R_write 56 = .ok (.iconst 3, 1) := by decide +kernel
theorem d_R_write_57 : decode c_R_write 57 = .ok (.goto 4, 3) := by decide +kernel
theorem d_R_write_60 : decode c_R_write 60 = .ok (.iconst 0, 1) := by decide +kernel
theorem d_R_write_61 : decode c_R_write 61 = .ok (.putfield 51, 3) := by decide +kernel
theorem d_R_write_64 : decode c_R_write 64 = .ok (.aload_n 0, 1) := by decide +kernel
theorem d_R_write_65 : decode c_R_write 65 = .ok (.getfield 51, 3) := by decide +kernel
theorem d_R_write_68 : decode c_R_write 68 = .ok (.ifCond .le 5, 3) := by decide +kernel
theorem d_R_write_71 : decode c_R_write 71 = .ok (.iconst 0, 1) := by decide +kernel
theorem d_R_write_72 : decode c_R_write 72 = .ok (.ireturn, 1) := by decide +kernel
theorem d_R_write_73 : decode c_R_write 73 = .ok (.aload_n 0, 1) := by decide +kernel
theorem d_R_write_74 : decode c_R_write 74 = .ok (.getfield 25, 3) := by decide +kernel
theorem d_R_write_77 : decode c_R_write 77 = .ok (.aload_n 0, 1) := by decide +kernel
theorem d_R_write_78 : decode c_R_write 78 = .ok (.getfield 55, 3) := by decide +kernel
theorem d_R_write_81 : decode c_R_write 81 = .ok (.iload_n 3, 1) := by decide +kernel
theorem d_R_write_82 : decode c_R_write 82 = .ok (.castore, 1) := by decide +kernel
theorem d_R_write_83 : decode c_R_write 83 = .ok (.aload_n 0, 1) := by decide +kernel
theorem d_R_write_84 : decode c_R_write 84 = .ok (.iload_n 1, 1) := by decide +kernel
theorem d_R_write_85 : decode c_R_write 85 = .ok (.iconst 0, 1) := by decide +kernel
theorem d_R_write_86 : decode c_R_write 86 = .ok (.iload_n 2, 1) := by decide +kernel
theorem d_R_write_87 : decode c_R_write 87 = .ok (.ifCond .ne 7, 3) := by decide +kernel
theorem d_R_write_90 : decode c_R_write 90 = .ok (.iconst (-1), 1) := by decide +kernel
theorem d_R_write_91 : decode c_R_write 91 = .ok (.goto 11, 3) := by decide +kernel
theorem d_R_write_94 : decode c_R_write 94 = .ok (.aload_n 0, 1) := by decide +kernel
theorem d_R_write_95 : decode c_R_write 95 = .ok (.getfield 45, 3) := by decide +kernel
theorem d_R_write_98 : decode c_R_write 98 = .ok (.iload_n 2, 1) := by decide +kernel
theorem d_R_write_99 : decode c_R_write 99 = .ok (.iconst 1, 1) := by decide +kernel
theorem d_R_write_100 : decode c_R_write 100 = .ok (.isub, 1) := by decide +kernel
theorem d_R_write_101 : decode c_R_write 101 = .ok (.iaload, 1) := by decide +kernel
theorem d_R_write_102 : decode c_R_write 102 = .ok (.iconst (-1), 1) := by decide +kernel
theorem d_R_write_103 : decode c_R_write 103 = .ok (.iconst 0, 1) := by decide +kernel
theorem d_R_write_104 : decode c_R_write 104 = .ok (.invokevirtual 91, 3) := by decide +kernel
theorem d_R_write_107 : decode c_R_write 107 = .ok (.ireturn, 1) := by decide +kernel
theorem d_R_erase_0 : decode c_R_erase 0 = .ok (.aload_n 0, 1) := by decide +kernel
theorem d_R_erase_1 : decode c_R_erase 1 = .ok (.iload_n 1, 1) := by decide +kernel
theorem d_R_erase_2 : decode c_R_erase 2 = .ok (.invokestatic 83, 3) := by decide +kernel
theorem d_R_erase_5 : decode c_R_erase 5 = .ok (.ifCond .eq 7, 3) := by decide +kernel
theorem d_R_erase_8 : decode c_R_erase 8 = .ok (.iconst 0, 1) := by decide +kernel
theorem d_R_erase_9 : decode c_R_erase 9 = .ok (.goto 4, 3) := by decide +kernel
theorem d_R_erase_12 : decode c_R_erase 12 = .ok (.iconst 1, 1) := by decide +kernel
theorem d_R_erase_13 : decode c_R_erase 13 = .ok (.putfield 51, 3) := by decide +kernel
theorem d_R_erase_16 : decode c_R_erase 16 = .ok (.aload_n 0, 1) := by decide +kernel
theorem d_R_erase_17 : decode c_R_erase 17 = .ok (.getfield 51, 3) := by decide +kernel
theorem d_R_erase_20 : decode c_R_erase 20 = .ok (.ifCond .le 5, 3) := by decide +kernel
theorem d_R_erase_23 : decode c_R_erase 23 = .ok (.iconst 0, 1) := by decide +kernel
theorem d_R_erase_24 : decode c_R_erase 24 = .ok (.ireturn, 1) := by decide +kernel
theorem d_R_erase_25 : decode c_R_erase 25 = .ok (.aload_n 0, 1) := by decide +kernel
theorem d_R_erase_26 : decode c_R_erase 26 = .ok (.iload_n 1, 1) := by decide +kernel
theorem d_R_erase_27 : decode c_R_erase 27 = .ok (.invokevirtual 87, 3) := by decide +kernel
theorem d_R_erase_30 : decode c_R_erase 30 = .ok (.aload_n 0, 1) := by decide +kernel
theorem d_R_erase_31 : decode c_R_erase 31 = .ok (.iload_n 2, 1) := by decide +kernel
theorem d_R_erase_32 : decode c_R_erase 32 = .ok (.ifCond .lt 11, 3) := by decide +kernel
theorem d_R_erase_35 : decode c_R_erase 35 = .ok (.iload_n 2, 1) := by decide +kernel
theorem d_R_erase_36 : decode c_R_erase 36 = .ok (.aload_n 0, 1) := by decide +kernel
theorem d_R_erase_37 : decode c_R_erase 37 = .ok (.getfield 61, 3) := by decide +kernel
theorem d_R_erase_40 : decode c_R_erase 40 = .ok (.if_icmp .lt 7, 3) := by decide +kernel
theorem d_R_erase_43 : decode c_R_erase 43 = .ok (.iconst 2, 1) := by decide +kernel
theorem d_R_erase_44 : decode c_R_erase 44 = .ok (.goto 17, 3) := by decide +kernel
theorem d_R_erase_47 : decode c_R_erase 47 = .ok (.aload_n 0, 1) := by decide +kernel
theorem d_R_erase_48 : decode c_R_erase 48 = .ok (.getfield 55, 3) := by decide +kernel
theorem d_R_erase_51 : decode c_R_erase 51 = .ok (.bipush 90, 2) := by decide +kernel
theorem d_R_erase_53 : decode c_R_erase 53 = .ok (.if_icmp .ne 7, 3) := by decide +kernel
theorem d_R_erase_56 : decode c_R_erase 56 = .ok (.iconst 3, 1) := by decide +kernel
theorem d_R_erase_57 : decode c_R_erase 57 = .ok (.goto 4, 3) := by decide +kernel
theorem d_R_erase_60 : decode c_R_erase 60 = .ok (.iconst 0, 1) := by decide +kernel
theorem d_R_erase_61 : decode c_R_erase 61 = .ok (.putfield 51, 3) := by decide +kernel
theorem d_R_erase_64 : decode c_R_erase 64 = .ok (.aload_n 0, 1) := by decide +kernel
theorem d_R_erase_65 : decode c_R_erase 65 = .ok (.getfield 51, 3) := by decide +kernel
theorem d_R_erase_68 : decode c_R_erase 68 = .ok (.ifCond .le 5, 3) := by decide +kernel
theorem d_R_erase_71 : decode c_R_erase 71 = .ok (.iconst 0, 1) := by decide +kernel
theorem d_R_erase_72 : decode c_R_erase 72 = .ok (.ireturn, 1) := by decide +kernel
theorem d_R_erase_73 : decode c_R_erase 73 = .ok (.aload_n 0, 1) := by decide +kernel
theorem d_R_erase_74 : decode c_R_erase 74 = .ok (.getfield 45, 3) := by decide +kernel
theorem d_R_erase_77 : decode c_R_erase 77 = .ok (.iload_n 2, 1) := by decide +kernel
theorem d_R_erase_78 : decode c_R_erase 78 = .ok (.iaload, 1) := by decide +kernel
theorem d_R_erase_79 : decode c_R_erase 79 = .ok (.istore_n 3, 1) := by decide +kernel
theorem d_R_erase_80 : decode c_R_erase 80 = .ok (.aload_n 0, 1) := by decide +kernel
theorem d_R_erase_81 : decode c_R_erase 81 = .ok (.iload_n 1, 1) := by decide +kernel
theorem d_R_erase_82 : decode c_R_erase 82 = .ok (.iconst 1, 1) := by decide +kernel
theorem d_R_erase_83 : decode c_R_erase 83 = .ok (.iload_n 3, 1) := by decide +kernel
theorem d_R_erase_84 : decode c_R_erase 84 = .ok (.iconst (-1), 1) := by decide +kernel
theorem d_R_erase_85 : decode c_R_erase 85 = .ok (.iconst 0, 1) := by decide +kernel
theorem d_R_erase_86 : decode c_R_erase 86 = .ok (.invokevirtual 91, 3) := by decide +kernel
theorem d_R_erase_89 : decode c_R_erase 89 = .ok (.pop, 1) := by decide +kernel
theorem d_R_erase_90 : decode c_R_erase 90 = .ok (.aload_n 0, 1) := by decide +kernel
theorem d_R_erase_91 : decode c_R_erase 91 = .ok (.getfield 25, 3) := by decide +kernel
theorem d_R_erase_94 : decode c_R_erase 94 = .ok (.iload_n 3, 1) := by decide +kernel
theorem d_R_erase_95 : decode c_R_erase 95 = .ok (.caload, 1) := by decide +kernel
theorem d_R_erase_96 : decode c_R_erase 96 = .ok (.ireturn, 1) := by decide +kernel
theorem d_R_mark_0 : decode c_R_mark 0 = .ok (.aload_n 0, 1) := by decide +kernel
theorem d_R_mark_1 : decode c_R_mark 1 = .ok (.iload_n 1, 1) := by decide +kernel
theorem d_R_mark_2 : decode c_R_mark 2 = .ok (.invokestatic 83, 3) := by decide +kernel
theorem d_R_mark_5 : decode c_R_mark 5 = .ok (.ifCond .eq 19, 3) := by decide +kernel
theorem d_R_mark_8 : decode c_R_mark 8 = .ok (.iload 4, 2) := by decide +kernel
theorem d_R_mark_10 : decode c_R_mark 10 = .ok (.ifCond .lt 14, 3) := by decide +kernel
theorem d_R_mark_13 : decode c_R_mark 13 = .ok (.iload 4, 2) := by decide +kernel
theorem d_R_mark_15 : decode c_R_mark 15 = .ok (.bipush 7, 2) := by decide +kernel
theorem d_R_mark_17 : decode c_R_mark 17 = .ok (.if_icmp .gt 7, 3) := by decide +kernel
theorem d_R_mark_20 : decode c_R_mark 20 = .ok (.iconst 0, 1) := by decide +kernel
theorem d_R_mark_21 : decode c_R_mark 21 = .ok (.goto 4, 3) := by decide +kernel
theorem d_R_mark_24 : decode c_R_mark 24 = .ok (.iconst 1, 1) := by decide +kernel
theorem d_R_mark_25 : decode c_R_mark 25 = .ok (.putfield 51, 3) := by decide +kernel
theorem d_R_mark_28 : decode c_R_mark 28 = .ok (.aload_n 0, 1) := by decide +kernel
theorem d_R_mark_29 : decode c_R_mark 29 = .ok (.getfield 51, 3) := by decide +kernel
theorem d_R_mark_32 : decode c_R_mark 32 = .ok (.ifCond .le 5, 3) := by decide +kernel
theorem d_R_mark_35 : decode c_R_mark 35 = .ok (.iconst 0, 1) := by decide +kernel
theorem d_R_mark_36 : decode c_R_mark 36 = .ok (.ireturn, 1) := by decide +kernel
theorem d_R_mark_37 : decode c_R_mark 37 = .ok (.aload_n 0, 1) := by decide +kernel
theorem d_R_mark_38 : decode c_R_mark 38 = .ok (.iload_n 1, 1) := by decide +kernel
theorem d_R_mark_39 : decode c_R_mark 39 = .ok (.invokevirtual 87, 3) := by decide +kernel
theorem d_R_mark_42 : decode c_R_mark 42 = .ok (.aload_n 0, 1) := by decide +kernel
theorem d_R_mark_43 : decode c_R_mark 43 = .ok (.iload_n 2, 1) := by decide +kernel
theorem d_R_mark_44 : decode c_R_mark 44 = .ok (.ifCond .lt 16, 3) := by decide +kernel
theorem d_R_mark_47 : decode c_R_mark 47 = .ok (.iload_n 2, 1) := by decide +kernel
theorem d_R_mark_48 : decode c_R_mark 48 = .ok (.iload_n 3, 1) := by decide +kernel
theorem d_R_mark_49 : decode c_R_mark 49 = .ok (.if_icmp .ge 11, 3) := by decide +kernel
theorem d_R_mark_52 : decode c_R_mark 52 = .ok (.iload_n 3, 1) := by decide +kernel
theorem d_R_mark_53 : decode c_R_mark 53 = .ok (.aload_n 0, 1) := by decide +kernel
theorem d_R_mark_54 : decode c_R_mark 54 = .ok (.getfield 61, 3) := by decide +kernel
theorem d_R_mark_57 : decode c_R_mark 57 = .ok (.if_icmp .le 7, 3) := by decide +kernel
theorem d_R_mark_60 : decode c_R_mark 60 = .ok (.iconst 2, 1) := by decide +kernel
theorem d_R_mark_61 : decode c_R_mark 61 = .ok (.goto 17, 3) := by decide +kernel
theorem d_R_mark_64 : decode c_R_mark 64 = .ok (.aload_n 0, 1) := by decide +kernel
theorem d_R_mark_65 : decode c_R_mark 65 = .ok (.getfield 55, 3) := by decide +kernel
theorem d_R_mark_68 : decode c_R_mark 68 = .ok (.bipush 90, 2) := by decide +kernel
theorem d_R_mark_70 : decode c_R_mark 70 = .ok (.if_icmp .ne 7, 3) := by decide +kernel
theorem d_R_mark_73 : decode c_R_mark 73 = .ok (.iconst 3, 1) := by decide +kernel
theorem d_R_mark_74 : decode c_R_mark 74 = .ok (.goto 4, 3) := by decide +kernel
theorem d_R_mark_77 : decode c_R_mark 77 = .ok (.iconst 0, 1) := by decide +kernel
theorem d_R_mark_78 : decode c_R_mark 78 = .ok (.putfield 51, 3) := by decide +kernel
theorem d_R_mark_81 : decode c_R_mark 81 = .ok (.aload_n 0, 1) := by decide +kernel
theorem d_R_mark_82 : decode c_R_mark 82 = .ok (.getfield 51, 3) := by decide +kernel
theorem d_R_mark_85 : decode c_R_mark 85 = .ok (.ifCond .le 5, 3) := by decide +kernel
theorem d_R_mark_88 : decode c_R_mark 88 = .ok (.iconst 0, 1) := by decide +kernel
theorem d_R_mark_89 : decode c_R_mark 89 = .ok (.ireturn, 1) := by decide +kernel
theorem d_R_mark_90 : decode c_R_mark 90 = .ok (.iload 4, 2) := by decide +kernel
theorem d_R_mark_92 : decode c_R_mark 92 = .ok (.iconst 3, 1) := by decide +kernel
theorem d_R_mark_93 : decode c_R_mark 93 = .ok (.if_icmp .le 14, 3) := by decide +kernel
theorem d_R_mark_96 : decode c_R_mark 96 = .ok (.aload_n 0, 1) := by decide +kernel
theorem d_R_mark_97 : decode c_R_mark 97 = .ok (.getfield 45, 3) := by decide +kernel
theorem d_R_mark_100 : decode c_R_mark 100 = .ok (.iload_n 3, 1) := by decide +kernel
theorem d_R_mark_101 : decode c_R_mark 101 = .ok (.iconst 1, 1) := by decide +kernel
theorem d_R_mark_102 : decode c_R_mark 102 = .ok (.isub, 1) := by decide +kernel
theorem d_R_mark_103 : decode c_R_mark 103 = .ok (.iaload, 1) := by decide +kernel
theorem d_R_mark_104 : decode c_R_mark 104 = .ok (.goto 21, 3) := by decide +kernel
theorem d_R_mark_107 : decode c_R_mark 107 = .ok (.iload_n 3, 1) := by decide +kernel
theorem d_R_mark_108 : decode c_R_mark 108 = .ok (.aload_n 0, 1) := by decide +kernel
theorem d_R_mark_109 : decode c_R_mark 109 = .ok (.getfield 61, 3) := by decide +kernel
theorem d_R_mark_112 : decode c_R_mark 112 = .ok (.if_icmp .ge 12, 3) := by decide +kernel
theorem d_R_mark_115 : decode c_R_mark 115 = .ok (.aload_n 0, 1) := by decide +kernel
theorem d_R_mark_116 : decode c_R_mark 116 = .ok (.getfield 45, 3) := by decide +kernel
theorem d_R_mark_119 : decode c_R_mark 119 = .ok (.iload_n 3, 1) := by decide +kernel
theorem d_R_mark_120 : decode c_R_mark 120 = .ok (.iaload, 1) := by decide +kernel
theorem d_R_mark_121 : decode c_R_mark 121 = .ok (.goto 4, 3) := by decide +kernel
theorem d_R_mark_124 : decode c_R_mark 124 = .ok (.iconst (-1), 1) := by decide +kernel
theorem d_R_mark_125 : decode c_R_mark 125 = .ok (.istore 5, 2) := by decide +kernel
theorem d_R_mark_127 : decode c_R_mark 127 = .ok (.aload_n 0, 1) := by decide +kernel
theorem d_R_mark_128 : decode c_R_mark 128 = .ok (.iload_n 1, 1) := by decide +kernel
theorem d_R_mark_129 : decode c_R_mark 129 = .ok (.iconst 2, 1) := by decide +kernel
theorem d_R_mark_130 : decode c_R_mark 130 = .ok (.aload_n 0, 1) := by decide +kernel
theorem d_R_mark_131 : decode c_R_mark 131 = .ok (.getfield 45, 3) := by decide +kernel
theorem d_R_mark_134 : decode c_R_mark 134 = .ok (.iload_n 2, 1) := by decide +kernel
theorem d_R_mark_135 : decode c_R_mark 135 = .ok (.iaload, 1) := by decide +kernel
theorem d_R_mark_136 : decode c_R_mark 136 = .ok (.iload 5, 2) := by decide +kernel
theorem d_R_mark_138 : decode c_R_mark 138 = .ok (.iload 4, 2) := by decide +kernel
theorem d_R_mark_140 : decode c_R_mark 140 = .ok (.invokevirtual 91, 3) := by decide +kernel
theorem d_R_mark_143 : decode c_R_mark 143 = .ok (.ireturn, 1) := by decide +kernel
theorem d_R_tell_0 : decode c_R_tell 0 = .ok (.aload_n 0, 1) := by decide +kernel
theorem d_R_tell_1 : decode c_R_tell 1 = .ok (.iload_n 1, 1) := by decide +kernel
theorem d_R_tell_2 : decode c_R_tell 2 = .ok (.invokestatic 83, 3) := by decide +kernel
theorem d_R_tell_5 : decode c_R_tell 5 = .ok (.ifCond .eq 18, 3) := by decide +kernel
theorem d_R_tell_8 : decode c_R_tell 8 = .ok (.iload_n 2, 1) := by decide +kernel
theorem d_R_tell_9 : decode c_R_tell 9 = .ok (.invokestatic 83, 3) := by decide +kernel
theorem d_R_tell_12 : decode c_R_tell 12 = .ok (.ifCond .eq 11, 3) := by decide +kernel
theorem d_R_tell_15 : decode c_R_tell 15 = .ok (.iload_n 3, 1) := by decide +kernel
theorem d_R_tell_16 : decode c_R_tell 16 = .ok (.ifCond .lt 7, 3) := by decide +kernel
theorem d_R_tell_19 : decode c_R_tell 19 = .ok (.iconst 0, 1) := by decide +kernel
theorem d_R_tell_20 : decode c_R_tell 20 = .ok (.goto 4, 3) := by decide +kernel
theorem d_R_tell_23 : decode c_R_tell 23 = .ok (.iconst 1, 1) := by decide +kernel
theorem d_R_tell_24 : decode c_R_tell 24 = .ok (.putfield 51, 3) := by decide +kernel
theorem d_R_tell_27 : decode c_R_tell 27 = .ok (.iconst 0, 1) := by decide +kernel
theorem d_R_tell_28 : decode c_R_tell 28 = .ok (.istore 4, 2) := by decide +kernel
theorem d_R_tell_30 : decode c_R_tell 30 = .ok (.iconst 0, 1) := by decide +kernel
theorem d_R_tell_31 : decode c_R_tell 31 = .ok (.istore 5, 2) := by decide +kernel
theorem d_R_tell_33 : decode c_R_tell 33 = .ok (.aload_n 0, 1) := by decide +kernel
theorem d_R_tell_34 : decode c_R_tell 34 = .ok (.getfield 51, 3) := by decide +kernel
theorem d_R_tell_37 : decode c_R_tell 37 = .ok (.ifCond .ne 65, 3) := by decide +kernel
theorem d_R_tell_40 : decode c_R_tell 40 = .ok (.iload 5, 2) := by decide +kernel
theorem d_R_tell_42 : decode c_R_tell 42 = .ok (.aload_n 0, 1) := by decide +kernel
theorem d_R_tell_43 : decode c_R_tell 43 = .ok (.getfield 36, 3) := by decide +kernel
theorem d_R_tell_46 : decode c_R_tell 46 = .ok (.iload_n 1, 1) := by decide +kernel
theorem d_R_tell_47 : decode c_R_tell 47 = .ok (.iaload, 1) := by decide +kernel
theorem d_R_tell_48 : decode c_R_tell 48 = .ok (.if_icmp .ge 54, 3) := by decide +kernel
theorem d_R_tell_51 : decode c_R_tell 51 = .ok (.iload 4, 2) := by decide +kernel
theorem d_R_tell_53 : decode c_R_tell 53 = .ok (.iload_n 3, 1) := by decide +kernel
theorem d_R_tell_54 : decode c_R_tell 54 = .ok (.if_icmp .ge 48, 3) := by decide +kernel
theorem d_R_tell_57 : decode c_R_tell 57 = .ok (.aload_n 0, 1) := by decide +kernel
theorem d_R_tell_58 : decode c_R_tell 58 = .ok (.getfield 29, 3) := by decide +kernel
theorem d_R_tell_61 : decode c_R_tell 61 = .ok (.bipush 90, 2) := by decide +kernel
theorem d_R_tell_63 : decode c_R_tell 63 = .ok (.iload_n 1, 1) := by decide +kernel
theorem d_R_tell_64 : decode c_R_tell 64 = .ok (.imul, 1) := by decide +kernel
theorem d_R_tell_65 : decode c_R_tell 65 = .ok (.iload 5, 2) := by decide +kernel
theorem d_R_tell_67 : decode c_R_tell 67 = .ok (.iadd, 1) := by decide +kernel
theorem d_R_tell_68 : decode c_R_tell 68 = .ok (.iaload, 1) := by decide +kernel
theorem d_R_tell_69 : decode c_R_tell 69 = .ok (.istore 6, 2) := by decide +kernel
theorem d_R_tell_71 : decode c_R_tell 71 = .ok (.aload_n 0, 1) := by decide +kernel
theorem d_R_tell_72 : decode c_R_tell 72 = .ok (.getfield 32, 3) := by decide +kernel
theorem d_R_tell_75 : decode c_R_tell 75 = .ok (.bipush 90, 2) := by decide +kernel
theorem d_R_tell_77 : decode c_R_tell 77 = .ok (.iload_n 2, 1) := by decide +kernel
theorem d_R_tell_78 : decode c_R_tell 78 = .ok (.imul, 1) := by decide +kernel
theorem d_R_tell_79 : decode c_R_tell 79 = .ok (.iload 6, 2) := by decide +kernel
theorem d_R_tell_81 : decode c_R_tell 81 = .ok (.iadd, 1) := by decide +kernel
theorem d_R_tell_82 : decode c_R_tell 82 = .ok (.baload, 1) := by decide +kernel
theorem d_R_tell_83 : decode c_R_tell 83 = .ok (.ifCond .ne 13, 3) := by decide +kernel
theorem d_R_tell_86 : decode c_R_tell 86 = .ok (.aload_n 0, 1) := by decide +kernel
theorem d_R_tell_87 : decode c_R_tell 87 = .ok (.iload_n 2, 1) := by decide +kernel
theorem d_R_tell_88 : decode c_R_tell 88 = .ok (.iload 6, 2) := by decide +kernel
theorem d_R_tell_90 : decode c_R_tell 90 = .ok (.invokevirtual 79, 3) := by decide +kernel
theorem d_R_tell_93 : decode c_R_tell 93 = .ok (.iinc 4 1, 3) := by decide +kernel
theorem d_R_tell_96 : decode c_R_tell 96 = .ok (.iinc 5 1, 3) := by decide +kernel
theorem d_R_tell_99 : decode c_R_tell 99 = .ok (.goto (-66), 3) := by decide +kernel
theorem d_R_tell_102 : decode c_R_tell 102 = .ok (.iload 4, 2) := by decide +kernel
theorem d_R_tell_104 : decode c_R_tell 104 = .ok (.ireturn, 1) := by decide +kernel
theorem d_R_length_0 : decode c_R_length 0 = .ok (.aload_n 0, 1) := by decide +kernel
theorem d_R_length_1 : decode c_R_length 1 = .ok (.iload_n 1, 1) := by decide +kernel
theorem d_R_length_2 : decode c_R_length 2 = .ok (.invokestatic 83, 3) := by decide +kernel
theorem d_R_length_5 : decode c_R_length 5 = .ok (.ifCond .eq 7, 3) := by decide +kernel
theorem d_R_length_8 : decode c_R_length 8 = .ok (.iconst 0, 1) := by decide +kernel
theorem d_R_length_9 : decode c_R_length 9 = .ok (.goto 4, 3) := by decide +kernel
theorem d_R_length_12 : decode c_R_length 12 = .ok (.iconst 1, 1) := by decide +kernel
theorem d_R_length_13 : decode c_R_length 13 = .ok (.putfield 51, 3) := by decide +kernel
theorem d_R_length_16 : decode c_R_length 16 = .ok (.aload_n 0, 1) := by decide +kernel
theorem d_R_length_17 : decode c_R_length 17 = .ok (.getfield 51, 3) := by decide +kernel
theorem d_R_length_20 : decode c_R_length 20 = .ok (.ifCond .le 5, 3) := by decide +kernel
theorem d_R_length_23 : decode c_R_length 23 = .ok (.iconst 0, 1) := by decide +kernel
theorem d_R_length_24 : decode c_R_length 24 = .ok (.ireturn, 1) := by decide +kernel
theorem d_R_length_25 : decode c_R_length 25 = .ok (.aload_n 0, 1) := by decide +kernel
theorem d_R_length_26 : decode c_R_length 26 = .ok (.iload_n 1, 1) := by decide +kernel
theorem d_R_length_27 : decode c_R_length 27 = .ok (.invokevirtual 87, 3) := by decide +kernel
theorem d_R_length_30 : decode c_R_length 30 = .ok (.aload_n 0, 1) := by decide +kernel
theorem d_R_length_31 : decode c_R_length 31 = .ok (.getfield 61, 3) := by decide +kernel
theorem d_R_length_34 : decode c_R_length 34 = .ok (.ireturn, 1) := by decide +kernel
theorem d_R_finds_0 : decode c_R_finds 0 = .ok (.aload_n 0, 1) := by decide +kernel
theorem d_R_finds_1 : decode c_R_finds 1 = .ok (.iload_n 1, 1) := by decide +kernel
theorem d_R_finds_2 : decode c_R_finds 2 = .ok (.invokestatic 83, 3) := by decide +kernel
theorem d_R_finds_5 : decode c_R_finds 5 = .ok (.ifCond .eq 7, 3) := by decide +kernel
theorem d_R_finds_8 : decode c_R_finds 8 = .ok (.iconst 0, 1) := by decide +kernel
theorem d_R_finds_9 : decode c_R_finds 9 = .ok (.goto 4, 3) := by decide +kernel
theorem d_R_finds_12 : decode c_R_finds 12 = .ok (.iconst 1, 1) := by decide +kernel
theorem d_R_finds_13 : decode c_R_finds 13 = .ok (.putfield 51, 3) := by decide +kernel
theorem d_R_finds_16 : decode c_R_finds 16 = .ok (.aload_n 0, 1) := by decide +kernel
theorem d_R_finds_17 : decode c_R_finds 17 = .ok (.getfield 51, 3) := by decide +kernel
theorem d_R_finds_20 : decode c_R_finds 20 = .ok (.ifCond .ne 29, 3) := by decide +kernel
theorem d_R_finds_23 : decode c_R_finds 23 = .ok (.aload_n 0, 1) := by decide +kernel
theorem d_R_finds_24 : decode c_R_finds 24 = .ok (.iload_n 1, 1) := by decide +kernel
theorem d_R_finds_25 : decode c_R_finds 25 = .ok (.invokevirtual 87, 3) := by decide +kernel
theorem d_R_finds_28 : decode c_R_finds 28 = .ok (.aload_n 0, 1) := by decide +kernel
theorem d_R_finds_29 : decode c_R_finds 29 = .ok (.iload_n 2, 1) := by decide +kernel
theorem d_R_finds_30 : decode c_R_finds 30 = .ok (.ifCond .lt 11, 3) := by decide +kernel
theorem d_R_finds_33 : decode c_R_finds 33 = .ok (.iload_n 2, 1) := by decide +kernel
theorem d_R_finds_34 : decode c_R_finds 34 = .ok (.aload_n 0, 1) := by decide +kernel
theorem d_R_finds_35 : decode c_R_finds 35 = .ok (.getfield 61, 3) := by decide +kernel
theorem d_R_finds_38 : decode c_R_finds 38 = .ok (.if_icmp .lt 7, 3) := by decide +kernel
theorem d_R_finds_41 : decode c_R_finds 41 = .ok (.iconst 2, 1) := by decide +kernel
theorem d_R_finds_42 : decode c_R_finds 42 = .ok (.goto 4, 3) := by decide +kernel
theorem d_R_finds_45 : decode c_R_finds 45 = .ok (.iconst 0, 1) := by decide +kernel
theorem d_R_finds_46 : decode c_R_finds 46 = .ok (.putfield 51, 3) := by decide +kernel
theorem d_R_finds_49 : decode c_R_finds 49 = .ok (.aload_n 0, 1) := by decide +kernel
theorem d_R_finds_50 : decode c_R_finds 50 = .ok (.getfield 51, 3) := by decide +kernel
theorem d_R_finds_53 : decode c_R_finds 53 = .ok (.ifCond .ne 7, 3) := by decide +kernel
theorem d_R_finds_56 : decode c_R_finds 56 = .ok (.iconst 1, 1) := by decide +kernel
theorem d_R_finds_57 : decode c_R_finds 57 = .ok (.goto 4, 3) := by decide +kernel
theorem d_R_finds_60 : decode c_R_finds 60 = .ok (.iconst 0, 1) := by decide +kernel
theorem d_R_finds_61 : decode c_R_finds 61 = .ok (.ireturn, 1) := by decide +kernel
theorem d_R_at_0 : decode c_R_at 0 = .ok (.aload_n 0, 1) := by decide +kernel
theorem d_R_at_1 : decode c_R_at 1 = .ok (.iload_n 1, 1) := by decide +kernel
theorem d_R_at_2 : decode c_R_at 2 = .ok (.iload_n 2, 1) := by decide +kernel
theorem d_R_at_3 : decode c_R_at 3 = .ok (.invokevirtual 95, 3) := by decide +kernel
theorem d_R_at_6 : decode c_R_at 6 = .ok (.ifCond .eq 17, 3) := by decide +kernel
theorem d_R_at_9 : decode c_R_at 9 = .ok (.aload_n 0, 1) := by decide +kernel
theorem d_R_at_10 : decode c_R_at 10 = .ok (.getfield 25, 3) := by decide +kernel
theorem d_R_at_13 : decode c_R_at 13 = .ok (.aload_n 0, 1) := by decide +kernel
theorem d_R_at_14 : decode c_R_at 14 = .ok (.getfield 45, 3) := by decide +kernel
theorem d_R_at_17 : decode c_R_at 17 = .ok (.iload_n 2, 1) := by decide +kernel
theorem d_R_at_18 : decode c_R_at 18 = .ok (.iaload, 1) := by decide +kernel
theorem d_R_at_19 : decode c_R_at 19 = .ok (.caload, 1) := by decide +kernel
theorem d_R_at_20 : decode c_R_at 20 = .ok (.goto 4, 3) := by decide +kernel
theorem d_R_at_23 : decode c_R_at 23 = .ok (.iconst 0, 1) := by decide +kernel
theorem d_R_at_24 : decode c_R_at 24 = .ok (.ireturn, 1) := by decide +kernel
theorem d_R_format_0 : decode c_R_format 0 = .ok (.aload_n 0, 1) := by decide +kernel
theorem d_R_format_1 : decode c_R_format 1 = .ok (.iload_n 1, 1) := by decide +kernel
theorem d_R_format_2 : decode c_R_format 2 = .ok (.iload_n 2, 1) := by decide +kernel
theorem d_R_format_3 : decode c_R_format 3 = .ok (.invokevirtual 95, 3) := by decide +kernel
theorem d_R_format_6 : decode c_R_format 6 = .ok (.ifCond .eq 17, 3) := by decide +kernel
theorem d_R_format_9 : decode c_R_format 9 = .ok (.aload_n 0, 1) := by decide +kernel
theorem d_R_format_10 : decode c_R_format 10 = .ok (.iload_n 1, 1) := by decide +kernel
theorem d_R_format_11 : decode c_R_format 11 = .ok (.aload_n 0, 1) := by decide +kernel
theorem d_R_format_12 : decode c_R_format 12 = .ok (.getfield 45, 3) := by decide +kernel
theorem d_R_format_15 : decode c_R_format 15 = .ok (.iload_n 2, 1) := by decide +kernel
theorem d_R_format_16 : decode c_R_format 16 = .ok (.iaload, 1) := by decide +kernel
theorem d_R_format_17 : decode c_R_format 17 = .ok (.invokevirtual 98, 3) := by decide +kernel
theorem d_R_format_20 : decode c_R_format 20 = .ok (.goto 4, 3) := by decide +kernel
theorem d_R_format_23 : decode c_R_format 23 = .ok (.iconst 0, 1) := by decide +kernel
theorem d_R_format_24 : decode c_R_format 24 = .ok (.ireturn, 1) := by decide +kernel
theorem d_R_id_0 : decode c_R_id 0 = .ok (.aload_n 0, 1) := by decide +kernel
theorem d_R_id_1 : decode c_R_id 1 = .ok (.iload_n 1, 1) := by decide +kernel
theorem d_R_id_2 : decode c_R_id 2 = .ok (.iload_n 2, 1) := by decide +kernel
theorem d_R_id_3 : decode c_R_id 3 = .ok (.invokevirtual 95, 3) := by decide +kernel
theorem d_R_id_6 : decode c_R_id 6 = .ok (.ifCond .eq 17, 3) := by decide +kernel
theorem d_R_id_9 : decode c_R_id 9 = .ok (.aload_n 0, 1) := by decide +kernel
theorem d_R_id_10 : decode c_R_id 10 = .ok (.getfield 13, 3) := by decide +kernel
theorem d_R_id_13 : decode c_R_id 13 = .ok (.aload_n 0, 1) := by decide +kernel
theorem d_R_id_14 : decode c_R_id 14 = .ok (.getfield 45, 3) := by decide +kernel
theorem d_R_id_17 : decode c_R_id 17 = .ok (.iload_n 2, 1) := by decide +kernel
theorem d_R_id_18 : decode c_R_id 18 = .ok (.iaload, 1) := by decide +kernel
theorem d_R_id_19 : decode c_R_id 19 = .ok (.iaload, 1) := by decide +kernel
theorem d_R_id_20 : decode c_R_id 20 = .ok (.goto 4, 3) := by decide +kernel
theorem d_R_id_23 : decode c_R_id 23 = .ok (.iconst 0, 1) := by decide +kernel
theorem d_R_id_24 : decode c_R_id 24 = .ok (.ireturn, 1) := by decide +kernel
theorem d_R_begins_0 : decode c_R_begins 0 = .ok (.iload_n 2, 1) := by decide +kernel
theorem d_R_begins_1 : decode c_R_begins 1 = .ok (.ifCond .ne 5, 3) := by decide +kernel
theorem d_R_begins_4 : decode c_R_begins 4 = .ok (.iconst 1, 1) := by decide +kernel
theorem d_R_begins_5 : decode c_R_begins 5 = .ok (.ireturn, 1) := by decide +kernel
theorem d_R_begins_6 : decode c_R_begins 6 = .ok (.aload_n 0, 1) := by decide +kernel
theorem d_R_begins_7 : decode c_R_begins 7 = .ok (.iload_n 1, 1) := by decide +kernel
theorem d_R_begins_8 : decode c_R_begins 8 = .ok (.aload_n 0, 1) := by decide +kernel
theorem d_R_begins_9 : decode c_R_begins 9 = .ok (.getfield 45, 3) := by decide +kernel
theorem d_R_begins_12 : decode c_R_begins 12 = .ok (.iload_n 2, 1) := by decide +kernel
theorem d_R_begins_13 : decode c_R_begins 13 = .ok (.iconst 1, 1) := by decide +kernel
theorem d_R_begins_14 : decode c_R_begins 14 = .ok (.isub, 1) := by decide +kernel
theorem d_R_begins_15 : decode c_R_begins 15 = .ok (.iaload, 1) := by decide +kernel
theorem d_R_begins_16 : decode c_R_begins 16 = .ok (.invokevirtual 98, 3) := by decide +kernel
theorem d_R_begins_19 : decode c_R_begins 19 = .ok (.istore_n 3, 1) := by decide +kernel
theorem d_R_begins_20 : decode c_R_begins 20 = .ok (.aload_n 0, 1) := by decide +kernel
theorem d_R_begins_21 : decode c_R_begins 21 = .ok (.iload_n 1, 1) := by decide +kernel
theorem d_R_begins_22 : decode c_R_begins 22 = .ok (.aload_n 0, 1) := by decide +kernel
theorem d_R_begins_23 : decode c_R_begins 23 = .ok (.getfield 45, 3) := by decide +kernel
theorem d_R_begins_26 : decode c_R_begins 26 = .ok (.iload_n 2, 1) := by decide +kernel
theorem d_R_begins_27 : decode c_R_begins 27 = .ok (.iaload, 1) := by decide +kernel
theorem d_R_begins_28 : decode c_R_begins 28 = .ok (.invokevirtual 98, 3) := by decide +kernel
theorem d_R_begins_31 : decode c_R_begins 31 = .ok (.iload_n 3, 1) := by decide +kernel
theorem d_R_begins_32 : decode c_R_begins 32 = .ok (.if_icmp .eq 7, 3) := by decide +kernel
theorem d_R_begins_35 : decode c_R_begins 35 = .ok (.iconst 1, 1) := by decide +kernel
theorem d_R_begins_36 : decode c_R_begins 36 = .ok (.goto 4, 3) := by decide +kernel
theorem d_R_begins_39 : decode c_R_begins 39 = .ok (.iconst 0, 1) := by decide +kernel
theorem d_R_begins_40 : decode c_R_begins 40 = .ok (.ireturn, 1) := by decide +kernel
theorem d_R_runs_0 : decode c_R_runs 0 = .ok (.aload_n 0, 1) := by decide +kernel
theorem d_R_runs_1 : decode c_R_runs 1 = .ok (.iload_n 1, 1) := by decide +kernel
theorem d_R_runs_2 : decode c_R_runs 2 = .ok (.invokestatic 83, 3) := by decide +kernel
theorem d_R_runs_5 : decode c_R_runs 5 = .ok (.ifCond .eq 7, 3) := by decide +kernel
theorem d_R_runs_8 : decode c_R_runs 8 = .ok (.iconst 0, 1) := by decide +kernel
theorem d_R_runs_9 : decode c_R_runs 9 = .ok (.goto 4, 3) := by decide +kernel
theorem d_R_runs_12 : decode c_R_runs 12 = .ok (.iconst 1, 1) := by decide +kernel
theorem d_R_runs_13 : decode c_R_runs 13 = .ok (.putfield 51, 3) := by decide +kernel
theorem d_R_runs_16 : decode c_R_runs 16 = .ok (.aload_n 0, 1) := by decide +kernel
theorem d_R_runs_17 : decode c_R_runs 17 = .ok (.getfield 51, 3) := by decide +kernel
theorem d_R_runs_20 : decode c_R_runs 20 = .ok (.ifCond .le 5, 3) := by decide +kernel
theorem d_R_runs_23 : decode c_R_runs 23 = .ok (.iconst 0, 1) := by decide +kernel
theorem d_R_runs_24 : decode c_R_runs 24 = .ok (.ireturn, 1) := by decide +kernel
theorem d_R_runs_25 : decode c_R_runs 25 = .ok (.aload_n 0, 1) := by decide +kernel
theorem d_R_runs_26 : decode c_R_runs 26 = .ok (.iload_n 1, 1) := by decide +kernel
theorem d_R_runs_27 : decode c_R_runs 27 = .ok (.invokevirtual 87, 3) := by decide +kernel
theorem d_R_runs_30 : decode c_R_runs 30 = .ok (.iconst 0, 1) := by decide +kernel
theorem d_R_runs_31 : decode c_R_runs 31 = .ok (.istore_n 2, 1) := by decide +kernel
theorem d_R_runs_32 : decode c_R_runs 32 = .ok (.iconst 0, 1) := by decide +kernel
theorem d_R_runs_33 : decode c_R_runs 33 = .ok (.istore_n 3, 1) := by decide +kernel
theorem d_R_runs_34 : decode c_R_runs 34 = .ok (.iload_n 3, 1) := by decide +kernel
theorem d_R_runs_35 : decode c_R_runs 35 = .ok (.aload_n 0, 1) := by decide +kernel
theorem d_R_runs_36 : decode c_R_runs 36 = .ok (.getfield 61, 3) := by decide +kernel
theorem d_R_runs_39 : decode c_R_runs 39 = .ok (.if_icmp .ge 26, 3) := by decide +kernel
theorem d_R_runs_42 : decode c_R_runs 42 = .ok (.iload_n 2, 1) := by decide +kernel
theorem d_R_runs_43 : decode c_R_runs 43 = .ok (.aload_n 0, 1) := by decide +kernel
theorem d_R_runs_44 : decode c_R_runs 44 = .ok (.iload_n 1, 1) := by decide +kernel
theorem d_R_runs_45 : decode c_R_runs 45 = .ok (.iload_n 3, 1) := by decide +kernel
theorem d_R_runs_46 : decode c_R_runs 46 = .ok (.invokevirtual 101, 3) := by decide +kernel
theorem d_R_runs_49 : decode c_R_runs 49 = .ok (.ifCond .eq 7, 3) := by decide +kernel
theorem d_R_runs_52 : decode c_R_runs 52 = .ok (.iconst 1, 1) := by decide +kernel
theorem d_R_runs_53 : decode c_R_runs 53 = .ok (.goto 4, 3) := by decide +kernel
theorem d_R_runs_56 : decode c_R_runs 56 = .ok (.iconst 0, 1) := by decide +kernel
theorem d_R_runs_57 : decode c_R_runs 57 = .ok (.iadd, 1) := by decide +kernel
theorem d_R_runs_58 : decode c_R_runs 58 = .ok (.istore_n 2, 1) := by decide +kernel
theorem d_R_runs_59 : decode c_R_runs 59 = .ok (.iinc 3 1, 3) := by decide +kernel
theorem d_R_runs_62 : decode c_R_runs 62 = .ok (.goto (-28), 3) := by decide +kernel
theorem d_R_runs_65 : decode c_R_runs 65 = .ok (.iload_n 2, 1) := by decide +kernel
theorem d_R_runs_66 : decode c_R_runs 66 = .ok (.ireturn, 1) := by decide +kernel
theorem d_R_run_0 : decode c_R_run 0 = .ok (.aload_n 0, 1) := by decide +kernel
theorem d_R_run_1 : decode c_R_run 1 = .ok (.iload_n 1, 1) := by decide +kernel
theorem d_R_run_2 : decode c_R_run 2 = .ok (.invokestatic 83, 3) := by decide +kernel
theorem d_R_run_5 : decode c_R_run 5 = .ok (.ifCond .eq 16, 3) := by decide +kernel
theorem d_R_run_8 : decode c_R_run 8 = .ok (.iload_n 3, 1) := by decide +kernel
theorem d_R_run_9 : decode c_R_run 9 = .ok (.ifCond .lt 12, 3) := by decide +kernel
theorem d_R_run_12 : decode c_R_run 12 = .ok (.iload_n 3, 1) := by decide +kernel
theorem d_R_run_13 : decode c_R_run 13 = .ok (.iconst 2, 1) := by decide +kernel
theorem d_R_run_14 : decode c_R_run 14 = .ok (.if_icmp .gt 7, 3) := by decide +kernel
theorem d_R_run_17 : decode c_R_run 17 = .ok (.iconst 0, 1) := by decide +kernel
theorem d_R_run_18 : decode c_R_run 18 = .ok (.goto 4, 3) := by decide +kernel
theorem d_R_run_21 : decode c_R_run 21 = .ok (.iconst 1, 1) := by decide +kernel
theorem d_R_run_22 : decode c_R_run 22 = .ok (.putfield 51, 3) := by decide +kernel
theorem d_R_run_25 : decode c_R_run 25 = .ok (.aload_n 0, 1) := by decide +kernel
theorem d_R_run_26 : decode c_R_run 26 = .ok (.getfield 51, 3) := by decide +kernel
theorem d_R_run_29 : decode c_R_run 29 = .ok (.ifCond .le 5, 3) := by decide +kernel
theorem d_R_run_32 : decode c_R_run 32 = .ok (.iconst 0, 1) := by decide +kernel
theorem d_R_run_33 : decode c_R_run 33 = .ok (.ireturn, 1) := by decide +kernel
theorem d_R_run_34 : decode c_R_run 34 = .ok (.aload_n 0, 1) := by decide +kernel
theorem d_R_run_35 : decode c_R_run 35 = .ok (.iload_n 1, 1) := by decide +kernel
theorem d_R_run_36 : decode c_R_run 36 = .ok (.invokevirtual 87, 3) := by decide +kernel
theorem d_R_run_39 : decode c_R_run 39 = .ok (.iconst (-1), 1) := by decide +kernel
theorem d_R_run_40 : decode c_R_run 40 = .ok (.istore 4, 2) := by decide +kernel
theorem d_R_run_42 : decode c_R_run 42 = .ok (.iconst 0, 1) := by decide +kernel
theorem d_R_run_43 : decode c_R_run 43 = .ok (.istore 5, 2) := by decide +kernel
theorem d_R_run_45 : decode c_R_run 45 = .ok (.iconst (-1), 1) := by decide +kernel
theorem d_R_run_46 : decode c_R_run 46 = .ok (.istore 6, 2) := by decide +kernel
theorem d_R_run_48 : decode c_R_run 48 = .ok (.iconst 0, 1) := by decide +kernel
theorem d_R_run_49 : decode c_R_run 49 = .ok (.istore 7, 2) := by decide +kernel
theorem d_R_run_51 : decode c_R_run 51 = .ok (.iload 7, 2) := by decide +kernel
theorem d_R_run_53 : decode c_R_run 53 = .ok (.aload_n 0, 1) := by decide +kernel
theorem d_R_run_54 : decode c_R_run 54 = .ok (.getfield 61, 3) := by decide +kernel
theorem d_R_run_57 : decode c_R_run 57 = .ok (.if_icmp .ge 65, 3) := by decide +kernel
theorem d_R_run_60 : decode c_R_run 60 = .ok (.iload 6, 2) := by decide +kernel
theorem d_R_run_62 : decode c_R_run 62 = .ok (.aload_n 0, 1) := by decide +kernel
theorem d_R_run_63 : decode c_R_run 63 = .ok (.iload_n 1, 1) := by decide +kernel
theorem d_R_run_64 : decode c_R_run 64 = .ok (.iload 7, 2) := by decide +kernel
theorem d_R_run_66 : decode c_R_run 66 = .ok (.invokevirtual 101, 3) := by decide +kernel
theorem d_R_run_69 : decode c_R_run 69 = .ok (.ifCond .eq 7, 3) := by decide +kernel
theorem d_R_run_72 : decode c_R_run 72 = .ok (.iconst 1, 1) := by decide +kernel
theorem d_R_run_73 : decode c_R_run 73 = .ok (.goto 4, 3) := by decide +kernel
theorem d_R_run_76 : decode c_R_run 76 = .ok (.iconst 0, 1) := by decide +kernel
theorem d_R_run_77 : decode c_R_run 77 = .ok (.iadd, 1) := by decide +kernel
theorem d_R_run_78 : decode c_R_run 78 = .ok (.istore 6, 2) := by decide +kernel
theorem d_R_run_80 : decode c_R_run 80 = .ok (.iload 6, 2) := by decide +kernel
theorem d_R_run_82 : decode c_R_run 82 = .ok (.iload_n 2, 1) := by decide +kernel
theorem d_R_run_83 : decode c_R_run 83 = .ok (.if_icmp .ne 13, 3) := by decide +kernel
theorem d_R_run_86 : decode c_R_run 86 = .ok (.iload 4, 2) := by decide +kernel
theorem d_R_run_88 : decode c_R_run 88 = .ok (.ifCond .ge 8, 3) := by decide +kernel
theorem d_R_run_91 : decode c_R_run 91 = .ok (.iload 7, 2) := by decide +kernel
theorem d_R_run_93 : decode c_R_run 93 = .ok (.goto 5, 3) := by decide +kernel
theorem d_R_run_96 : decode c_R_run 96 = .ok (.iload 4, 2) := by decide +kernel
theorem d_R_run_98 : decode c_R_run 98 = .ok (.istore 4, 2) := by decide +kernel
theorem d_R_run_100 : decode c_R_run 100 = .ok (.iload 5, 2) := by decide +kernel
theorem d_R_run_102 : decode c_R_run 102 = .ok (.iload 6, 2) := by decide +kernel
theorem d_R_run_104 : decode c_R_run 104 = .ok (.iload_n 2, 1) := by decide +kernel
theorem d_R_run_105 : decode c_R_run 105 = .ok (.if_icmp .ne 7, 3) := by decide +kernel
theorem d_R_run_108 : decode c_R_run 108 = .ok (.iconst 1, 1) := by decide +kernel
theorem d_R_run_109 : decode c_R_run 109 = .ok (.goto 4, 3) := by decide +kernel
theorem d_R_run_112 : decode c_R_run 112 = .ok (.iconst 0, 1) := by decide +kernel
theorem d_R_run_113 : decode c_R_run 113 = .ok (.iadd, 1) := by decide +kernel
theorem d_R_run_114 : decode c_R_run 114 = .ok (.istore 5, 2) := by decide +kernel
theorem d_R_run_116 : decode c_R_run 116 = .ok (.iinc 7 1, 3) := by decide +kernel
theorem d_R_run_119 : decode c_R_run 119 = .ok (.goto (-68), 3) := by decide +kernel
theorem d_R_run_122 : decode c_R_run 122 = .ok (.aload_n 0, 1) := by decide +kernel
theorem d_R_run_123 : decode c_R_run 123 = .ok (.iload 4, 2) := by decide +kernel
theorem d_R_run_125 : decode c_R_run 125 = .ok (.ifCond .ge 7, 3) := by decide +kernel
theorem d_R_run_128 : decode c_R_run 128 = .ok (.iconst 2, 1) := by decide +kernel
theorem d_R_run_129 : decode c_R_run 129 = .ok (.goto 4, 3) := by decide +kernel
theorem d_R_run_132 : decode c_R_run 132 = .ok (.iconst 0, 1) := by decide +kernel
theorem d_R_run_133 : decode c_R_run 133 = .ok (.putfield 51, 3) := by decide +kernel
theorem d_R_run_136 : decode c_R_run 136 = .ok (.aload_n 0, 1) := by decide +kernel
theorem d_R_run_137 : decode c_R_run 137 = .ok (.getfield 51, 3) := by decide +kernel
theorem d_R_run_140 : decode c_R_run 140 = .ok (.ifCond .le 5, 3) := by decide +kernel
theorem d_R_run_143 : decode c_R_run 143 = .ok (.iconst 0, 1) := by decide +kernel
theorem d_R_run_144 : decode c_R_run 144 = .ok (.ireturn, 1) := by decide +kernel
theorem d_R_run_145 : decode c_R_run 145 = .ok (.iload_n 3, 1) := by decide +kernel
theorem d_R_run_146 : decode c_R_run 146 = .ok (.ifCond .ne 8, 3) := by decide +kernel
theorem d_R_run_149 : decode c_R_run 149 = .ok (.iload 4, 2) := by decide +kernel
theorem d_R_run_151 : decode c_R_run 151 = .ok (.goto 25, 3) := by decide +kernel
theorem d_R_run_154 : decode c_R_run 154 = .ok (.iload_n 3, 1) := by decide +kernel
theorem d_R_run_155 : decode c_R_run 155 = .ok (.iconst 1, 1) := by decide +kernel
theorem d_R_run_156 : decode c_R_run 156 = .ok (.if_icmp .ne 8, 3) := by decide +kernel
theorem d_R_run_159 : decode c_R_run 159 = .ok (.iload 5, 2) := by decide +kernel
theorem d_R_run_161 : decode c_R_run 161 = .ok (.goto 15, 3) := by decide +kernel
theorem d_R_run_164 : decode c_R_run 164 = .ok (.aload_n 0, 1) := by decide +kernel
theorem d_R_run_165 : decode c_R_run 165 = .ok (.iload_n 1, 1) := by decide +kernel
theorem d_R_run_166 : decode c_R_run 166 = .ok (.aload_n 0, 1) := by decide +kernel
theorem d_R_run_167 : decode c_R_run 167 = .ok (.getfield 45, 3) := by decide +kernel
theorem d_R_run_170 : decode c_R_run 170 = .ok (.iload 4, 2) := by decide +kernel
theorem d_R_run_172 : decode c_R_run 172 = .ok (.iaload, 1) := by decide +kernel
theorem d_R_run_173 : decode c_R_run 173 = .ok (.invokevirtual 98, 3) := by decide +kernel
theorem d_R_run_176 : decode c_R_run 176 = .ok (.ireturn, 1) := by decide +kernel
theorem d_R_count_0 : decode c_R_count 0 = .ok (.aload_n 0, 1) := by decide +kernel
theorem d_R_count_1 : decode c_R_count 1 = .ok (.iload_n 1, 1) := by decide +kernel
theorem d_R_count_2 : decode c_R_count 2 = .ok (.invokestatic 83, 3) := by decide +kernel
theorem d_R_count_5 : decode c_R_count 5 = .ok (.ifCond .eq 16, 3) := by decide +kernel
theorem d_R_count_8 : decode c_R_count 8 = .ok (.iload_n 2, 1) := by decide +kernel
theorem d_R_count_9 : decode c_R_count 9 = .ok (.ifCond .lt 12, 3) := by decide +kernel
theorem d_R_count_12 : decode c_R_count 12 = .ok (.iload_n 2, 1) := by decide +kernel
theorem d_R_count_13 : decode c_R_count 13 = .ok (.iconst 3, 1) := by decide +kernel
theorem d_R_count_14 : decode c_R_count 14 = .ok (.if_icmp .gt 7, 3) := by decide +kernel
theorem d_R_count_17 : decode c_R_count 17 = .ok (.iconst 0, 1) := by decide +kernel
theorem d_R_count_18 : decode c_R_count 18 = .ok (.goto 4, 3) := by decide +kernel
theorem d_R_count_21 : decode c_R_count 21 = .ok (.iconst 1, 1) := by decide +kernel
theorem d_R_count_22 : decode c_R_count 22 = .ok (.putfield 51, 3) := by decide +kernel
theorem d_R_count_25 : decode c_R_count 25 = .ok (.aload_n 0, 1) := by decide +kernel
theorem d_R_count_26 : decode c_R_count 26 = .ok (.getfield 51, 3) := by decide +kernel
theorem d_R_count_29 : decode c_R_count 29 = .ok (.ifCond .le 5, 3) := by decide +kernel
theorem d_R_count_32 : decode c_R_count 32 = .ok (.iconst 0, 1) := by decide +kernel
theorem d_R_count_33 : decode c_R_count 33 = .ok (.ireturn, 1) := by decide +kernel
theorem d_R_count_34 : decode c_R_count 34 = .ok (.iload_n 2, 1) := by decide +kernel
theorem d_R_count_35 : decode c_R_count 35 = .ok (.iconst 2, 1) := by decide +kernel
theorem d_R_count_36 : decode c_R_count 36 = .ok (.if_icmp .ge 22, 3) := by decide +kernel
theorem d_R_count_39 : decode c_R_count 39 = .ok (.iload_n 2, 1) := by decide +kernel
theorem d_R_count_40 : decode c_R_count 40 = .ok (.ifCond .ne 12, 3) := by decide +kernel
theorem d_R_count_43 : decode c_R_count 43 = .ok (.aload_n 0, 1) := by decide +kernel
theorem d_R_count_44 : decode c_R_count 44 = .ok (.getfield 36, 3) := by decide +kernel
theorem d_R_count_47 : decode c_R_count 47 = .ok (.iload_n 1, 1) := by decide +kernel
theorem d_R_count_48 : decode c_R_count 48 = .ok (.iaload, 1) := by decide +kernel
theorem d_R_count_49 : decode c_R_count 49 = .ok (.goto 8, 3) := by decide +kernel
theorem d_R_count_52 : decode c_R_count 52 = .ok (.aload_n 0, 1) := by decide +kernel
theorem d_R_count_53 : decode c_R_count 53 = .ok (.iload_n 1, 1) := by decide +kernel
theorem d_R_count_54 : decode c_R_count 54 = .ok (.invokevirtual 75, 3) := by decide +kernel
theorem d_R_count_57 : decode c_R_count 57 = .ok (.ireturn, 1) := by decide +kernel
theorem d_R_count_58 : decode c_R_count 58 = .ok (.iconst 0, 1) := by decide +kernel
theorem d_R_count_59 : decode c_R_count 59 = .ok (.istore_n 3, 1) := by decide +kernel
theorem d_R_count_60 : decode c_R_count 60 = .ok (.iconst 0, 1) := by decide +kernel
theorem d_R_count_61 : decode c_R_count 61 = .ok (.istore 4, 2) := by decide +kernel
theorem d_R_count_63 : decode c_R_count 63 = .ok (.iload 4, 2) := by decide +kernel
theorem d_R_count_65 : decode c_R_count 65 = .ok (.aload_n 0, 1) := by decide +kernel
theorem d_R_count_66 : decode c_R_count 66 = .ok (.getfield 55, 3) := by decide +kernel
theorem d_R_count_69 : decode c_R_count 69 = .ok (.if_icmp .ge 52, 3) := by decide +kernel
theorem d_R_count_72 : decode c_R_count 72 = .ok (.iload_n 3, 1) := by decide +kernel
theorem d_R_count_73 : decode c_R_count 73 = .ok (.aload_n 0, 1) := by decide +kernel
theorem d_R_count_74 : decode c_R_count 74 = .ok (.getfield 32, 3) := by decide +kernel
theorem d_R_count_77 : decode c_R_count 77 = .ok (.bipush 90, 2) := by decide +kernel
theorem d_R_count_79 : decode c_R_count 79 = .ok (.iload_n 1, 1) := by decide +kernel
theorem d_R_count_80 : decode c_R_count 80 = .ok (.imul, 1) := by decide +kernel
theorem d_R_count_81 : decode c_R_count 81 = .ok (.iload 4, 2) := by decide +kernel
theorem d_R_count_83 : decode c_R_count 83 = .ok (.iadd, 1) := by decide +kernel
theorem d_R_count_84 : decode c_R_count 84 = .ok (.baload, 1) := by decide +kernel
theorem d_R_count_85 : decode c_R_count 85 = .ok (.ifCond .eq 27, 3) := by decide +kernel
theorem d_R_count_88 : decode c_R_count 88 = .ok (.aload_n 0, 1) := by decide +kernel
theorem d_R_count_89 : decode c_R_count 89 = .ok (.getfield 7, 3) := by decide +kernel
theorem d_R_count_92 : decode c_R_count 92 = .ok (.iload 4, 2) := by decide +kernel
theorem d_R_count_94 : decode c_R_count 94 = .ok (.iaload, 1) := by decide +kernel
theorem d_R_count_95 : decode c_R_count 95 = .ok (.iload_n 2, 1) := by decide +kernel
theorem d_R_count_96 : decode c_R_count 96 = .ok (.iconst 2, 1) := by decide +kernel
theorem d_R_count_97 : decode c_R_count 97 = .ok (.if_icmp .ne 7, 3) := by decide +kernel
theorem d_R_count_100 : decode c_R_count 100 = .ok (.iconst 0, 1) := by decide +kernel
theorem d_R_count_101 : decode c_R_count 101 = .ok (.goto 4, 3) := by decide +kernel
theorem d_R_count_104 : decode c_R_count 104 = .ok (.iconst 2, 1) := by decide +kernel
theorem d_R_count_105 : decode c_R_count 105 = .ok (.if_icmp .ne 7, 3) := by decide +kernel
theorem d_R_count_108 : decode c_R_count 108 = .ok (.iconst 1, 1) := by decide +kernel
theorem d_R_count_109 : decode c_R_count 109 = .ok (.goto 4, 3) := by decide +kernel
theorem d_R_count_112 : decode c_R_count 112 = .ok (.iconst 0, 1) := by decide +kernel
theorem d_R_count_113 : decode c_R_count 113 = .ok (.iadd, 1) := by decide +kernel
theorem d_R_count_114 : decode c_R_count 114 = .ok (.istore_n 3, 1) := by decide +kernel
theorem d_R_count_115 : decode c_R_count 115 = .ok (.iinc 4 1, 3) := by decide +kernel
theorem d_R_count_118 : decode c_R_count 118 = .ok (.goto (-55), 3) := by decide +kernel
theorem d_R_count_121 : decode c_R_count 121 = .ok (.iload_n 3, 1) := by decide +kernel
theorem d_R_count_122 : decode c_R_count 122 = .ok (.ireturn, 1) := by decide +kernel
theorem d_R_alike_0 : decode c_R_alike 0 = .ok (.aload_n 0, 1) := by decide +kernel
theorem d_R_alike_1 : decode c_R_alike 1 = .ok (.iload_n 1, 1) := by decide +kernel
theorem d_R_alike_2 : decode c_R_alike 2 = .ok (.invokestatic 83, 3) := by decide +kernel
theorem d_R_alike_5 : decode c_R_alike 5 = .ok (.ifCond .eq 14, 3) := by decide +kernel
theorem d_R_alike_8 : decode c_R_alike 8 = .ok (.iload_n 2, 1) := by decide +kernel
theorem d_R_alike_9 : decode c_R_alike 9 = .ok (.invokestatic 83, 3) := by decide +kernel
theorem d_R_alike_12 : decode c_R_alike 12 = .ok (.ifCond .eq 7, 3) := by decide +kernel
theorem d_R_alike_15 : decode c_R_alike 15 = .ok (.iconst 0, 1) := by decide +kernel
theorem d_R_alike_16 : decode c_R_alike 16 = .ok (.goto 4, 3) := by decide +kernel
theorem d_R_alike_19 : decode c_R_alike 19 = .ok (.iconst 1, 1) := by decide +kernel
theorem d_R_alike_20 : decode c_R_alike 20 = .ok (.putfield 51, 3) := by decide +kernel
theorem d_R_alike_23 : decode c_R_alike 23 = .ok (.aload_n 0, 1) := by decide +kernel
theorem d_R_alike_24 : decode c_R_alike 24 = .ok (.getfield 51, 3) := by decide +kernel
theorem d_R_alike_27 : decode c_R_alike 27 = .ok (.ifCond .ne 7, 3) := by decide +kernel
theorem d_R_alike_30 : decode c_R_alike 30 = .ok (.iconst 1, 1) := by decide +kernel
theorem d_R_alike_31 : decode c_R_alike 31 = .ok (.goto 4, 3) := by decide +kernel
theorem d_R_alike_34 : decode c_R_alike 34 = .ok (.iconst 0, 1) := by decide +kernel
theorem d_R_alike_35 : decode c_R_alike 35 = .ok (.istore_n 3, 1) := by decide +kernel
theorem d_R_alike_36 : decode c_R_alike 36 = .ok (.iconst 0, 1) := by decide +kernel
theorem d_R_alike_37 : decode c_R_alike 37 = .ok (.istore 4, 2) := by decide +kernel
theorem d_R_alike_39 : decode c_R_alike 39 = .ok (.iload 4, 2) := by decide +kernel
theorem d_R_alike_41 : decode c_R_alike 41 = .ok (.aload_n 0, 1) := by decide +kernel
theorem d_R_alike_42 : decode c_R_alike 42 = .ok (.getfield 55, 3) := by decide +kernel
theorem d_R_alike_45 : decode c_R_alike 45 = .ok (.if_icmp .ge 46, 3) := by decide +kernel
theorem d_R_alike_48 : decode c_R_alike 48 = .ok (.iload_n 3, 1) := by decide +kernel
theorem d_R_alike_49 : decode c_R_alike 49 = .ok (.ifCond .eq 42, 3) := by decide +kernel
theorem d_R_alike_52 : decode c_R_alike 52 = .ok (.aload_n 0, 1) := by decide +kernel
theorem d_R_alike_53 : decode c_R_alike 53 = .ok (.getfield 32, 3) := by decide +kernel
theorem d_R_alike_56 : decode c_R_alike 56 = .ok (.bipush 90, 2) := by decide +kernel
theorem d_R_alike_58 : decode c_R_alike 58 = .ok (.iload_n 1, 1) := by decide +kernel
theorem d_R_alike_59 : decode c_R_alike 59 = .ok (.imul, 1) := by decide +kernel
theorem d_R_alike_60 : decode c_R_alike 60 = .ok (.iload 4, 2) := by decide +kernel
theorem d_R_alike_62 : decode c_R_alike 62 = .ok (.iadd, 1) := by decide +kernel
theorem d_R_alike_63 : decode c_R_alike 63 = .ok (.baload, 1) := by decide +kernel
theorem d_R_alike_64 : decode c_R_alike 64 = .ok (.aload_n 0, 1) := by decide +kernel
theorem d_R_alike_65 : decode c_R_alike 65 = .ok (.getfield 32, 3) := by decide +kernel
theorem d_R_alike_68 : decode c_R_alike 68 = .ok (.bipush 90, 2) := by decide +kernel
theorem d_R_alike_70 : decode c_R_alike 70 = .ok (.iload_n 2, 1) := by decide +kernel
theorem d_R_alike_71 : decode c_R_alike 71 = .ok (.imul, 1) := by decide +kernel
theorem d_R_alike_72 : decode c_R_alike 72 = .ok (.iload 4, 2) := by decide +kernel
theorem d_R_alike_74 : decode c_R_alike 74 = .ok (.iadd, 1) := by decide +kernel
theorem d_R_alike_75 : decode c_R_alike 75 = .ok (.baload, 1) := by decide +kernel
theorem d_R_alike_76 : decode c_R_alike 76 = .ok (.if_icmp .ne 7, 3) := by decide +kernel
theorem d_R_alike_79 : decode c_R_alike 79 = .ok (.iconst 1, 1) := by decide +kernel
theorem d_R_alike_80 : decode c_R_alike 80 = .ok (.goto 4, 3) := by decide +kernel
theorem d_R_alike_83 : decode c_R_alike 83 = .ok (.iconst 0, 1) := by decide +kernel
theorem d_R_alike_84 : decode c_R_alike 84 = .ok (.istore_n 3, 1) := by decide +kernel
theorem d_R_alike_85 : decode c_R_alike 85 = .ok (.iinc 4 1, 3) := by decide +kernel
theorem d_R_alike_88 : decode c_R_alike 88 = .ok (.goto (-49), 3) := by decide +kernel
theorem d_R_alike_91 : decode c_R_alike 91 = .ok (.iload_n 3, 1) := by decide +kernel
theorem d_R_alike_92 : decode c_R_alike 92 = .ok (.ireturn, 1) := by decide +kernel
end
section
/-! Decode rows by program. -/
theorem d_L_write_0 : decode c_L_write 0 = .ok (.aload 4, 2) := by decide +kernel
theorem d_L_write_2 : decode c_L_write 2 = .ok (.iconst 0, 1) := by decide +kernel
theorem d_L_write_3 : decode c_L_write 3 = .ok (.aload_n 0, 1) := by decide +kernel
theorem d_L_write_4 : decode c_L_write 4 = .ok (.iload_n 1, 1) := by decide +kernel
theorem d_L_write_5 : decode c_L_write 5 = .ok (.iload_n 2, 1) := by decide +kernel
theorem d_L_write_6 : decode c_L_write 6 = .ok (.iload_n 3, 1) := by decide +kernel
theorem d_L_write_7 : decode c_L_write 7 = .ok (.invokevirtual 7, 3) := by decide +kernel
theorem d_L_write_10 : decode c_L_write 10 = .ok (.i2l, 1) := by decide +kernel
theorem d_L_write_11 : decode c_L_write 11 = .ok (.lastore, 1) := by decide +kernel
theorem d_L_write_12 : decode c_L_write 12 = .ok (.goto 15, 3) := by decide +kernel
theorem d_L_write_15 : decode c_L_write 15 = .ok (.astore 5, 2) := by decide +kernel
theorem d_L_write_17 : decode c_L_write 17 = .ok (.iconst 1, 1) := by decide +kernel
theorem d_L_write_18 : decode c_L_write 18 = .ok (.ireturn, 1) := by decide +kernel
theorem d_L_write_19 : decode c_L_write 19 = .ok (.astore 5, 2) := by decide +kernel
theorem d_L_write_21 : decode c_L_write 21 = .ok (.iconst 2, 1) := by decide +kernel
theorem d_L_write_22 : decode c_L_write 22 = .ok (.ireturn, 1) := by decide +kernel
theorem d_L_write_23 : decode c_L_write 23 = .ok (.astore 5, 2) := by decide +kernel
theorem d_L_write_25 : decode c_L_write 25 = .ok (.iconst 3, 1) := by decide +kernel
theorem d_L_write_26 : decode c_L_write 26 = .ok (.ireturn, 1) := by decide +kernel
theorem d_L_write_27 : decode c_L_write 27 = .ok (.iconst 0, 1) := by decide +kernel
theorem d_L_write_28 : decode c_L_write 28 = .ok (.ireturn, 1) := by decide +kernel
theorem d_L_erase_0 : decode c_L_erase 0 = .ok (.aload_n 3, 1) := by decide +kernel
theorem d_L_erase_1 : decode c_L_erase 1 = .ok (.iconst 0, 1) := by decide +kernel
theorem d_L_erase_2 : decode c_L_erase 2 = .ok (.aload_n 0, 1) := by decide +kernel
theorem d_L_erase_3 : decode c_L_erase 3 = .ok (.iload_n 1, 1) := by decide +kernel
theorem d_L_erase_4 : decode c_L_erase 4 = .ok (.iload_n 2, 1) := by decide +kernel
theorem d_L_erase_5 : decode c_L_erase 5 = .ok (.invokevirtual 19, 3) := by decide +kernel
theorem d_L_erase_8 : decode c_L_erase 8 = .ok (.i2l, 1) := by decide +kernel
theorem d_L_erase_9 : decode c_L_erase 9 = .ok (.lastore, 1) := by decide +kernel
theorem d_L_erase_10 : decode c_L_erase 10 = .ok (.goto 15, 3) := by decide +kernel
theorem d_L_erase_13 : decode c_L_erase 13 = .ok (.astore 4, 2) := by decide +kernel
theorem d_L_erase_15 : decode c_L_erase 15 = .ok (.iconst 1, 1) := by decide +kernel
theorem d_L_erase_16 : decode c_L_erase 16 = .ok (.ireturn, 1) := by decide +kernel
theorem d_L_erase_17 : decode c_L_erase 17 = .ok (.astore 4, 2) := by decide +kernel
theorem d_L_erase_19 : decode c_L_erase 19 = .ok (.iconst 2, 1) := by decide +kernel
theorem d_L_erase_20 : decode c_L_erase 20 = .ok (.ireturn, 1) := by decide +kernel
theorem d_L_erase_21 : decode c_L_erase 21 = .ok (.astore 4, 2) := by decide +kernel
theorem d_L_erase_23 : decode c_L_erase 23 = .ok (.iconst 3, 1) := by decide +kernel
theorem d_L_erase_24 : decode c_L_erase 24 = .ok (.ireturn, 1) := by decide +kernel
theorem d_L_erase_25 : decode c_L_erase 25 = .ok (.iconst 0, 1) := by decide +kernel
theorem d_L_erase_26 : decode c_L_erase 26 = .ok (.ireturn, 1) := by decide +kernel
theorem d_L_mark_0 : decode c_L_mark 0 = .ok (.aload 5, 2) := by decide +kernel
theorem d_L_mark_2 : decode c_L_mark 2 = .ok (.iconst 0, 1) := by decide +kernel
theorem d_L_mark_3 : decode c_L_mark 3 = .ok (.aload_n 0, 1) := by decide +kernel
theorem d_L_mark_4 : decode c_L_mark 4 = .ok (.iload_n 1, 1) := by decide +kernel
theorem d_L_mark_5 : decode c_L_mark 5 = .ok (.iload_n 2, 1) := by decide +kernel
theorem d_L_mark_6 : decode c_L_mark 6 = .ok (.iload_n 3, 1) := by decide +kernel
theorem d_L_mark_7 : decode c_L_mark 7 = .ok (.iload 4, 2) := by decide +kernel
theorem d_L_mark_9 : decode c_L_mark 9 = .ok (.invokevirtual 23, 3) := by decide +kernel
theorem d_L_mark_12 : decode c_L_mark 12 = .ok (.i2l, 1) := by decide +kernel
theorem d_L_mark_13 : decode c_L_mark 13 = .ok (.lastore, 1) := by decide +kernel
theorem d_L_mark_14 : decode c_L_mark 14 = .ok (.goto 15, 3) := by decide +kernel
theorem d_L_mark_17 : decode c_L_mark 17 = .ok (.astore 6, 2) := by decide +kernel
theorem d_L_mark_19 : decode c_L_mark 19 = .ok (.iconst 1, 1) := by decide +kernel
theorem d_L_mark_20 : decode c_L_mark 20 = .ok (.ireturn, 1) := by decide +kernel
theorem d_L_mark_21 : decode c_L_mark 21 = .ok (.astore 6, 2) := by decide +kernel
theorem d_L_mark_23 : decode c_L_mark 23 = .ok (.iconst 2, 1) := by decide +kernel
theorem d_L_mark_24 : decode c_L_mark 24 = .ok (.ireturn, 1) := by decide +kernel
theorem d_L_mark_25 : decode c_L_mark 25 = .ok (.astore 6, 2) := by decide +kernel
theorem d_L_mark_27 : decode c_L_mark 27 = .ok (.iconst 3, 1) := by decide +kernel
theorem d_L_mark_28 : decode c_L_mark 28 = .ok (.ireturn, 1) := by decide +kernel
theorem d_L_mark_29 : decode c_L_mark 29 = .ok (.iconst 0, 1) := by decide +kernel
theorem d_L_mark_30 : decode c_L_mark 30 = .ok (.ireturn, 1) := by decide +kernel
theorem d_L_tell_0 : decode c_L_tell 0 = .ok (.aload 4, 2) := by decide +kernel
theorem d_L_tell_2 : decode c_L_tell 2 = .ok (.iconst 0, 1) := by decide +kernel
theorem d_L_tell_3 : decode c_L_tell 3 = .ok (.aload_n 0, 1) := by decide +kernel
theorem d_L_tell_4 : decode c_L_tell 4 = .ok (.iload_n 1, 1) := by decide +kernel
theorem d_L_tell_5 : decode c_L_tell 5 = .ok (.iload_n 2, 1) := by decide +kernel
theorem d_L_tell_6 : decode c_L_tell 6 = .ok (.iload_n 3, 1) := by decide +kernel
theorem d_L_tell_7 : decode c_L_tell 7 = .ok (.invokevirtual 27, 3) := by decide +kernel
theorem d_L_tell_10 : decode c_L_tell 10 = .ok (.i2l, 1) := by decide +kernel
theorem d_L_tell_11 : decode c_L_tell 11 = .ok (.lastore, 1) := by decide +kernel
theorem d_L_tell_12 : decode c_L_tell 12 = .ok (.goto 7, 3) := by decide +kernel
theorem d_L_tell_15 : decode c_L_tell 15 = .ok (.astore 5, 2) := by decide +kernel
theorem d_L_tell_17 : decode c_L_tell 17 = .ok (.iconst 1, 1) := by decide +kernel
theorem d_L_tell_18 : decode c_L_tell 18 = .ok (.ireturn, 1) := by decide +kernel
theorem d_L_tell_19 : decode c_L_tell 19 = .ok (.iconst 0, 1) := by decide +kernel
theorem d_L_tell_20 : decode c_L_tell 20 = .ok (.ireturn, 1) := by decide +kernel
theorem d_L_length_0 : decode c_L_length 0 = .ok (.aload_n 2, 1) := by decide +kernel
theorem d_L_length_1 : decode c_L_length 1 = .ok (.iconst 0, 1) := by decide +kernel
theorem d_L_length_2 : decode c_L_length 2 = .ok (.aload_n 0, 1) := by decide +kernel
theorem d_L_length_3 : decode c_L_length 3 = .ok (.iload_n 1, 1) := by decide +kernel
theorem d_L_length_4 : decode c_L_length 4 = .ok (.invokevirtual 31, 3) := by decide +kernel
theorem d_L_length_7 : decode c_L_length 7 = .ok (.i2l, 1) := by decide +kernel
theorem d_L_length_8 : decode c_L_length 8 = .ok (.lastore, 1) := by decide +kernel
theorem d_L_length_9 : decode c_L_length 9 = .ok (.goto 6, 3) := by decide +kernel
theorem d_L_length_12 : decode c_L_length 12 = .ok (.astore_n 3, 1) := by decide +kernel
theorem d_L_length_13 : decode c_L_length 13 = .ok (.iconst 1, 1) := by decide +kernel
theorem d_L_length_14 : decode c_L_length 14 = .ok (.ireturn, 1) := by decide +kernel
theorem d_L_length_15 : decode c_L_length 15 = .ok (.iconst 0, 1) := by decide +kernel
theorem d_L_length_16 : decode c_L_length 16 = .ok (.ireturn, 1) := by decide +kernel
theorem d_L_at_0 : decode c_L_at 0 = .ok (.aload_n 3, 1) := by decide +kernel
theorem d_L_at_1 : decode c_L_at 1 = .ok (.iconst 0, 1) := by decide +kernel
theorem d_L_at_2 : decode c_L_at 2 = .ok (.aload_n 0, 1) := by decide +kernel
theorem d_L_at_3 : decode c_L_at 3 = .ok (.iload_n 1, 1) := by decide +kernel
theorem d_L_at_4 : decode c_L_at 4 = .ok (.iload_n 2, 1) := by decide +kernel
theorem d_L_at_5 : decode c_L_at 5 = .ok (.invokevirtual 35, 3) := by decide +kernel
theorem d_L_at_8 : decode c_L_at 8 = .ok (.i2l, 1) := by decide +kernel
theorem d_L_at_9 : decode c_L_at 9 = .ok (.lastore, 1) := by decide +kernel
theorem d_L_at_10 : decode c_L_at 10 = .ok (.goto 11, 3) := by decide +kernel
theorem d_L_at_13 : decode c_L_at 13 = .ok (.astore 4, 2) := by decide +kernel
theorem d_L_at_15 : decode c_L_at 15 = .ok (.iconst 1, 1) := by decide +kernel
theorem d_L_at_16 : decode c_L_at 16 = .ok (.ireturn, 1) := by decide +kernel
theorem d_L_at_17 : decode c_L_at 17 = .ok (.astore 4, 2) := by decide +kernel
theorem d_L_at_19 : decode c_L_at 19 = .ok (.iconst 2, 1) := by decide +kernel
theorem d_L_at_20 : decode c_L_at 20 = .ok (.ireturn, 1) := by decide +kernel
theorem d_L_at_21 : decode c_L_at 21 = .ok (.iconst 0, 1) := by decide +kernel
theorem d_L_at_22 : decode c_L_at 22 = .ok (.ireturn, 1) := by decide +kernel
theorem d_L_format_0 : decode c_L_format 0 = .ok (.aload_n 3, 1) := by decide +kernel
theorem d_L_format_1 : decode c_L_format 1 = .ok (.iconst 0, 1) := by decide +kernel
theorem d_L_format_2 : decode c_L_format 2 = .ok (.aload_n 0, 1) := by decide +kernel
theorem d_L_format_3 : decode c_L_format 3 = .ok (.iload_n 1, 1) := by decide +kernel
theorem d_L_format_4 : decode c_L_format 4 = .ok (.iload_n 2, 1) := by decide +kernel
theorem d_L_format_5 : decode c_L_format 5 = .ok (.invokevirtual 38, 3) := by decide +kernel
theorem d_L_format_8 : decode c_L_format 8 = .ok (.i2l, 1) := by decide +kernel
theorem d_L_format_9 : decode c_L_format 9 = .ok (.lastore, 1) := by decide +kernel
theorem d_L_format_10 : decode c_L_format 10 = .ok (.goto 11, 3) := by decide +kernel
theorem d_L_format_13 : decode c_L_format 13 = .ok (.astore 4, 2) := by decide +kernel
theorem d_L_format_15 : decode c_L_format 15 = .ok (.iconst 1, 1) := by decide +kernel
theorem d_L_format_16 : decode c_L_format 16 = .ok (.ireturn, 1) := by decide +kernel
theorem d_L_format_17 : decode c_L_format 17 = .ok (.astore 4, 2) := by decide +kernel
theorem d_L_format_19 : decode c_L_format 19 = .ok (.iconst 2, 1) := by decide +kernel
theorem d_L_format_20 : decode c_L_format 20 = .ok (.ireturn, 1) := by decide +kernel
theorem d_L_format_21 : decode c_L_format 21 = .ok (.iconst 0, 1) := by decide +kernel
theorem d_L_format_22 : decode c_L_format 22 = .ok (.ireturn, 1) := by decide +kernel
theorem d_L_id_0 : decode c_L_id 0 = .ok (.aload_n 3, 1) := by decide +kernel
theorem d_L_id_1 : decode c_L_id 1 = .ok (.iconst 0, 1) := by decide +kernel
theorem d_L_id_2 : decode c_L_id 2 = .ok (.aload_n 0, 1) := by decide +kernel
theorem d_L_id_3 : decode c_L_id 3 = .ok (.iload_n 1, 1) := by decide +kernel
theorem d_L_id_4 : decode c_L_id 4 = .ok (.iload_n 2, 1) := by decide +kernel
theorem d_L_id_5 : decode c_L_id 5 = .ok (.invokevirtual 42, 3) := by decide +kernel
theorem d_L_id_8 : decode c_L_id 8 = .ok (.i2l, 1) := by decide +kernel
theorem d_L_id_9 : decode c_L_id 9 = .ok (.lastore, 1) := by decide +kernel
theorem d_L_id_10 : decode c_L_id 10 = .ok (.goto 11, 3) := by decide +kernel
theorem d_L_id_13 : decode c_L_id 13 = .ok (.astore 4, 2) := by decide +kernel
theorem d_L_id_15 : decode c_L_id 15 = .ok (.iconst 1, 1) := by decide +kernel
theorem d_L_id_16 : decode c_L_id 16 = .ok (.ireturn, 1) := by decide +kernel
theorem d_L_id_17 : decode c_L_id 17 = .ok (.astore 4, 2) := by decide +kernel
theorem d_L_id_19 : decode c_L_id 19 = .ok (.iconst 2, 1) := by decide +kernel
theorem d_L_id_20 : decode c_L_id 20 = .ok (.ireturn, 1) := by decide +kernel
theorem d_L_id_21 : decode c_L_id 21 = .ok (.iconst 0, 1) := by decide +kernel
theorem d_L_id_22 : decode c_L_id 22 = .ok (.ireturn, 1) := by decide +kernel
theorem d_L_runs_0 : decode c_L_runs 0 = .ok (.aload_n 2, 1) := by decide +kernel
theorem d_L_runs_1 : decode c_L_runs 1 = .ok (.iconst 0, 1) := by decide +kernel
theorem d_L_runs_2 : decode c_L_runs 2 = .ok (.aload_n 0, 1) := by decide +kernel
theorem d_L_runs_3 : decode c_L_runs 3 = .ok (.iload_n 1, 1) := by decide +kernel
theorem d_L_runs_4 : decode c_L_runs 4 = .ok (.invokevirtual 45, 3) := by decide +kernel
theorem d_L_runs_7 : decode c_L_runs 7 = .ok (.i2l, 1) := by decide +kernel
theorem d_L_runs_8 : decode c_L_runs 8 = .ok (.lastore, 1) := by decide +kernel
theorem d_L_runs_9 : decode c_L_runs 9 = .ok (.goto 6, 3) := by decide +kernel
theorem d_L_runs_12 : decode c_L_runs 12 = .ok (.astore_n 3, 1) := by decide +kernel
theorem d_L_runs_13 : decode c_L_runs 13 = .ok (.iconst 1, 1) := by decide +kernel
theorem d_L_runs_14 : decode c_L_runs 14 = .ok (.ireturn, 1) := by decide +kernel
theorem d_L_runs_15 : decode c_L_runs 15 = .ok (.iconst 0, 1) := by decide +kernel
theorem d_L_runs_16 : decode c_L_runs 16 = .ok (.ireturn, 1) := by decide +kernel
theorem d_L_run_0 : decode c_L_run 0 = .ok (.aload 4, 2) := by decide +kernel
theorem d_L_run_2 : decode c_L_run 2 = .ok (.iconst 0, 1) := by decide +kernel
theorem d_L_run_3 : decode c_L_run 3 = .ok (.aload_n 0, 1) := by decide +kernel
theorem d_L_run_4 : decode c_L_run 4 = .ok (.iload_n 1, 1) := by decide +kernel
theorem d_L_run_5 : decode c_L_run 5 = .ok (.iload_n 2, 1) := by decide +kernel
theorem d_L_run_6 : decode c_L_run 6 = .ok (.iload_n 3, 1) := by decide +kernel
theorem d_L_run_7 : decode c_L_run 7 = .ok (.invokevirtual 48, 3) := by decide +kernel
theorem d_L_run_10 : decode c_L_run 10 = .ok (.i2l, 1) := by decide +kernel
theorem d_L_run_11 : decode c_L_run 11 = .ok (.lastore, 1) := by decide +kernel
theorem d_L_run_12 : decode c_L_run 12 = .ok (.goto 11, 3) := by decide +kernel
theorem d_L_run_15 : decode c_L_run 15 = .ok (.astore 5, 2) := by decide +kernel
theorem d_L_run_17 : decode c_L_run 17 = .ok (.iconst 1, 1) := by decide +kernel
theorem d_L_run_18 : decode c_L_run 18 = .ok (.ireturn, 1) := by decide +kernel
theorem d_L_run_19 : decode c_L_run 19 = .ok (.astore 5, 2) := by decide +kernel
theorem d_L_run_21 : decode c_L_run 21 = .ok (.iconst 2, 1) := by decide +kernel
theorem d_L_run_22 : decode c_L_run 22 = .ok (.ireturn, 1) := by decide +kernel
theorem d_L_run_23 : decode c_L_run 23 = .ok (.iconst 0, 1) := by decide +kernel
theorem d_L_run_24 : decode c_L_run 24 = .ok (.ireturn, 1) := by decide +kernel
theorem d_L_count_0 : decode c_L_count 0 = .ok (.aload_n 3, 1) := by decide +kernel
theorem d_L_count_1 : decode c_L_count 1 = .ok (.iconst 0, 1) := by decide +kernel
theorem d_L_count_2 : decode c_L_count 2 = .ok (.aload_n 0, 1) := by decide +kernel
theorem d_L_count_3 : decode c_L_count 3 = .ok (.iload_n 1, 1) := by decide +kernel
theorem d_L_count_4 : decode c_L_count 4 = .ok (.iload_n 2, 1) := by decide +kernel
theorem d_L_count_5 : decode c_L_count 5 = .ok (.invokevirtual 51, 3) := by decide +kernel
theorem d_L_count_8 : decode c_L_count 8 = .ok (.i2l, 1) := by decide +kernel
theorem d_L_count_9 : decode c_L_count 9 = .ok (.lastore, 1) := by decide +kernel
theorem d_L_count_10 : decode c_L_count 10 = .ok (.goto 7, 3) := by decide +kernel
theorem d_L_count_13 : decode c_L_count 13 = .ok (.astore 4, 2) := by decide +kernel
theorem d_L_count_15 : decode c_L_count 15 = .ok (.iconst 1, 1) := by decide +kernel
theorem d_L_count_16 : decode c_L_count 16 = .ok (.ireturn, 1) := by decide +kernel
theorem d_L_count_17 : decode c_L_count 17 = .ok (.iconst 0, 1) := by decide +kernel
theorem d_L_count_18 : decode c_L_count 18 = .ok (.ireturn, 1) := by decide +kernel
theorem d_L_alike_0 : decode c_L_alike 0 = .ok (.aload_n 3, 1) := by decide +kernel
theorem d_L_alike_1 : decode c_L_alike 1 = .ok (.iconst 0, 1) := by decide +kernel
theorem d_L_alike_2 : decode c_L_alike 2 = .ok (.aload_n 0, 1) := by decide +kernel
theorem d_L_alike_3 : decode c_L_alike 3 = .ok (.iload_n 1, 1) := by decide +kernel
theorem d_L_alike_4 : decode c_L_alike 4 = .ok (.iload_n 2, 1) := by decide +kernel
theorem d_L_alike_5 : decode c_L_alike 5 = .ok (.invokevirtual 54, 3) := by decide +kernel
theorem d_L_alike_8 : decode c_L_alike 8 = .ok (.ifCond .eq 7, 3) := by decide +kernel
theorem d_L_alike_11 : decode c_L_alike 11 = .ok (.lconst 1, 1) := by decide +kernel
theorem d_L_alike_12 : decode c_L_alike 12 = .ok (.goto 4, 3) := by decide +kernel
theorem d_L_alike_15 : decode c_L_alike 15 = .ok (.lconst 0, 1) := by decide +kernel
theorem d_L_alike_16 : decode c_L_alike 16 = .ok (.lastore, 1) := by decide +kernel
theorem d_L_alike_17 : decode c_L_alike 17 = .ok (.goto 7, 3) := by decide +kernel
theorem d_L_alike_20 : decode c_L_alike 20 = .ok (.astore 4, 2) := by decide +kernel
theorem d_L_alike_22 : decode c_L_alike 22 = .ok (.iconst 1, 1) := by decide +kernel
theorem d_L_alike_23 : decode c_L_alike 23 = .ok (.ireturn, 1) := by decide +kernel
theorem d_L_alike_24 : decode c_L_alike 24 = .ok (.iconst 0, 1) := by decide +kernel
theorem d_L_alike_25 : decode c_L_alike 25 = .ok (.ireturn, 1) := by decide +kernel
theorem d_L_law_0 : decode c_L_law 0 = .ok (.new 8, 3) := by decide +kernel
theorem d_L_law_3 : decode c_L_law 3 = .ok (.dup, 1) := by decide +kernel
theorem d_L_law_4 : decode c_L_law 4 = .ok (.invokespecial 58, 3) := by decide +kernel
theorem d_L_law_7 : decode c_L_law 7 = .ok (.astore_n 1, 1) := by decide +kernel
theorem d_L_law_8 : decode c_L_law 8 = .ok (.new 59, 3) := by decide +kernel
theorem d_L_law_11 : decode c_L_law 11 = .ok (.dup, 1) := by decide +kernel
theorem d_L_law_12 : decode c_L_law 12 = .ok (.invokespecial 61, 3) := by decide +kernel
theorem d_L_law_15 : decode c_L_law 15 = .ok (.astore_n 2, 1) := by decide +kernel
theorem d_L_law_16 : decode c_L_law 16 = .ok (.iconst 1, 1) := by decide +kernel
theorem d_L_law_17 : decode c_L_law 17 = .ok (.newarray .long, 2) := by decide +kernel
theorem d_L_law_19 : decode c_L_law 19 = .ok (.astore_n 3, 1) := by decide +kernel
theorem d_L_law_20 : decode c_L_law 20 = .ok (.iconst 0, 1) := by decide +kernel
theorem d_L_law_21 : decode c_L_law 21 = .ok (.istore 4, 2) := by decide +kernel
theorem d_L_law_23 : decode c_L_law 23 = .ok (.iload 4, 2) := by decide +kernel
theorem d_L_law_25 : decode c_L_law 25 = .ok (.aload_n 0, 1) := by decide +kernel
theorem d_L_law_26 : decode c_L_law 26 = .ok (.arraylength, 1) := by decide +kernel
theorem d_L_law_27 : decode c_L_law 27 = .ok (.iconst 5, 1) := by decide +kernel
theorem d_L_law_28 : decode c_L_law 28 = .ok (.isub, 1) := by decide +kernel
theorem d_L_law_29 : decode c_L_law 29 = .ok (.if_icmp .gt 938, 3) := by decide +kernel
theorem d_L_law_32 : decode c_L_law 32 = .ok (.aload_n 0, 1) := by decide +kernel
theorem d_L_law_33 : decode c_L_law 33 = .ok (.iload 4, 2) := by decide +kernel
theorem d_L_law_35 : decode c_L_law 35 = .ok (.iaload, 1) := by decide +kernel
theorem d_L_law_36 : decode c_L_law 36 = .ok (.bipush 15, 2) := by decide +kernel
theorem d_L_law_38 : decode c_L_law 38 = .ok (.iand, 1) := by decide +kernel
theorem d_L_law_39 : decode c_L_law 39 = .ok (.tableswitch 922 0 11 #[61, 143, 211, 303, 383, 439, 507, 575, 643, 699, 779, 847], 61) := by decide +kernel
theorem d_L_law_100 : decode c_L_law 100 = .ok (.aload_n 1, 1) := by decide +kernel
theorem d_L_law_101 : decode c_L_law 101 = .ok (.aload_n 0, 1) := by decide +kernel
theorem d_L_law_102 : decode c_L_law 102 = .ok (.iload 4, 2) := by decide +kernel
theorem d_L_law_104 : decode c_L_law 104 = .ok (.iconst 1, 1) := by decide +kernel
theorem d_L_law_105 : decode c_L_law 105 = .ok (.iadd, 1) := by decide +kernel
theorem d_L_law_106 : decode c_L_law 106 = .ok (.iaload, 1) := by decide +kernel
theorem d_L_law_107 : decode c_L_law 107 = .ok (.aload_n 0, 1) := by decide +kernel
theorem d_L_law_108 : decode c_L_law 108 = .ok (.iload 4, 2) := by decide +kernel
theorem d_L_law_110 : decode c_L_law 110 = .ok (.iconst 2, 1) := by decide +kernel
theorem d_L_law_111 : decode c_L_law 111 = .ok (.iadd, 1) := by decide +kernel
theorem d_L_law_112 : decode c_L_law 112 = .ok (.iaload, 1) := by decide +kernel
theorem d_L_law_113 : decode c_L_law 113 = .ok (.aload_n 0, 1) := by decide +kernel
theorem d_L_law_114 : decode c_L_law 114 = .ok (.iload 4, 2) := by decide +kernel
theorem d_L_law_116 : decode c_L_law 116 = .ok (.iconst 3, 1) := by decide +kernel
theorem d_L_law_117 : decode c_L_law 117 = .ok (.iadd, 1) := by decide +kernel
theorem d_L_law_118 : decode c_L_law 118 = .ok (.iaload, 1) := by decide +kernel
theorem d_L_law_119 : decode c_L_law 119 = .ok (.i2c, 1) := by decide +kernel
theorem d_L_law_120 : decode c_L_law 120 = .ok (.aload_n 3, 1) := by decide +kernel
theorem d_L_law_121 : decode c_L_law 121 = .ok (.invokestatic 62, 3) := by decide +kernel
theorem d_L_law_124 : decode c_L_law 124 = .ok (.istore 5, 2) := by decide +kernel
theorem d_L_law_126 : decode c_L_law 126 = .ok (.aload_n 2, 1) := by decide +kernel
theorem d_L_law_127 : decode c_L_law 127 = .ok (.aload_n 0, 1) := by decide +kernel
theorem d_L_law_128 : decode c_L_law 128 = .ok (.iload 4, 2) := by decide +kernel
theorem d_L_law_130 : decode c_L_law 130 = .ok (.iconst 1, 1) := by decide +kernel
theorem d_L_law_131 : decode c_L_law 131 = .ok (.iadd, 1) := by decide +kernel
theorem d_L_law_132 : decode c_L_law 132 = .ok (.iaload, 1) := by decide +kernel
theorem d_L_law_133 : decode c_L_law 133 = .ok (.aload_n 0, 1) := by decide +kernel
theorem d_L_law_134 : decode c_L_law 134 = .ok (.iload 4, 2) := by decide +kernel
theorem d_L_law_136 : decode c_L_law 136 = .ok (.iconst 2, 1) := by decide +kernel
theorem d_L_law_137 : decode c_L_law 137 = .ok (.iadd, 1) := by decide +kernel
theorem d_L_law_138 : decode c_L_law 138 = .ok (.iaload, 1) := by decide +kernel
theorem d_L_law_139 : decode c_L_law 139 = .ok (.aload_n 0, 1) := by decide +kernel
theorem d_L_law_140 : decode c_L_law 140 = .ok (.iload 4, 2) := by decide +kernel
theorem d_L_law_142 : decode c_L_law 142 = .ok (.iconst 3, 1) := by decide +kernel
theorem d_L_law_143 : decode c_L_law 143 = .ok (.iadd, 1) := by decide +kernel
theorem d_L_law_144 : decode c_L_law 144 = .ok (.iaload, 1) := by decide +kernel
theorem d_L_law_145 : decode c_L_law 145 = .ok (.i2c, 1) := by decide +kernel
theorem d_L_law_146 : decode c_L_law 146 = .ok (.invokevirtual 67, 3) := by decide +kernel
theorem d_L_law_149 : decode c_L_law 149 = .ok (.istore 6, 2) := by decide +kernel
theorem d_L_law_151 : decode c_L_law 151 = .ok (.aload_n 2, 1) := by decide +kernel
theorem d_L_law_152 : decode c_L_law 152 = .ok (.invokevirtual 68, 3) := by decide +kernel
theorem d_L_law_155 : decode c_L_law 155 = .ok (.iload 5, 2) := by decide +kernel
theorem d_L_law_157 : decode c_L_law 157 = .ok (.if_icmp .eq 5, 3) := by decide +kernel
theorem d_L_law_160 : decode c_L_law 160 = .ok (.iconst 0, 1) := by decide +kernel
theorem d_L_law_161 : decode c_L_law 161 = .ok (.ireturn, 1) := by decide +kernel
theorem d_L_law_162 : decode c_L_law 162 = .ok (.iload 5, 2) := by decide +kernel
theorem d_L_law_164 : decode c_L_law 164 = .ok (.ifCond .ne 15, 3) := by decide +kernel
theorem d_L_law_167 : decode c_L_law 167 = .ok (.aload_n 3, 1) := by decide +kernel
theorem d_L_law_168 : decode c_L_law 168 = .ok (.iconst 0, 1) := by decide +kernel
theorem d_L_law_169 : decode c_L_law 169 = .ok (.laload, 1) := by decide +kernel
theorem d_L_law_170 : decode c_L_law 170 = .ok (.iload 6, 2) := by decide +kernel
theorem d_L_law_172 : decode c_L_law 172 = .ok (.i2l, 1) := by decide +kernel
theorem d_L_law_173 : decode c_L_law 173 = .ok (.lcmp, 1) := by decide +kernel
theorem d_L_law_174 : decode c_L_law 174 = .ok (.ifCond .eq 5, 3) := by decide +kernel
theorem d_L_law_177 : decode c_L_law 177 = .ok (.iconst 0, 1) := by decide +kernel
theorem d_L_law_178 : decode c_L_law 178 = .ok (.ireturn, 1) := by decide +kernel
theorem d_L_law_179 : decode c_L_law 179 = .ok (.goto 782, 3) := by decide +kernel
theorem d_L_law_182 : decode c_L_law 182 = .ok (.aload_n 1, 1) := by decide +kernel
theorem d_L_law_183 : decode c_L_law 183 = .ok (.aload_n 0, 1) := by decide +kernel
theorem d_L_law_184 : decode c_L_law 184 = .ok (.iload 4, 2) := by decide +kernel
theorem d_L_law_186 : decode c_L_law 186 = .ok (.iconst 1, 1) := by decide +kernel
theorem d_L_law_187 : decode c_L_law 187 = .ok (.iadd, 1) := by decide +kernel
theorem d_L_law_188 : decode c_L_law 188 = .ok (.iaload, 1) := by decide +kernel
theorem d_L_law_189 : decode c_L_law 189 = .ok (.aload_n 0, 1) := by decide +kernel
theorem d_L_law_190 : decode c_L_law 190 = .ok (.iload 4, 2) := by decide +kernel
theorem d_L_law_192 : decode c_L_law 192 = .ok (.iconst 2, 1) := by decide +kernel
theorem d_L_law_193 : decode c_L_law 193 = .ok (.iadd, 1) := by decide +kernel
theorem d_L_law_194 : decode c_L_law 194 = .ok (.iaload, 1) := by decide +kernel
theorem d_L_law_195 : decode c_L_law 195 = .ok (.aload_n 3, 1) := by decide +kernel
theorem d_L_law_196 : decode c_L_law 196 = .ok (.invokestatic 72, 3) := by decide +kernel
theorem d_L_law_199 : decode c_L_law 199 = .ok (.istore 5, 2) := by decide +kernel
theorem d_L_law_201 : decode c_L_law 201 = .ok (.aload_n 2, 1) := by decide +kernel
theorem d_L_law_202 : decode c_L_law 202 = .ok (.aload_n 0, 1) := by decide +kernel
theorem d_L_law_203 : decode c_L_law 203 = .ok (.iload 4, 2) := by decide +kernel
theorem d_L_law_205 : decode c_L_law 205 = .ok (.iconst 1, 1) := by decide +kernel
theorem d_L_law_206 : decode c_L_law 206 = .ok (.iadd, 1) := by decide +kernel
theorem d_L_law_207 : decode c_L_law 207 = .ok (.iaload, 1) := by decide +kernel
theorem d_L_law_208 : decode c_L_law 208 = .ok (.aload_n 0, 1) := by decide +kernel
theorem d_L_law_209 : decode c_L_law 209 = .ok (.iload 4, 2) := by decide +kernel
theorem d_L_law_211 : decode c_L_law 211 = .ok (.iconst 2, 1) := by decide +kernel
theorem d_L_law_212 : decode c_L_law 212 = .ok (.iadd, 1) := by decide +kernel
theorem d_L_law_213 : decode c_L_law 213 = .ok (.iaload, 1) := by decide +kernel
theorem d_L_law_214 : decode c_L_law 214 = .ok (.invokevirtual 75, 3) := by decide +kernel
theorem d_L_law_217 : decode c_L_law 217 = .ok (.istore 6, 2) := by decide +kernel
theorem d_L_law_219 : decode c_L_law 219 = .ok (.aload_n 2, 1) := by decide +kernel
theorem d_L_law_220 : decode c_L_law 220 = .ok (.invokevirtual 68, 3) := by decide +kernel
theorem d_L_law_223 : decode c_L_law 223 = .ok (.iload 5, 2) := by decide +kernel
theorem d_L_law_225 : decode c_L_law 225 = .ok (.if_icmp .eq 5, 3) := by decide +kernel
theorem d_L_law_228 : decode c_L_law 228 = .ok (.iconst 0, 1) := by decide +kernel
theorem d_L_law_229 : decode c_L_law 229 = .ok (.ireturn, 1) := by decide +kernel
theorem d_L_law_230 : decode c_L_law 230 = .ok (.iload 5, 2) := by decide +kernel
theorem d_L_law_232 : decode c_L_law 232 = .ok (.ifCond .ne 15, 3) := by decide +kernel
theorem d_L_law_235 : decode c_L_law 235 = .ok (.aload_n 3, 1) := by decide +kernel
theorem d_L_law_236 : decode c_L_law 236 = .ok (.iconst 0, 1) := by decide +kernel
theorem d_L_law_237 : decode c_L_law 237 = .ok (.laload, 1) := by decide +kernel
theorem d_L_law_238 : decode c_L_law 238 = .ok (.iload 6, 2) := by decide +kernel
theorem d_L_law_240 : decode c_L_law 240 = .ok (.i2l, 1) := by decide +kernel
theorem d_L_law_241 : decode c_L_law 241 = .ok (.lcmp, 1) := by decide +kernel
theorem d_L_law_242 : decode c_L_law 242 = .ok (.ifCond .eq 5, 3) := by decide +kernel
theorem d_L_law_245 : decode c_L_law 245 = .ok (.iconst 0, 1) := by decide +kernel
theorem d_L_law_246 : decode c_L_law 246 = .ok (.ireturn, 1) := by decide +kernel
theorem d_L_law_247 : decode c_L_law 247 = .ok (.goto 714, 3) := by decide +kernel
theorem d_L_law_250 : decode c_L_law 250 = .ok (.aload_n 1, 1) := by decide +kernel
theorem d_L_law_251 : decode c_L_law 251 = .ok (.aload_n 0, 1) := by decide +kernel
theorem d_L_law_252 : decode c_L_law 252 = .ok (.iload 4, 2) := by decide +kernel
theorem d_L_law_254 : decode c_L_law 254 = .ok (.iconst 1, 1) := by decide +kernel
theorem d_L_law_255 : decode c_L_law 255 = .ok (.iadd, 1) := by decide +kernel
theorem d_L_law_256 : decode c_L_law 256 = .ok (.iaload, 1) := by decide +kernel
theorem d_L_law_257 : decode c_L_law 257 = .ok (.aload_n 0, 1) := by decide +kernel
theorem d_L_law_258 : decode c_L_law 258 = .ok (.iload 4, 2) := by decide +kernel
theorem d_L_law_260 : decode c_L_law 260 = .ok (.iconst 2, 1) := by decide +kernel
theorem d_L_law_261 : decode c_L_law 261 = .ok (.iadd, 1) := by decide +kernel
theorem d_L_law_262 : decode c_L_law 262 = .ok (.iaload, 1) := by decide +kernel
theorem d_L_law_263 : decode c_L_law 263 = .ok (.aload_n 0, 1) := by decide +kernel
theorem d_L_law_264 : decode c_L_law 264 = .ok (.iload 4, 2) := by decide +kernel
theorem d_L_law_266 : decode c_L_law 266 = .ok (.iconst 3, 1) := by decide +kernel
theorem d_L_law_267 : decode c_L_law 267 = .ok (.iadd, 1) := by decide +kernel
theorem d_L_law_268 : decode c_L_law 268 = .ok (.iaload, 1) := by decide +kernel
theorem d_L_law_269 : decode c_L_law 269 = .ok (.aload_n 0, 1) := by decide +kernel
theorem d_L_law_270 : decode c_L_law 270 = .ok (.iload 4, 2) := by decide +kernel
theorem d_L_law_272 : decode c_L_law 272 = .ok (.iconst 4, 1) := by decide +kernel
theorem d_L_law_273 : decode c_L_law 273 = .ok (.iadd, 1) := by decide +kernel
theorem d_L_law_274 : decode c_L_law 274 = .ok (.iaload, 1) := by decide +kernel
theorem d_L_law_275 : decode c_L_law 275 = .ok (.aload_n 3, 1) := by decide +kernel
theorem d_L_law_276 : decode c_L_law 276 = .ok (.invokestatic 76, 3) := by decide +kernel
theorem d_L_law_279 : decode c_L_law 279 = .ok (.istore 5, 2) := by decide +kernel
theorem d_L_law_281 : decode c_L_law 281 = .ok (.aload_n 2, 1) := by decide +kernel
theorem d_L_law_282 : decode c_L_law 282 = .ok (.aload_n 0, 1) := by decide +kernel
theorem d_L_law_283 : decode c_L_law 283 = .ok (.iload 4, 2) := by decide +kernel
theorem d_L_law_285 : decode c_L_law 285 = .ok (.iconst 1, 1) := by decide +kernel
theorem d_L_law_286 : decode c_L_law 286 = .ok (.iadd, 1) := by decide +kernel
theorem d_L_law_287 : decode c_L_law 287 = .ok (.iaload, 1) := by decide +kernel
theorem d_L_law_288 : decode c_L_law 288 = .ok (.aload_n 0, 1) := by decide +kernel
theorem d_L_law_289 : decode c_L_law 289 = .ok (.iload 4, 2) := by decide +kernel
theorem d_L_law_291 : decode c_L_law 291 = .ok (.iconst 2, 1) := by decide +kernel
theorem d_L_law_292 : decode c_L_law 292 = .ok (.iadd, 1) := by decide +kernel
theorem d_L_law_293 : decode c_L_law 293 = .ok (.iaload, 1) := by decide +kernel
theorem d_L_law_294 : decode c_L_law 294 = .ok (.aload_n 0, 1) := by decide +kernel
theorem d_L_law_295 : decode c_L_law 295 = .ok (.iload 4, 2) := by decide +kernel
theorem d_L_law_297 : decode c_L_law 297 = .ok (.iconst 3, 1) := by decide +kernel
theorem d_L_law_298 : decode c_L_law 298 = .ok (.iadd, 1) := by decide +kernel
theorem d_L_law_299 : decode c_L_law 299 = .ok (.iaload, 1) := by decide +kernel
theorem d_L_law_300 : decode c_L_law 300 = .ok (.aload_n 0, 1) := by decide +kernel
theorem d_L_law_301 : decode c_L_law 301 = .ok (.iload 4, 2) := by decide +kernel
theorem d_L_law_303 : decode c_L_law 303 = .ok (.iconst 4, 1) := by decide +kernel
theorem d_L_law_304 : decode c_L_law 304 = .ok (.iadd, 1) := by decide +kernel
theorem d_L_law_305 : decode c_L_law 305 = .ok (.iaload, 1) := by decide +kernel
theorem d_L_law_306 : decode c_L_law 306 = .ok (.invokevirtual 79, 3) := by decide +kernel
theorem d_L_law_309 : decode c_L_law 309 = .ok (.istore 6, 2) := by decide +kernel
theorem d_L_law_311 : decode c_L_law 311 = .ok (.aload_n 2, 1) := by decide +kernel
theorem d_L_law_312 : decode c_L_law 312 = .ok (.invokevirtual 68, 3) := by decide +kernel
theorem d_L_law_315 : decode c_L_law 315 = .ok (.iload 5, 2) := by decide +kernel
theorem d_L_law_317 : decode c_L_law 317 = .ok (.if_icmp .eq 5, 3) := by decide +kernel
theorem d_L_law_320 : decode c_L_law 320 = .ok (.iconst 0, 1) := by decide +kernel
theorem d_L_law_321 : decode c_L_law 321 = .ok (.ireturn, 1) := by decide +kernel
theorem d_L_law_322 : decode c_L_law 322 = .ok (.iload 5, 2) := by decide +kernel
theorem d_L_law_324 : decode c_L_law 324 = .ok (.ifCond .ne 15, 3) := by decide +kernel
theorem d_L_law_327 : decode c_L_law 327 = .ok (.aload_n 3, 1) := by decide +kernel
theorem d_L_law_328 : decode c_L_law 328 = .ok (.iconst 0, 1) := by decide +kernel
theorem d_L_law_329 : decode c_L_law 329 = .ok (.laload, 1) := by decide +kernel
theorem d_L_law_330 : decode c_L_law 330 = .ok (.iload 6, 2) := by decide +kernel
theorem d_L_law_332 : decode c_L_law 332 = .ok (.i2l, 1) := by decide +kernel
theorem d_L_law_333 : decode c_L_law 333 = .ok (.lcmp, 1) := by decide +kernel
theorem d_L_law_334 : decode c_L_law 334 = .ok (.ifCond .eq 5, 3) := by decide +kernel
theorem d_L_law_337 : decode c_L_law 337 = .ok (.iconst 0, 1) := by decide +kernel
theorem d_L_law_338 : decode c_L_law 338 = .ok (.ireturn, 1) := by decide +kernel
theorem d_L_law_339 : decode c_L_law 339 = .ok (.goto 622, 3) := by decide +kernel
theorem d_L_law_342 : decode c_L_law 342 = .ok (.aload_n 1, 1) := by decide +kernel
theorem d_L_law_343 : decode c_L_law 343 = .ok (.aload_n 0, 1) := by decide +kernel
theorem d_L_law_344 : decode c_L_law 344 = .ok (.iload 4, 2) := by decide +kernel
theorem d_L_law_346 : decode c_L_law 346 = .ok (.iconst 1, 1) := by decide +kernel
theorem d_L_law_347 : decode c_L_law 347 = .ok (.iadd, 1) := by decide +kernel
theorem d_L_law_348 : decode c_L_law 348 = .ok (.iaload, 1) := by decide +kernel
theorem d_L_law_349 : decode c_L_law 349 = .ok (.aload_n 0, 1) := by decide +kernel
theorem d_L_law_350 : decode c_L_law 350 = .ok (.iload 4, 2) := by decide +kernel
theorem d_L_law_352 : decode c_L_law 352 = .ok (.iconst 2, 1) := by decide +kernel
theorem d_L_law_353 : decode c_L_law 353 = .ok (.iadd, 1) := by decide +kernel
theorem d_L_law_354 : decode c_L_law 354 = .ok (.iaload, 1) := by decide +kernel
theorem d_L_law_355 : decode c_L_law 355 = .ok (.aload_n 0, 1) := by decide +kernel
theorem d_L_law_356 : decode c_L_law 356 = .ok (.iload 4, 2) := by decide +kernel
theorem d_L_law_358 : decode c_L_law 358 = .ok (.iconst 3, 1) := by decide +kernel
theorem d_L_law_359 : decode c_L_law 359 = .ok (.iadd, 1) := by decide +kernel
theorem d_L_law_360 : decode c_L_law 360 = .ok (.iaload, 1) := by decide +kernel
theorem d_L_law_361 : decode c_L_law 361 = .ok (.aload_n 3, 1) := by decide +kernel
theorem d_L_law_362 : decode c_L_law 362 = .ok (.invokestatic 80, 3) := by decide +kernel
theorem d_L_law_365 : decode c_L_law 365 = .ok (.istore 5, 2) := by decide +kernel
theorem d_L_law_367 : decode c_L_law 367 = .ok (.aload_n 2, 1) := by decide +kernel
theorem d_L_law_368 : decode c_L_law 368 = .ok (.aload_n 0, 1) := by decide +kernel
theorem d_L_law_369 : decode c_L_law 369 = .ok (.iload 4, 2) := by decide +kernel
theorem d_L_law_371 : decode c_L_law 371 = .ok (.iconst 1, 1) := by decide +kernel
theorem d_L_law_372 : decode c_L_law 372 = .ok (.iadd, 1) := by decide +kernel
theorem d_L_law_373 : decode c_L_law 373 = .ok (.iaload, 1) := by decide +kernel
theorem d_L_law_374 : decode c_L_law 374 = .ok (.aload_n 0, 1) := by decide +kernel
theorem d_L_law_375 : decode c_L_law 375 = .ok (.iload 4, 2) := by decide +kernel
theorem d_L_law_377 : decode c_L_law 377 = .ok (.iconst 2, 1) := by decide +kernel
theorem d_L_law_378 : decode c_L_law 378 = .ok (.iadd, 1) := by decide +kernel
theorem d_L_law_379 : decode c_L_law 379 = .ok (.iaload, 1) := by decide +kernel
theorem d_L_law_380 : decode c_L_law 380 = .ok (.aload_n 0, 1) := by decide +kernel
theorem d_L_law_381 : decode c_L_law 381 = .ok (.iload 4, 2) := by decide +kernel
theorem d_L_law_383 : decode c_L_law 383 = .ok (.iconst 3, 1) := by decide +kernel
theorem d_L_law_384 : decode c_L_law 384 = .ok (.iadd, 1) := by decide +kernel
theorem d_L_law_385 : decode c_L_law 385 = .ok (.iaload, 1) := by decide +kernel
theorem d_L_law_386 : decode c_L_law 386 = .ok (.invokevirtual 83, 3) := by decide +kernel
theorem d_L_law_389 : decode c_L_law 389 = .ok (.istore 6, 2) := by decide +kernel
theorem d_L_law_391 : decode c_L_law 391 = .ok (.aload_n 2, 1) := by decide +kernel
theorem d_L_law_392 : decode c_L_law 392 = .ok (.invokevirtual 68, 3) := by decide +kernel
theorem d_L_law_395 : decode c_L_law 395 = .ok (.iload 5, 2) := by decide +kernel
theorem d_L_law_397 : decode c_L_law 397 = .ok (.if_icmp .eq 5, 3) := by decide +kernel
theorem d_L_law_400 : decode c_L_law 400 = .ok (.iconst 0, 1) := by decide +kernel
theorem d_L_law_401 : decode c_L_law 401 = .ok (.ireturn, 1) := by decide +kernel
theorem d_L_law_402 : decode c_L_law 402 = .ok (.iload 5, 2) := by decide +kernel
theorem d_L_law_404 : decode c_L_law 404 = .ok (.ifCond .ne 15, 3) := by decide +kernel
theorem d_L_law_407 : decode c_L_law 407 = .ok (.aload_n 3, 1) := by decide +kernel
theorem d_L_law_408 : decode c_L_law 408 = .ok (.iconst 0, 1) := by decide +kernel
theorem d_L_law_409 : decode c_L_law 409 = .ok (.laload, 1) := by decide +kernel
theorem d_L_law_410 : decode c_L_law 410 = .ok (.iload 6, 2) := by decide +kernel
theorem d_L_law_412 : decode c_L_law 412 = .ok (.i2l, 1) := by decide +kernel
theorem d_L_law_413 : decode c_L_law 413 = .ok (.lcmp, 1) := by decide +kernel
theorem d_L_law_414 : decode c_L_law 414 = .ok (.ifCond .eq 5, 3) := by decide +kernel
theorem d_L_law_417 : decode c_L_law 417 = .ok (.iconst 0, 1) := by decide +kernel
theorem d_L_law_418 : decode c_L_law 418 = .ok (.ireturn, 1) := by decide +kernel
theorem d_L_law_419 : decode c_L_law 419 = .ok (.goto 542, 3) := by decide +kernel
theorem d_L_law_422 : decode c_L_law 422 = .ok (.aload_n 1, 1) := by decide +kernel
theorem d_L_law_423 : decode c_L_law 423 = .ok (.aload_n 0, 1) := by decide +kernel
theorem d_L_law_424 : decode c_L_law 424 = .ok (.iload 4, 2) := by decide +kernel
theorem d_L_law_426 : decode c_L_law 426 = .ok (.iconst 1, 1) := by decide +kernel
theorem d_L_law_427 : decode c_L_law 427 = .ok (.iadd, 1) := by decide +kernel
theorem d_L_law_428 : decode c_L_law 428 = .ok (.iaload, 1) := by decide +kernel
theorem d_L_law_429 : decode c_L_law 429 = .ok (.aload_n 3, 1) := by decide +kernel
theorem d_L_law_430 : decode c_L_law 430 = .ok (.invokestatic 84, 3) := by decide +kernel
theorem d_L_law_433 : decode c_L_law 433 = .ok (.istore 5, 2) := by decide +kernel
theorem d_L_law_435 : decode c_L_law 435 = .ok (.aload_n 2, 1) := by decide +kernel
theorem d_L_law_436 : decode c_L_law 436 = .ok (.aload_n 0, 1) := by decide +kernel
theorem d_L_law_437 : decode c_L_law 437 = .ok (.iload 4, 2) := by decide +kernel
theorem d_L_law_439 : decode c_L_law 439 = .ok (.iconst 1, 1) := by decide +kernel
theorem d_L_law_440 : decode c_L_law 440 = .ok (.iadd, 1) := by decide +kernel
theorem d_L_law_441 : decode c_L_law 441 = .ok (.iaload, 1) := by decide +kernel
theorem d_L_law_442 : decode c_L_law 442 = .ok (.invokevirtual 87, 3) := by decide +kernel
theorem d_L_law_445 : decode c_L_law 445 = .ok (.istore 6, 2) := by decide +kernel
theorem d_L_law_447 : decode c_L_law 447 = .ok (.aload_n 2, 1) := by decide +kernel
theorem d_L_law_448 : decode c_L_law 448 = .ok (.invokevirtual 68, 3) := by decide +kernel
theorem d_L_law_451 : decode c_L_law 451 = .ok (.iload 5, 2) := by decide +kernel
theorem d_L_law_453 : decode c_L_law 453 = .ok (.if_icmp .eq 5, 3) := by decide +kernel
theorem d_L_law_456 : decode c_L_law 456 = .ok (.iconst 0, 1) := by decide +kernel
theorem d_L_law_457 : decode c_L_law 457 = .ok (.ireturn, 1) := by decide +kernel
theorem d_L_law_458 : decode c_L_law 458 = .ok (.iload 5, 2) := by decide +kernel
theorem d_L_law_460 : decode c_L_law 460 = .ok (.ifCond .ne 15, 3) := by decide +kernel
theorem d_L_law_463 : decode c_L_law 463 = .ok (.aload_n 3, 1) := by decide +kernel
theorem d_L_law_464 : decode c_L_law 464 = .ok (.iconst 0, 1) := by decide +kernel
theorem d_L_law_465 : decode c_L_law 465 = .ok (.laload, 1) := by decide +kernel
theorem d_L_law_466 : decode c_L_law 466 = .ok (.iload 6, 2) := by decide +kernel
theorem d_L_law_468 : decode c_L_law 468 = .ok (.i2l, 1) := by decide +kernel
theorem d_L_law_469 : decode c_L_law 469 = .ok (.lcmp, 1) := by decide +kernel
theorem d_L_law_470 : decode c_L_law 470 = .ok (.ifCond .eq 5, 3) := by decide +kernel
theorem d_L_law_473 : decode c_L_law 473 = .ok (.iconst 0, 1) := by decide +kernel
theorem d_L_law_474 : decode c_L_law 474 = .ok (.ireturn, 1) := by decide +kernel
theorem d_L_law_475 : decode c_L_law 475 = .ok (.goto 486, 3) := by decide +kernel
theorem d_L_law_478 : decode c_L_law 478 = .ok (.aload_n 1, 1) := by decide +kernel
theorem d_L_law_479 : decode c_L_law 479 = .ok (.aload_n 0, 1) := by decide +kernel
theorem d_L_law_480 : decode c_L_law 480 = .ok (.iload 4, 2) := by decide +kernel
theorem d_L_law_482 : decode c_L_law 482 = .ok (.iconst 1, 1) := by decide +kernel
theorem d_L_law_483 : decode c_L_law 483 = .ok (.iadd, 1) := by decide +kernel
theorem d_L_law_484 : decode c_L_law 484 = .ok (.iaload, 1) := by decide +kernel
theorem d_L_law_485 : decode c_L_law 485 = .ok (.aload_n 0, 1) := by decide +kernel
theorem d_L_law_486 : decode c_L_law 486 = .ok (.iload 4, 2) := by decide +kernel
theorem d_L_law_488 : decode c_L_law 488 = .ok (.iconst 2, 1) := by decide +kernel
theorem d_L_law_489 : decode c_L_law 489 = .ok (.iadd, 1) := by decide +kernel
theorem d_L_law_490 : decode c_L_law 490 = .ok (.iaload, 1) := by decide +kernel
theorem d_L_law_491 : decode c_L_law 491 = .ok (.aload_n 3, 1) := by decide +kernel
theorem d_L_law_492 : decode c_L_law 492 = .ok (.invokestatic 88, 3) := by decide +kernel
theorem d_L_law_495 : decode c_L_law 495 = .ok (.istore 5, 2) := by decide +kernel
theorem d_L_law_497 : decode c_L_law 497 = .ok (.aload_n 2, 1) := by decide +kernel
theorem d_L_law_498 : decode c_L_law 498 = .ok (.aload_n 0, 1) := by decide +kernel
theorem d_L_law_499 : decode c_L_law 499 = .ok (.iload 4, 2) := by decide +kernel
theorem d_L_law_501 : decode c_L_law 501 = .ok (.iconst 1, 1) := by decide +kernel
theorem d_L_law_502 : decode c_L_law 502 = .ok (.iadd, 1) := by decide +kernel
theorem d_L_law_503 : decode c_L_law 503 = .ok (.iaload, 1) := by decide +kernel
theorem d_L_law_504 : decode c_L_law 504 = .ok (.aload_n 0, 1) := by decide +kernel
theorem d_L_law_505 : decode c_L_law 505 = .ok (.iload 4, 2) := by decide +kernel
theorem d_L_law_507 : decode c_L_law 507 = .ok (.iconst 2, 1) := by decide +kernel
theorem d_L_law_508 : decode c_L_law 508 = .ok (.iadd, 1) := by decide +kernel
theorem d_L_law_509 : decode c_L_law 509 = .ok (.iaload, 1) := by decide +kernel
theorem d_L_law_510 : decode c_L_law 510 = .ok (.invokevirtual 90, 3) := by decide +kernel
theorem d_L_law_513 : decode c_L_law 513 = .ok (.istore 6, 2) := by decide +kernel
theorem d_L_law_515 : decode c_L_law 515 = .ok (.aload_n 2, 1) := by decide +kernel
theorem d_L_law_516 : decode c_L_law 516 = .ok (.invokevirtual 68, 3) := by decide +kernel
theorem d_L_law_519 : decode c_L_law 519 = .ok (.iload 5, 2) := by decide +kernel
theorem d_L_law_521 : decode c_L_law 521 = .ok (.if_icmp .eq 5, 3) := by decide +kernel
theorem d_L_law_524 : decode c_L_law 524 = .ok (.iconst 0, 1) := by decide +kernel
theorem d_L_law_525 : decode c_L_law 525 = .ok (.ireturn, 1) := by decide +kernel
theorem d_L_law_526 : decode c_L_law 526 = .ok (.iload 5, 2) := by decide +kernel
theorem d_L_law_528 : decode c_L_law 528 = .ok (.ifCond .ne 15, 3) := by decide +kernel
theorem d_L_law_531 : decode c_L_law 531 = .ok (.aload_n 3, 1) := by decide +kernel
theorem d_L_law_532 : decode c_L_law 532 = .ok (.iconst 0, 1) := by decide +kernel
theorem d_L_law_533 : decode c_L_law 533 = .ok (.laload, 1) := by decide +kernel
theorem d_L_law_534 : decode c_L_law 534 = .ok (.iload 6, 2) := by decide +kernel
theorem d_L_law_536 : decode c_L_law 536 = .ok (.i2l, 1) := by decide +kernel
theorem d_L_law_537 : decode c_L_law 537 = .ok (.lcmp, 1) := by decide +kernel
theorem d_L_law_538 : decode c_L_law 538 = .ok (.ifCond .eq 5, 3) := by decide +kernel
theorem d_L_law_541 : decode c_L_law 541 = .ok (.iconst 0, 1) := by decide +kernel
theorem d_L_law_542 : decode c_L_law 542 = .ok (.ireturn, 1) := by decide +kernel
theorem d_L_law_543 : decode c_L_law 543 = .ok (.goto 418, 3) := by decide +kernel
theorem d_L_law_546 : decode c_L_law 546 = .ok (.aload_n 1, 1) := by decide +kernel
theorem d_L_law_547 : decode c_L_law 547 = .ok (.aload_n 0, 1) := by decide +kernel
theorem d_L_law_548 : decode c_L_law 548 = .ok (.iload 4, 2) := by decide +kernel
theorem d_L_law_550 : decode c_L_law 550 = .ok (.iconst 1, 1) := by decide +kernel
theorem d_L_law_551 : decode c_L_law 551 = .ok (.iadd, 1) := by decide +kernel
theorem d_L_law_552 : decode c_L_law 552 = .ok (.iaload, 1) := by decide +kernel
theorem d_L_law_553 : decode c_L_law 553 = .ok (.aload_n 0, 1) := by decide +kernel
theorem d_L_law_554 : decode c_L_law 554 = .ok (.iload 4, 2) := by decide +kernel
theorem d_L_law_556 : decode c_L_law 556 = .ok (.iconst 2, 1) := by decide +kernel
theorem d_L_law_557 : decode c_L_law 557 = .ok (.iadd, 1) := by decide +kernel
theorem d_L_law_558 : decode c_L_law 558 = .ok (.iaload, 1) := by decide +kernel
theorem d_L_law_559 : decode c_L_law 559 = .ok (.aload_n 3, 1) := by decide +kernel
theorem d_L_law_560 : decode c_L_law 560 = .ok (.invokestatic 91, 3) := by decide +kernel
theorem d_L_law_563 : decode c_L_law 563 = .ok (.istore 5, 2) := by decide +kernel
theorem d_L_law_565 : decode c_L_law 565 = .ok (.aload_n 2, 1) := by decide +kernel
theorem d_L_law_566 : decode c_L_law 566 = .ok (.aload_n 0, 1) := by decide +kernel
theorem d_L_law_567 : decode c_L_law 567 = .ok (.iload 4, 2) := by decide +kernel
theorem d_L_law_569 : decode c_L_law 569 = .ok (.iconst 1, 1) := by decide +kernel
theorem d_L_law_570 : decode c_L_law 570 = .ok (.iadd, 1) := by decide +kernel
theorem d_L_law_571 : decode c_L_law 571 = .ok (.iaload, 1) := by decide +kernel
theorem d_L_law_572 : decode c_L_law 572 = .ok (.aload_n 0, 1) := by decide +kernel
theorem d_L_law_573 : decode c_L_law 573 = .ok (.iload 4, 2) := by decide +kernel
theorem d_L_law_575 : decode c_L_law 575 = .ok (.iconst 2, 1) := by decide +kernel
theorem d_L_law_576 : decode c_L_law 576 = .ok (.iadd, 1) := by decide +kernel
theorem d_L_law_577 : decode c_L_law 577 = .ok (.iaload, 1) := by decide +kernel
theorem d_L_law_578 : decode c_L_law 578 = .ok (.invokevirtual 93, 3) := by decide +kernel
theorem d_L_law_581 : decode c_L_law 581 = .ok (.istore 6, 2) := by decide +kernel
theorem d_L_law_583 : decode c_L_law 583 = .ok (.aload_n 2, 1) := by decide +kernel
theorem d_L_law_584 : decode c_L_law 584 = .ok (.invokevirtual 68, 3) := by decide +kernel
theorem d_L_law_587 : decode c_L_law 587 = .ok (.iload 5, 2) := by decide +kernel
theorem d_L_law_589 : decode c_L_law 589 = .ok (.if_icmp .eq 5, 3) := by decide +kernel
theorem d_L_law_592 : decode c_L_law 592 = .ok (.iconst 0, 1) := by decide +kernel
theorem d_L_law_593 : decode c_L_law 593 = .ok (.ireturn, 1) := by decide +kernel
theorem d_L_law_594 : decode c_L_law 594 = .ok (.iload 5, 2) := by decide +kernel
theorem d_L_law_596 : decode c_L_law 596 = .ok (.ifCond .ne 15, 3) := by decide +kernel
theorem d_L_law_599 : decode c_L_law 599 = .ok (.aload_n 3, 1) := by decide +kernel
theorem d_L_law_600 : decode c_L_law 600 = .ok (.iconst 0, 1) := by decide +kernel
theorem d_L_law_601 : decode c_L_law 601 = .ok (.laload, 1) := by decide +kernel
theorem d_L_law_602 : decode c_L_law 602 = .ok (.iload 6, 2) := by decide +kernel
theorem d_L_law_604 : decode c_L_law 604 = .ok (.i2l, 1) := by decide +kernel
theorem d_L_law_605 : decode c_L_law 605 = .ok (.lcmp, 1) := by decide +kernel
theorem d_L_law_606 : decode c_L_law 606 = .ok (.ifCond .eq 5, 3) := by decide +kernel
theorem d_L_law_609 : decode c_L_law 609 = .ok (.iconst 0, 1) := by decide +kernel
theorem d_L_law_610 : decode c_L_law 610 = .ok (.ireturn, 1) := by decide +kernel
theorem d_L_law_611 : decode c_L_law 611 = .ok (.goto 350, 3) := by decide +kernel
theorem d_L_law_614 : decode c_L_law 614 = .ok (.aload_n 1, 1) := by decide +kernel
theorem d_L_law_615 : decode c_L_law 615 = .ok (.aload_n 0, 1) := by decide +kernel
theorem d_L_law_616 : decode c_L_law 616 = .ok (.iload 4, 2) := by decide +kernel
theorem d_L_law_618 : decode c_L_law 618 = .ok (.iconst 1, 1) := by decide +kernel
theorem d_L_law_619 : decode c_L_law 619 = .ok (.iadd, 1) := by decide +kernel
theorem d_L_law_620 : decode c_L_law 620 = .ok (.iaload, 1) := by decide +kernel
theorem d_L_law_621 : decode c_L_law 621 = .ok (.aload_n 0, 1) := by decide +kernel
theorem d_L_law_622 : decode c_L_law 622 = .ok (.iload 4, 2) := by decide +kernel
theorem d_L_law_624 : decode c_L_law 624 = .ok (.iconst 2, 1) := by decide +kernel
theorem d_L_law_625 : decode c_L_law 625 = .ok (.iadd, 1) := by decide +kernel
theorem d_L_law_626 : decode c_L_law 626 = .ok (.iaload, 1) := by decide +kernel
theorem d_L_law_627 : decode c_L_law 627 = .ok (.aload_n 3, 1) := by decide +kernel
theorem d_L_law_628 : decode c_L_law 628 = .ok (.invokestatic 94, 3) := by decide +kernel
theorem d_L_law_631 : decode c_L_law 631 = .ok (.istore 5, 2) := by decide +kernel
theorem d_L_law_633 : decode c_L_law 633 = .ok (.aload_n 2, 1) := by decide +kernel
theorem d_L_law_634 : decode c_L_law 634 = .ok (.aload_n 0, 1) := by decide +kernel
theorem d_L_law_635 : decode c_L_law 635 = .ok (.iload 4, 2) := by decide +kernel
theorem d_L_law_637 : decode c_L_law 637 = .ok (.iconst 1, 1) := by decide +kernel
theorem d_L_law_638 : decode c_L_law 638 = .ok (.iadd, 1) := by decide +kernel
theorem d_L_law_639 : decode c_L_law 639 = .ok (.iaload, 1) := by decide +kernel
theorem d_L_law_640 : decode c_L_law 640 = .ok (.aload_n 0, 1) := by decide +kernel
theorem d_L_law_641 : decode c_L_law 641 = .ok (.iload 4, 2) := by decide +kernel
theorem d_L_law_643 : decode c_L_law 643 = .ok (.iconst 2, 1) := by decide +kernel
theorem d_L_law_644 : decode c_L_law 644 = .ok (.iadd, 1) := by decide +kernel
theorem d_L_law_645 : decode c_L_law 645 = .ok (.iaload, 1) := by decide +kernel
theorem d_L_law_646 : decode c_L_law 646 = .ok (.invokevirtual 96, 3) := by decide +kernel
theorem d_L_law_649 : decode c_L_law 649 = .ok (.istore 6, 2) := by decide +kernel
theorem d_L_law_651 : decode c_L_law 651 = .ok (.aload_n 2, 1) := by decide +kernel
theorem d_L_law_652 : decode c_L_law 652 = .ok (.invokevirtual 68, 3) := by decide +kernel
theorem d_L_law_655 : decode c_L_law 655 = .ok (.iload 5, 2) := by decide +kernel
theorem d_L_law_657 : decode c_L_law 657 = .ok (.if_icmp .eq 5, 3) := by decide +kernel
theorem d_L_law_660 : decode c_L_law 660 = .ok (.iconst 0, 1) := by decide +kernel
theorem d_L_law_661 : decode c_L_law 661 = .ok (.ireturn, 1) := by decide +kernel
theorem d_L_law_662 : decode c_L_law 662 = .ok (.iload 5, 2) := by decide +kernel
theorem d_L_law_664 : decode c_L_law 664 = .ok (.ifCond .ne 15, 3) := by decide +kernel
theorem d_L_law_667 : decode c_L_law 667 = .ok (.aload_n 3, 1) := by decide +kernel
theorem d_L_law_668 : decode c_L_law 668 = .ok (.iconst 0, 1) := by decide +kernel
theorem d_L_law_669 : decode c_L_law 669 = .ok (.laload, 1) := by decide +kernel
theorem d_L_law_670 : decode c_L_law 670 = .ok (.iload 6, 2) := by decide +kernel
theorem d_L_law_672 : decode c_L_law 672 = .ok (.i2l, 1) := by decide +kernel
theorem d_L_law_673 : decode c_L_law 673 = .ok (.lcmp, 1) := by decide +kernel
theorem d_L_law_674 : decode c_L_law 674 = .ok (.ifCond .eq 5, 3) := by decide +kernel
theorem d_L_law_677 : decode c_L_law 677 = .ok (.iconst 0, 1) := by decide +kernel
theorem d_L_law_678 : decode c_L_law 678 = .ok (.ireturn, 1) := by decide +kernel
theorem d_L_law_679 : decode c_L_law 679 = .ok (.goto 282, 3) := by decide +kernel
theorem d_L_law_682 : decode c_L_law 682 = .ok (.aload_n 1, 1) := by decide +kernel
theorem d_L_law_683 : decode c_L_law 683 = .ok (.aload_n 0, 1) := by decide +kernel
theorem d_L_law_684 : decode c_L_law 684 = .ok (.iload 4, 2) := by decide +kernel
theorem d_L_law_686 : decode c_L_law 686 = .ok (.iconst 1, 1) := by decide +kernel
theorem d_L_law_687 : decode c_L_law 687 = .ok (.iadd, 1) := by decide +kernel
theorem d_L_law_688 : decode c_L_law 688 = .ok (.iaload, 1) := by decide +kernel
theorem d_L_law_689 : decode c_L_law 689 = .ok (.aload_n 3, 1) := by decide +kernel
theorem d_L_law_690 : decode c_L_law 690 = .ok (.invokestatic 97, 3) := by decide +kernel
theorem d_L_law_693 : decode c_L_law 693 = .ok (.istore 5, 2) := by decide +kernel
theorem d_L_law_695 : decode c_L_law 695 = .ok (.aload_n 2, 1) := by decide +kernel
theorem d_L_law_696 : decode c_L_law 696 = .ok (.aload_n 0, 1) := by decide +kernel
theorem d_L_law_697 : decode c_L_law 697 = .ok (.iload 4, 2) := by decide +kernel
theorem d_L_law_699 : decode c_L_law 699 = .ok (.iconst 1, 1) := by decide +kernel
theorem d_L_law_700 : decode c_L_law 700 = .ok (.iadd, 1) := by decide +kernel
theorem d_L_law_701 : decode c_L_law 701 = .ok (.iaload, 1) := by decide +kernel
theorem d_L_law_702 : decode c_L_law 702 = .ok (.invokevirtual 99, 3) := by decide +kernel
theorem d_L_law_705 : decode c_L_law 705 = .ok (.istore 6, 2) := by decide +kernel
theorem d_L_law_707 : decode c_L_law 707 = .ok (.aload_n 2, 1) := by decide +kernel
theorem d_L_law_708 : decode c_L_law 708 = .ok (.invokevirtual 68, 3) := by decide +kernel
theorem d_L_law_711 : decode c_L_law 711 = .ok (.iload 5, 2) := by decide +kernel
theorem d_L_law_713 : decode c_L_law 713 = .ok (.if_icmp .eq 5, 3) := by decide +kernel
theorem d_L_law_716 : decode c_L_law 716 = .ok (.iconst 0, 1) := by decide +kernel
theorem d_L_law_717 : decode c_L_law 717 = .ok (.ireturn, 1) := by decide +kernel
theorem d_L_law_718 : decode c_L_law 718 = .ok (.iload 5, 2) := by decide +kernel
theorem d_L_law_720 : decode c_L_law 720 = .ok (.ifCond .ne 15, 3) := by decide +kernel
theorem d_L_law_723 : decode c_L_law 723 = .ok (.aload_n 3, 1) := by decide +kernel
theorem d_L_law_724 : decode c_L_law 724 = .ok (.iconst 0, 1) := by decide +kernel
theorem d_L_law_725 : decode c_L_law 725 = .ok (.laload, 1) := by decide +kernel
theorem d_L_law_726 : decode c_L_law 726 = .ok (.iload 6, 2) := by decide +kernel
theorem d_L_law_728 : decode c_L_law 728 = .ok (.i2l, 1) := by decide +kernel
theorem d_L_law_729 : decode c_L_law 729 = .ok (.lcmp, 1) := by decide +kernel
theorem d_L_law_730 : decode c_L_law 730 = .ok (.ifCond .eq 5, 3) := by decide +kernel
theorem d_L_law_733 : decode c_L_law 733 = .ok (.iconst 0, 1) := by decide +kernel
theorem d_L_law_734 : decode c_L_law 734 = .ok (.ireturn, 1) := by decide +kernel
theorem d_L_law_735 : decode c_L_law 735 = .ok (.goto 226, 3) := by decide +kernel
theorem d_L_law_738 : decode c_L_law 738 = .ok (.aload_n 1, 1) := by decide +kernel
theorem d_L_law_739 : decode c_L_law 739 = .ok (.aload_n 0, 1) := by decide +kernel
theorem d_L_law_740 : decode c_L_law 740 = .ok (.iload 4, 2) := by decide +kernel
theorem d_L_law_742 : decode c_L_law 742 = .ok (.iconst 1, 1) := by decide +kernel
theorem d_L_law_743 : decode c_L_law 743 = .ok (.iadd, 1) := by decide +kernel
theorem d_L_law_744 : decode c_L_law 744 = .ok (.iaload, 1) := by decide +kernel
theorem d_L_law_745 : decode c_L_law 745 = .ok (.aload_n 0, 1) := by decide +kernel
theorem d_L_law_746 : decode c_L_law 746 = .ok (.iload 4, 2) := by decide +kernel
theorem d_L_law_748 : decode c_L_law 748 = .ok (.iconst 2, 1) := by decide +kernel
theorem d_L_law_749 : decode c_L_law 749 = .ok (.iadd, 1) := by decide +kernel
theorem d_L_law_750 : decode c_L_law 750 = .ok (.iaload, 1) := by decide +kernel
theorem d_L_law_751 : decode c_L_law 751 = .ok (.aload_n 0, 1) := by decide +kernel
theorem d_L_law_752 : decode c_L_law 752 = .ok (.iload 4, 2) := by decide +kernel
theorem d_L_law_754 : decode c_L_law 754 = .ok (.iconst 3, 1) := by decide +kernel
theorem d_L_law_755 : decode c_L_law 755 = .ok (.iadd, 1) := by decide +kernel
theorem d_L_law_756 : decode c_L_law 756 = .ok (.iaload, 1) := by decide +kernel
theorem d_L_law_757 : decode c_L_law 757 = .ok (.aload_n 3, 1) := by decide +kernel
theorem d_L_law_758 : decode c_L_law 758 = .ok (.invokestatic 100, 3) := by decide +kernel
theorem d_L_law_761 : decode c_L_law 761 = .ok (.istore 5, 2) := by decide +kernel
theorem d_L_law_763 : decode c_L_law 763 = .ok (.aload_n 2, 1) := by decide +kernel
theorem d_L_law_764 : decode c_L_law 764 = .ok (.aload_n 0, 1) := by decide +kernel
theorem d_L_law_765 : decode c_L_law 765 = .ok (.iload 4, 2) := by decide +kernel
theorem d_L_law_767 : decode c_L_law 767 = .ok (.iconst 1, 1) := by decide +kernel
theorem d_L_law_768 : decode c_L_law 768 = .ok (.iadd, 1) := by decide +kernel
theorem d_L_law_769 : decode c_L_law 769 = .ok (.iaload, 1) := by decide +kernel
theorem d_L_law_770 : decode c_L_law 770 = .ok (.aload_n 0, 1) := by decide +kernel
theorem d_L_law_771 : decode c_L_law 771 = .ok (.iload 4, 2) := by decide +kernel
theorem d_L_law_773 : decode c_L_law 773 = .ok (.iconst 2, 1) := by decide +kernel
theorem d_L_law_774 : decode c_L_law 774 = .ok (.iadd, 1) := by decide +kernel
theorem d_L_law_775 : decode c_L_law 775 = .ok (.iaload, 1) := by decide +kernel
theorem d_L_law_776 : decode c_L_law 776 = .ok (.aload_n 0, 1) := by decide +kernel
theorem d_L_law_777 : decode c_L_law 777 = .ok (.iload 4, 2) := by decide +kernel
theorem d_L_law_779 : decode c_L_law 779 = .ok (.iconst 3, 1) := by decide +kernel
theorem d_L_law_780 : decode c_L_law 780 = .ok (.iadd, 1) := by decide +kernel
theorem d_L_law_781 : decode c_L_law 781 = .ok (.iaload, 1) := by decide +kernel
theorem d_L_law_782 : decode c_L_law 782 = .ok (.invokevirtual 102, 3) := by decide +kernel
theorem d_L_law_785 : decode c_L_law 785 = .ok (.istore 6, 2) := by decide +kernel
theorem d_L_law_787 : decode c_L_law 787 = .ok (.aload_n 2, 1) := by decide +kernel
theorem d_L_law_788 : decode c_L_law 788 = .ok (.invokevirtual 68, 3) := by decide +kernel
theorem d_L_law_791 : decode c_L_law 791 = .ok (.iload 5, 2) := by decide +kernel
theorem d_L_law_793 : decode c_L_law 793 = .ok (.if_icmp .eq 5, 3) := by decide +kernel
theorem d_L_law_796 : decode c_L_law 796 = .ok (.iconst 0, 1) := by decide +kernel
theorem d_L_law_797 : decode c_L_law 797 = .ok (.ireturn, 1) := by decide +kernel
theorem d_L_law_798 : decode c_L_law 798 = .ok (.iload 5, 2) := by decide +kernel
theorem d_L_law_800 : decode c_L_law 800 = .ok (.ifCond .ne 15, 3) := by decide +kernel
theorem d_L_law_803 : decode c_L_law 803 = .ok (.aload_n 3, 1) := by decide +kernel
theorem d_L_law_804 : decode c_L_law 804 = .ok (.iconst 0, 1) := by decide +kernel
theorem d_L_law_805 : decode c_L_law 805 = .ok (.laload, 1) := by decide +kernel
theorem d_L_law_806 : decode c_L_law 806 = .ok (.iload 6, 2) := by decide +kernel
theorem d_L_law_808 : decode c_L_law 808 = .ok (.i2l, 1) := by decide +kernel
theorem d_L_law_809 : decode c_L_law 809 = .ok (.lcmp, 1) := by decide +kernel
theorem d_L_law_810 : decode c_L_law 810 = .ok (.ifCond .eq 5, 3) := by decide +kernel
theorem d_L_law_813 : decode c_L_law 813 = .ok (.iconst 0, 1) := by decide +kernel
theorem d_L_law_814 : decode c_L_law 814 = .ok (.ireturn, 1) := by decide +kernel
theorem d_L_law_815 : decode c_L_law 815 = .ok (.goto 146, 3) := by decide +kernel
theorem d_L_law_818 : decode c_L_law 818 = .ok (.aload_n 1, 1) := by decide +kernel
theorem d_L_law_819 : decode c_L_law 819 = .ok (.aload_n 0, 1) := by decide +kernel
theorem d_L_law_820 : decode c_L_law 820 = .ok (.iload 4, 2) := by decide +kernel
theorem d_L_law_822 : decode c_L_law 822 = .ok (.iconst 1, 1) := by decide +kernel
theorem d_L_law_823 : decode c_L_law 823 = .ok (.iadd, 1) := by decide +kernel
theorem d_L_law_824 : decode c_L_law 824 = .ok (.iaload, 1) := by decide +kernel
theorem d_L_law_825 : decode c_L_law 825 = .ok (.aload_n 0, 1) := by decide +kernel
theorem d_L_law_826 : decode c_L_law 826 = .ok (.iload 4, 2) := by decide +kernel
theorem d_L_law_828 : decode c_L_law 828 = .ok (.iconst 2, 1) := by decide +kernel
theorem d_L_law_829 : decode c_L_law 829 = .ok (.iadd, 1) := by decide +kernel
theorem d_L_law_830 : decode c_L_law 830 = .ok (.iaload, 1) := by decide +kernel
theorem d_L_law_831 : decode c_L_law 831 = .ok (.aload_n 3, 1) := by decide +kernel
theorem d_L_law_832 : decode c_L_law 832 = .ok (.invokestatic 103, 3) := by decide +kernel
theorem d_L_law_835 : decode c_L_law 835 = .ok (.istore 5, 2) := by decide +kernel
theorem d_L_law_837 : decode c_L_law 837 = .ok (.aload_n 2, 1) := by decide +kernel
theorem d_L_law_838 : decode c_L_law 838 = .ok (.aload_n 0, 1) := by decide +kernel
theorem d_L_law_839 : decode c_L_law 839 = .ok (.iload 4, 2) := by decide +kernel
theorem d_L_law_841 : decode c_L_law 841 = .ok (.iconst 1, 1) := by decide +kernel
theorem d_L_law_842 : decode c_L_law 842 = .ok (.iadd, 1) := by decide +kernel
theorem d_L_law_843 : decode c_L_law 843 = .ok (.iaload, 1) := by decide +kernel
theorem d_L_law_844 : decode c_L_law 844 = .ok (.aload_n 0, 1) := by decide +kernel
theorem d_L_law_845 : decode c_L_law 845 = .ok (.iload 4, 2) := by decide +kernel
theorem d_L_law_847 : decode c_L_law 847 = .ok (.iconst 2, 1) := by decide +kernel
theorem d_L_law_848 : decode c_L_law 848 = .ok (.iadd, 1) := by decide +kernel
theorem d_L_law_849 : decode c_L_law 849 = .ok (.iaload, 1) := by decide +kernel
theorem d_L_law_850 : decode c_L_law 850 = .ok (.invokevirtual 105, 3) := by decide +kernel
theorem d_L_law_853 : decode c_L_law 853 = .ok (.istore 6, 2) := by decide +kernel
theorem d_L_law_855 : decode c_L_law 855 = .ok (.aload_n 2, 1) := by decide +kernel
theorem d_L_law_856 : decode c_L_law 856 = .ok (.invokevirtual 68, 3) := by decide +kernel
theorem d_L_law_859 : decode c_L_law 859 = .ok (.iload 5, 2) := by decide +kernel
theorem d_L_law_861 : decode c_L_law 861 = .ok (.if_icmp .eq 5, 3) := by decide +kernel
theorem d_L_law_864 : decode c_L_law 864 = .ok (.iconst 0, 1) := by decide +kernel
theorem d_L_law_865 : decode c_L_law 865 = .ok (.ireturn, 1) := by decide +kernel
theorem d_L_law_866 : decode c_L_law 866 = .ok (.iload 5, 2) := by decide +kernel
theorem d_L_law_868 : decode c_L_law 868 = .ok (.ifCond .ne 15, 3) := by decide +kernel
theorem d_L_law_871 : decode c_L_law 871 = .ok (.aload_n 3, 1) := by decide +kernel
theorem d_L_law_872 : decode c_L_law 872 = .ok (.iconst 0, 1) := by decide +kernel
theorem d_L_law_873 : decode c_L_law 873 = .ok (.laload, 1) := by decide +kernel
theorem d_L_law_874 : decode c_L_law 874 = .ok (.iload 6, 2) := by decide +kernel
theorem d_L_law_876 : decode c_L_law 876 = .ok (.i2l, 1) := by decide +kernel
theorem d_L_law_877 : decode c_L_law 877 = .ok (.lcmp, 1) := by decide +kernel
theorem d_L_law_878 : decode c_L_law 878 = .ok (.ifCond .eq 5, 3) := by decide +kernel
theorem d_L_law_881 : decode c_L_law 881 = .ok (.iconst 0, 1) := by decide +kernel
theorem d_L_law_882 : decode c_L_law 882 = .ok (.ireturn, 1) := by decide +kernel
theorem d_L_law_883 : decode c_L_law 883 = .ok (.goto 78, 3) := by decide +kernel
theorem d_L_law_886 : decode c_L_law 886 = .ok (.aload_n 1, 1) := by decide +kernel
theorem d_L_law_887 : decode c_L_law 887 = .ok (.aload_n 0, 1) := by decide +kernel
theorem d_L_law_888 : decode c_L_law 888 = .ok (.iload 4, 2) := by decide +kernel
theorem d_L_law_890 : decode c_L_law 890 = .ok (.iconst 1, 1) := by decide +kernel
theorem d_L_law_891 : decode c_L_law 891 = .ok (.iadd, 1) := by decide +kernel
theorem d_L_law_892 : decode c_L_law 892 = .ok (.iaload, 1) := by decide +kernel
theorem d_L_law_893 : decode c_L_law 893 = .ok (.aload_n 0, 1) := by decide +kernel
theorem d_L_law_894 : decode c_L_law 894 = .ok (.iload 4, 2) := by decide +kernel
theorem d_L_law_896 : decode c_L_law 896 = .ok (.iconst 2, 1) := by decide +kernel
theorem d_L_law_897 : decode c_L_law 897 = .ok (.iadd, 1) := by decide +kernel
theorem d_L_law_898 : decode c_L_law 898 = .ok (.iaload, 1) := by decide +kernel
theorem d_L_law_899 : decode c_L_law 899 = .ok (.aload_n 3, 1) := by decide +kernel
theorem d_L_law_900 : decode c_L_law 900 = .ok (.invokestatic 106, 3) := by decide +kernel
theorem d_L_law_903 : decode c_L_law 903 = .ok (.istore 5, 2) := by decide +kernel
theorem d_L_law_905 : decode c_L_law 905 = .ok (.aload_n 2, 1) := by decide +kernel
theorem d_L_law_906 : decode c_L_law 906 = .ok (.aload_n 0, 1) := by decide +kernel
theorem d_L_law_907 : decode c_L_law 907 = .ok (.iload 4, 2) := by decide +kernel
theorem d_L_law_909 : decode c_L_law 909 = .ok (.iconst 1, 1) := by decide +kernel
theorem d_L_law_910 : decode c_L_law 910 = .ok (.iadd, 1) := by decide +kernel
theorem d_L_law_911 : decode c_L_law 911 = .ok (.iaload, 1) := by decide +kernel
theorem d_L_law_912 : decode c_L_law 912 = .ok (.aload_n 0, 1) := by decide +kernel
theorem d_L_law_913 : decode c_L_law 913 = .ok (.iload 4, 2) := by decide +kernel
theorem d_L_law_915 : decode c_L_law 915 = .ok (.iconst 2, 1) := by decide +kernel
theorem d_L_law_916 : decode c_L_law 916 = .ok (.iadd, 1) := by decide +kernel
theorem d_L_law_917 : decode c_L_law 917 = .ok (.iaload, 1) := by decide +kernel
theorem d_L_law_918 : decode c_L_law 918 = .ok (.invokevirtual 108, 3) := by decide +kernel
theorem d_L_law_921 : decode c_L_law 921 = .ok (.istore 6, 2) := by decide +kernel
theorem d_L_law_923 : decode c_L_law 923 = .ok (.aload_n 2, 1) := by decide +kernel
theorem d_L_law_924 : decode c_L_law 924 = .ok (.invokevirtual 68, 3) := by decide +kernel
theorem d_L_law_927 : decode c_L_law 927 = .ok (.iload 5, 2) := by decide +kernel
theorem d_L_law_929 : decode c_L_law 929 = .ok (.if_icmp .eq 5, 3) := by decide +kernel
theorem d_L_law_932 : decode c_L_law 932 = .ok (.iconst 0, 1) := by decide +kernel
theorem d_L_law_933 : decode c_L_law 933 = .ok (.ireturn, 1) := by decide +kernel
theorem d_L_law_934 : decode c_L_law 934 = .ok (.iload 5, 2) := by decide +kernel
theorem d_L_law_936 : decode c_L_law 936 = .ok (.ifCond .ne 22, 3) := by decide +kernel
theorem d_L_law_939 : decode c_L_law 939 = .ok (.aload_n 3, 1) := by decide +kernel
theorem d_L_law_940 : decode c_L_law 940 = .ok (.iconst 0, 1) := by decide +kernel
theorem d_L_law_941 : decode c_L_law 941 = .ok (.laload, 1) := by decide +kernel
theorem d_L_law_942 : decode c_L_law 942 = .ok (.iload 6, 2) := by decide +kernel
theorem d_L_law_944 : decode c_L_law 944 = .ok (.ifCond .eq 7, 3) := by decide +kernel
theorem d_L_law_947 : decode c_L_law 947 = .ok (.lconst 1, 1) := by decide +kernel
theorem d_L_law_948 : decode c_L_law 948 = .ok (.goto 4, 3) := by decide +kernel
theorem d_L_law_951 : decode c_L_law 951 = .ok (.lconst 0, 1) := by decide +kernel
theorem d_L_law_952 : decode c_L_law 952 = .ok (.lcmp, 1) := by decide +kernel
theorem d_L_law_953 : decode c_L_law 953 = .ok (.ifCond .eq 5, 3) := by decide +kernel
theorem d_L_law_956 : decode c_L_law 956 = .ok (.iconst 0, 1) := by decide +kernel
theorem d_L_law_957 : decode c_L_law 957 = .ok (.ireturn, 1) := by decide +kernel
theorem d_L_law_958 : decode c_L_law 958 = .ok (.goto 3, 3) := by decide +kernel
theorem d_L_law_961 : decode c_L_law 961 = .ok (.iinc 4 5, 3) := by decide +kernel
theorem d_L_law_964 : decode c_L_law 964 = .ok (.goto (-941), 3) := by decide +kernel
theorem d_L_law_967 : decode c_L_law 967 = .ok (.iconst 1, 1) := by decide +kernel
theorem d_L_law_968 : decode c_L_law 968 = .ok (.ireturn, 1) := by decide +kernel
end
section
section MPN
variable {G : mp_G} {Ts : List Cond} {E : mp_E} {y : MethodName} {cc : ByteArray} {nL : Nat} {rt : Option FieldType} {hh : List (Nat × Nat × Nat × Nat)} {d mc ms : Nat} {h : mp_H} {cs sl : Nat} {Q : State → Prop} {pc : Nat} {L : List Slot} {st : List Value}
theorem mp_Neq (X : mp_C G Ts E y cc nL rt hh d mc ms) (tgt pc' : Nat) {a b : Nat} {off : Int} (hd : decode cc pc = .ok (.if_icmp .eq off, 3)) (ht : (pc : Int) + off = (tgt : Int)) (hp : pc + 3 = pc') (ha : a < 2 ^ 31) (hb : b < 2 ^ 31) (kt : a = b → mp_W G E h cs sl Q tgt L (st)) (kf : ¬ a = b → mp_W G E h cs sl Q pc' L (st)) : mp_W G E h cs sl Q pc L (.int (nI b) :: .int (nI a) :: st) :=
  mp_icmp_eq X tgt pc' hd ht hp (fun q => kt ((nI_eq ha hb).mp q)) (fun q => kf (fun e => q ((nI_eq ha hb).mpr e)))
theorem mp_Nne (X : mp_C G Ts E y cc nL rt hh d mc ms) (tgt pc' : Nat) {a b : Nat} {off : Int} (hd : decode cc pc = .ok (.if_icmp .ne off, 3)) (ht : (pc : Int) + off = (tgt : Int)) (hp : pc + 3 = pc') (ha : a < 2 ^ 31) (hb : b < 2 ^ 31) (kt : ¬ a = b → mp_W G E h cs sl Q tgt L (st)) (kf : a = b → mp_W G E h cs sl Q pc' L (st)) : mp_W G E h cs sl Q pc L (.int (nI b) :: .int (nI a) :: st) :=
  mp_icmp_ne X tgt pc' hd ht hp (fun q => kt (fun e => q ((nI_eq ha hb).mpr e))) (fun q => kf ((nI_eq ha hb).mp q))
theorem mp_Nlt (X : mp_C G Ts E y cc nL rt hh d mc ms) (tgt pc' : Nat) {a b : Nat} {off : Int} (hd : decode cc pc = .ok (.if_icmp .lt off, 3)) (ht : (pc : Int) + off = (tgt : Int)) (hp : pc + 3 = pc') (ha : a < 2 ^ 31) (hb : b < 2 ^ 31) (kt : a < b → mp_W G E h cs sl Q tgt L (st)) (kf : b ≤ a → mp_W G E h cs sl Q pc' L (st)) : mp_W G E h cs sl Q pc L (.int (nI b) :: .int (nI a) :: st) :=
  mp_icmp_lt X tgt pc' hd ht hp (fun q => kt ((nI_ltI ha hb).mp q)) (fun q => kf (Nat.not_lt.mp fun e => q ((nI_ltI ha hb).mpr e)))
theorem mp_Nge (X : mp_C G Ts E y cc nL rt hh d mc ms) (tgt pc' : Nat) {a b : Nat} {off : Int} (hd : decode cc pc = .ok (.if_icmp .ge off, 3)) (ht : (pc : Int) + off = (tgt : Int)) (hp : pc + 3 = pc') (ha : a < 2 ^ 31) (hb : b < 2 ^ 31) (kt : b ≤ a → mp_W G E h cs sl Q tgt L (st)) (kf : a < b → mp_W G E h cs sl Q pc' L (st)) : mp_W G E h cs sl Q pc L (.int (nI b) :: .int (nI a) :: st) :=
  mp_icmp_ge X tgt pc' hd ht hp (fun q => kt ((nI_leI hb ha).mp q)) (fun q => kf (Nat.not_le.mp fun e => q ((nI_leI hb ha).mpr e)))
theorem mp_Ngt (X : mp_C G Ts E y cc nL rt hh d mc ms) (tgt pc' : Nat) {a b : Nat} {off : Int} (hd : decode cc pc = .ok (.if_icmp .gt off, 3)) (ht : (pc : Int) + off = (tgt : Int)) (hp : pc + 3 = pc') (ha : a < 2 ^ 31) (hb : b < 2 ^ 31) (kt : b < a → mp_W G E h cs sl Q tgt L (st)) (kf : a ≤ b → mp_W G E h cs sl Q pc' L (st)) : mp_W G E h cs sl Q pc L (.int (nI b) :: .int (nI a) :: st) :=
  mp_icmp_gt X tgt pc' hd ht hp (fun q => kt ((nI_ltI hb ha).mp q)) (fun q => kf (Nat.not_lt.mp fun e => q ((nI_ltI hb ha).mpr e)))
theorem mp_Nle (X : mp_C G Ts E y cc nL rt hh d mc ms) (tgt pc' : Nat) {a b : Nat} {off : Int} (hd : decode cc pc = .ok (.if_icmp .le off, 3)) (ht : (pc : Int) + off = (tgt : Int)) (hp : pc + 3 = pc') (ha : a < 2 ^ 31) (hb : b < 2 ^ 31) (kt : a ≤ b → mp_W G E h cs sl Q tgt L (st)) (kf : b < a → mp_W G E h cs sl Q pc' L (st)) : mp_W G E h cs sl Q pc L (.int (nI b) :: .int (nI a) :: st) :=
  mp_icmp_le X tgt pc' hd ht hp (fun q => kt ((nI_leI ha hb).mp q)) (fun q => kf (Nat.not_le.mp fun e => q ((nI_leI ha hb).mpr e)))
theorem mp_Zeq (X : mp_C G Ts E y cc nL rt hh d mc ms) (tgt pc' : Nat) {a : Nat} {off : Int} (hd : decode cc pc = .ok (.ifCond .eq off, 3)) (ht : (pc : Int) + off = (tgt : Int)) (hp : pc + 3 = pc') (ha : a < 2 ^ 31) (kt : a = 0 → mp_W G E h cs sl Q tgt L (st)) (kf : ¬ a = 0 → mp_W G E h cs sl Q pc' L (st)) : mp_W G E h cs sl Q pc L (.int (nI a) :: st) :=
  mp_if_eq X tgt pc' hd ht hp (fun q => kt ((nI_eq ha (by decide : (0 : Nat) < 2 ^ 31)).mp q)) (fun q => kf (fun e => q ((nI_eq ha (by decide : (0 : Nat) < 2 ^ 31)).mpr e)))
theorem mp_Zne (X : mp_C G Ts E y cc nL rt hh d mc ms) (tgt pc' : Nat) {a : Nat} {off : Int} (hd : decode cc pc = .ok (.ifCond .ne off, 3)) (ht : (pc : Int) + off = (tgt : Int)) (hp : pc + 3 = pc') (ha : a < 2 ^ 31) (kt : ¬ a = 0 → mp_W G E h cs sl Q tgt L (st)) (kf : a = 0 → mp_W G E h cs sl Q pc' L (st)) : mp_W G E h cs sl Q pc L (.int (nI a) :: st) :=
  mp_if_ne X tgt pc' hd ht hp (fun q => kt (fun e => q ((nI_eq ha (by decide : (0 : Nat) < 2 ^ 31)).mpr e))) (fun q => kf ((nI_eq ha (by decide : (0 : Nat) < 2 ^ 31)).mp q))
theorem mp_Zlt (X : mp_C G Ts E y cc nL rt hh d mc ms) (tgt pc' : Nat) {a : Nat} {off : Int} (hd : decode cc pc = .ok (.ifCond .lt off, 3)) (ht : (pc : Int) + off = (tgt : Int)) (hp : pc + 3 = pc') (ha : a < 2 ^ 31) (kt : False → mp_W G E h cs sl Q tgt L (st)) (kf : True → mp_W G E h cs sl Q pc' L (st)) : mp_W G E h cs sl Q pc L (.int (nI a) :: st) :=
  mp_if_lt X tgt pc' hd ht hp (fun q => kt (nI_pos ha q)) (fun q => kf (trivial))
theorem mp_Zge (X : mp_C G Ts E y cc nL rt hh d mc ms) (tgt pc' : Nat) {a : Nat} {off : Int} (hd : decode cc pc = .ok (.ifCond .ge off, 3)) (ht : (pc : Int) + off = (tgt : Int)) (hp : pc + 3 = pc') (ha : a < 2 ^ 31) (kt : True → mp_W G E h cs sl Q tgt L (st)) (kf : False → mp_W G E h cs sl Q pc' L (st)) : mp_W G E h cs sl Q pc L (.int (nI a) :: st) :=
  mp_if_ge X tgt pc' hd ht hp (fun q => kt (trivial)) (fun q => kf (q (nI_pos' ha)))
theorem mp_Zgt (X : mp_C G Ts E y cc nL rt hh d mc ms) (tgt pc' : Nat) {a : Nat} {off : Int} (hd : decode cc pc = .ok (.ifCond .gt off, 3)) (ht : (pc : Int) + off = (tgt : Int)) (hp : pc + 3 = pc') (ha : a < 2 ^ 31) (kt : 0 < a → mp_W G E h cs sl Q tgt L (st)) (kf : a = 0 → mp_W G E h cs sl Q pc' L (st)) : mp_W G E h cs sl Q pc L (.int (nI a) :: st) :=
  mp_if_gt X tgt pc' hd ht hp (fun q => kt ((nI_ltI (by decide : (0 : Nat) < 2 ^ 31) ha).mp q)) (fun q => kf (Nat.eq_zero_of_not_pos fun e => q ((nI_ltI (by decide : (0 : Nat) < 2 ^ 31) ha).mpr e)))
theorem mp_Zle (X : mp_C G Ts E y cc nL rt hh d mc ms) (tgt pc' : Nat) {a : Nat} {off : Int} (hd : decode cc pc = .ok (.ifCond .le off, 3)) (ht : (pc : Int) + off = (tgt : Int)) (hp : pc + 3 = pc') (ha : a < 2 ^ 31) (kt : a = 0 → mp_W G E h cs sl Q tgt L (st)) (kf : 0 < a → mp_W G E h cs sl Q pc' L (st)) : mp_W G E h cs sl Q pc L (.int (nI a) :: st) :=
  mp_if_le X tgt pc' hd ht hp (fun q => kt (Nat.le_zero.mp ((nI_leI ha (by decide : (0 : Nat) < 2 ^ 31)).mp q))) (fun q => kf (Nat.not_le.mp fun e => q ((nI_leI ha (by decide : (0 : Nat) < 2 ^ 31)).mpr e)))
end MPN
end
section
section MPCE
variable {G : mp_G} {Ts : List Cond} {E : mp_E} {y z : MethodName} {cc cz : ByteArray} {nL nz : Nat} {rt rz : Option FieldType} {hh hz : List (Nat × Nat × Nat × Nat)} {d mc ms dz mz sz : Nat} {h : mp_H} {cs sl : Nat} {Q : State → Prop} {pc : Nat} {L : List Slot} {st rest as : List Value}
/-- a call that leaves the heap as it is and answers r -/
theorem mp_callE (X : mp_C G Ts E y cc nL rt hh d mc ms) (hok : ∀ w ∈ Ts, mp_okw w = true) (pc' : Nat) {r : Option Value} {st2 : List Value} (hM : mp_M G Ts E.l z dz mz sz as h (fun v h' => h' = h ∧ v = r) (fun _ _ => False)) (hY : mp_Y Ts z cz nz rz hz) (hini : Cond.initialized z.cls ∈ Ts) (hI : mp_I G E h cc pc z as st rest) (hp : pc + 3 = pc')
    (hfr : dz + 1 ≤ d) (hlo : 19 + nz ≤ 32) (hce : cs + mz ≤ mc) (hsl : sl + sz ≤ ms) (hLn : L.length = nL) (hW : (rest.map fun v => v.category).sum ≤ 8) (hst : r.toList ++ rest = st2)
    (kr : mp_W G E h (cs + mz) (sl + sz) Q pc' L st2) : mp_W G E h cs sl Q pc L st := by
  refine mp_call X hok pc' hM hY hini hI hp hfr hlo hce hsl hLn hW (fun v h' hp => ?_) (fun x h' q hp => hp.elim)
  rw [hp.1, hp.2, hst]
  exact kr
theorem mp_rs (h : mp_H) (o i : Nat) (v : Value) (a b : Nat) : (mp_set h o i v).2.1 a b = if a = o ∧ b = i then v else h.2.1 a b := rfl
end MPCE
end
section
/-! The reference: its object at 26, its arrays at 27 .. 39. -/
def rm_K (G : mp_G) (h : mp_H) : Prop := 41 ≤ h.2.2 ∧ h.1 26 = (5, 17) ∧ (h.1 27 = (10, 90) ∧ h.2.1 26 2 = .ref (G.1 + 27)) ∧ (h.1 28 = (10, 90) ∧ h.2.1 26 3 = .ref (G.1 + 28)) ∧ (h.1 29 = (10, 90) ∧ h.2.1 26 4 = .ref (G.1 + 29)) ∧ (h.1 30 = (10, 90) ∧ h.2.1 26 5 = .ref (G.1 + 30)) ∧ (h.1 31 = (10, 90) ∧ h.2.1 26 6 = .ref (G.1 + 31)) ∧ (h.1 32 = (12, 90) ∧ h.2.1 26 7 = .ref (G.1 + 32)) ∧ (h.1 33 = (10, 270) ∧ h.2.1 26 8 = .ref (G.1 + 33)) ∧ (h.1 34 = (11, 270) ∧ h.2.1 26 9 = .ref (G.1 + 34)) ∧ (h.1 35 = (10, 3) ∧ h.2.1 26 10 = .ref (G.1 + 35)) ∧ (h.1 36 = (10, 90) ∧ h.2.1 26 12 = .ref (G.1 + 36)) ∧ (h.1 37 = (10, 90) ∧ h.2.1 26 13 = .ref (G.1 + 37)) ∧ (h.1 38 = (10, 90) ∧ h.2.1 26 15 = .ref (G.1 + 38)) ∧ (h.1 39 = (11, 90) ∧ h.2.1 26 16 = .ref (G.1 + 39))
section RMK
variable {G : mp_G} {h : mp_H}
theorem rm_K.sz (hK : rm_K G h) {o : Nat} (ho : o < 41) : o < h.2.2 := Nat.lt_of_lt_of_le ho hK.1
theorem rm_K.ob (hK : rm_K G h) : h.1 26 = (5, 17) := hK.2.1
theorem rm_K.k_sort (hK : rm_K G h) : h.1 27 = (10, 90) := hK.2.2.1.1
theorem rm_K.r_sort (hK : rm_K G h) : h.2.1 26 2 = .ref (G.1 + 27) := hK.2.2.1.2
theorem rm_K.k_ids (hK : rm_K G h) : h.1 28 = (10, 90) := hK.2.2.2.1.1
theorem rm_K.r_ids (hK : rm_K G h) : h.2.1 26 3 = .ref (G.1 + 28) := hK.2.2.2.1.2
theorem rm_K.k_first (hK : rm_K G h) : h.1 29 = (10, 90) := hK.2.2.2.2.1.1
theorem rm_K.r_first (hK : rm_K G h) : h.2.1 26 4 = .ref (G.1 + 29) := hK.2.2.2.2.1.2
theorem rm_K.k_end (hK : rm_K G h) : h.1 30 = (10, 90) := hK.2.2.2.2.2.1.1
theorem rm_K.r_end (hK : rm_K G h) : h.2.1 26 5 = .ref (G.1 + 30) := hK.2.2.2.2.2.1.2
theorem rm_K.k_what (hK : rm_K G h) : h.1 31 = (10, 90) := hK.2.2.2.2.2.2.1.1
theorem rm_K.r_what (hK : rm_K G h) : h.2.1 26 6 = .ref (G.1 + 31) := hK.2.2.2.2.2.2.1.2
theorem rm_K.k_letters (hK : rm_K G h) : h.1 32 = (12, 90) := hK.2.2.2.2.2.2.2.1.1
theorem rm_K.r_letters (hK : rm_K G h) : h.2.1 26 7 = .ref (G.1 + 32) := hK.2.2.2.2.2.2.2.1.2
theorem rm_K.k_known (hK : rm_K G h) : h.1 33 = (10, 270) := hK.2.2.2.2.2.2.2.2.1.1
theorem rm_K.r_known (hK : rm_K G h) : h.2.1 26 8 = .ref (G.1 + 33) := hK.2.2.2.2.2.2.2.2.1.2
theorem rm_K.k_knows (hK : rm_K G h) : h.1 34 = (11, 270) := hK.2.2.2.2.2.2.2.2.2.1.1
theorem rm_K.r_knows (hK : rm_K G h) : h.2.1 26 9 = .ref (G.1 + 34) := hK.2.2.2.2.2.2.2.2.2.1.2
theorem rm_K.k_count (hK : rm_K G h) : h.1 35 = (10, 3) := hK.2.2.2.2.2.2.2.2.2.2.1.1
theorem rm_K.r_count (hK : rm_K G h) : h.2.1 26 10 = .ref (G.1 + 35) := hK.2.2.2.2.2.2.2.2.2.2.1.2
theorem rm_K.k_row (hK : rm_K G h) : h.1 36 = (10, 90) := hK.2.2.2.2.2.2.2.2.2.2.2.1.1
theorem rm_K.r_row (hK : rm_K G h) : h.2.1 26 12 = .ref (G.1 + 36) := hK.2.2.2.2.2.2.2.2.2.2.2.1.2
theorem rm_K.k_place (hK : rm_K G h) : h.1 37 = (10, 90) := hK.2.2.2.2.2.2.2.2.2.2.2.2.1.1
theorem rm_K.r_place (hK : rm_K G h) : h.2.1 26 13 = .ref (G.1 + 37) := hK.2.2.2.2.2.2.2.2.2.2.2.2.1.2
theorem rm_K.k_text (hK : rm_K G h) : h.1 38 = (10, 90) := hK.2.2.2.2.2.2.2.2.2.2.2.2.2.1.1
theorem rm_K.r_text (hK : rm_K G h) : h.2.1 26 15 = .ref (G.1 + 38) := hK.2.2.2.2.2.2.2.2.2.2.2.2.2.1.2
theorem rm_K.k_passed (hK : rm_K G h) : h.1 39 = (11, 90) := hK.2.2.2.2.2.2.2.2.2.2.2.2.2.2.1
theorem rm_K.r_passed (hK : rm_K G h) : h.2.1 26 16 = .ref (G.1 + 39) := hK.2.2.2.2.2.2.2.2.2.2.2.2.2.2.2
end RMK
/-- what the cells outside a set hold stays -/
def mp_fr (P : Nat → Nat → Prop) (h h' : mp_H) : Prop := h'.1 = h.1 ∧ h'.2.2 = h.2.2 ∧ ∀ o i, ¬ P o i → h'.2.1 o i = h.2.1 o i
theorem mp_fr.rf {P : Nat → Nat → Prop} {h : mp_H} : mp_fr P h h := ⟨rfl, rfl, fun _ _ _ => rfl⟩
theorem mp_fr.tr {P : Nat → Nat → Prop} {h h' h'' : mp_H} (a : mp_fr P h h') (b : mp_fr P h' h'') : mp_fr P h h'' := ⟨b.1.trans a.1, b.2.1.trans a.2.1, fun o i hn => (b.2.2 o i hn).trans (a.2.2 o i hn)⟩
theorem mp_fr.set {P : Nat → Nat → Prop} {h h' : mp_H} (a : mp_fr P h h') {o i : Nat} {v : Value} (hP : P o i) : mp_fr P h (mp_set h' o i v) :=
  ⟨a.1, a.2.1, fun o' i' hn => by rw [mp_set_ne _ _ (fun e => hn (by rw [e.1, e.2]; exact hP))]; exact a.2.2 o' i' hn⟩
theorem mp_fr.mono {P P' : Nat → Nat → Prop} {h h' : mp_H} (a : mp_fr P h h') (hPP : ∀ o i, P o i → P' o i) : mp_fr P' h h' := ⟨a.1, a.2.1, fun o i hn => a.2.2 o i (fun e => hn (hPP o i e))⟩
/-- the reference's scratch: code, rowLength, textLength; row, place, text, passed -/
def rm_P (o i : Nat) : Prop := (o = 26 ∧ (i = 0 ∨ i = 11 ∨ i = 14)) ∨ o = 36 ∨ o = 37 ∨ o = 38 ∨ o = 39
theorem rm_K.fr {G : mp_G} {h h' : mp_H} (hK : rm_K G h) (P : Nat → Nat → Prop) (hP : ∀ i, i ≠ 0 → i ≠ 1 → i ≠ 11 → i ≠ 14 → ¬ P 26 i) (hf : mp_fr P h h') : rm_K G h' := by
  obtain ⟨e1, e2, e3⟩ := hf
  unfold rm_K at hK ⊢
  rw [e1, e2]
  simp only [e3 26 2 (hP 2 (by decide) (by decide) (by decide) (by decide)), e3 26 3 (hP 3 (by decide) (by decide) (by decide) (by decide)), e3 26 4 (hP 4 (by decide) (by decide) (by decide) (by decide)), e3 26 5 (hP 5 (by decide) (by decide) (by decide) (by decide)), e3 26 6 (hP 6 (by decide) (by decide) (by decide) (by decide)), e3 26 7 (hP 7 (by decide) (by decide) (by decide) (by decide)), e3 26 8 (hP 8 (by decide) (by decide) (by decide) (by decide)), e3 26 9 (hP 9 (by decide) (by decide) (by decide) (by decide)), e3 26 10 (hP 10 (by decide) (by decide) (by decide) (by decide)), e3 26 12 (hP 12 (by decide) (by decide) (by decide) (by decide)), e3 26 13 (hP 13 (by decide) (by decide) (by decide) (by decide)), e3 26 15 (hP 15 (by decide) (by decide) (by decide) (by decide)), e3 26 16 (hP 16 (by decide) (by decide) (by decide) (by decide))]
  exact hK
/-- an operation's number or none, as an int -/
def rm_i : Option Nat → Int32
  | none => -1
  | some p => nI p
def rm_b (b : Bool) : Int32 := if b then nI 1 else nI 0
/-- the reference holds S -/
def rm_S (h : mp_H) (S : pq_S) : Prop := h.2.1 26 1 = .int (nI S.1) ∧
  (∀ k, k < S.1 → h.2.1 27 k = .int (nI (pq_so S.2.1 k)) ∧ h.2.1 28 k = .int (nI (pq_id S.2.1 k)) ∧ h.2.1 29 k = .int (rm_i (pq_fi S.2.1 k)) ∧ h.2.1 30 k = .int (rm_i (pq_en S.2.1 k)) ∧ h.2.1 31 k = .int (nI (pq_wh S.2.1 k)) ∧ (pq_so S.2.1 k = 0 → h.2.1 32 k = .int (pq_le S.2.1 k))) ∧
  (∀ j, j < 3 → h.2.1 35 j = .int (nI (S.2.2.2 j)) ∧ (∀ i, i < S.2.2.2 j → h.2.1 33 (90 * j + i) = .int (nI (S.2.2.1 j i))) ∧ ∀ k, k < 90 → h.2.1 34 (90 * j + k) = .int (rm_b (pq_kw (S.2.2.1 j) (S.2.2.2 j) k)))
theorem rm_S.fr {h h' : mp_H} {S : pq_S} (hS : rm_S h S) (hf : mp_fr rm_P h h') : rm_S h' S := by
  obtain ⟨e1, e2, e3⟩ := hf
  obtain ⟨s1, s2, s3⟩ := hS
  have n1 : ¬ rm_P 26 1 := by unfold rm_P; omega
  have nn : ∀ o i, 27 ≤ o → o ≤ 35 → ¬ rm_P o i := by intro o i h1 h2; unfold rm_P; omega
  refine ⟨by rw [e3 _ _ n1]; exact s1, fun k hk => ?_, fun j hj => ?_⟩
  · rw [e3 _ _ (nn 27 k (by omega) (by omega)), e3 _ _ (nn 28 k (by omega) (by omega)), e3 _ _ (nn 29 k (by omega) (by omega)), e3 _ _ (nn 30 k (by omega) (by omega)), e3 _ _ (nn 31 k (by omega) (by omega)), e3 _ _ (nn 32 k (by omega) (by omega))]
    exact s2 k hk
  · obtain ⟨a, b, c⟩ := s3 j hj
    exact ⟨by rw [e3 _ _ (nn 35 j (by omega) (by omega))]; exact a, fun i hi => by rw [e3 _ _ (nn 33 _ (by omega) (by omega))]; exact b i hi, fun k hk => by rw [e3 _ _ (nn 34 _ (by omega) (by omega))]; exact c k hk⟩
theorem rm_b_1 : rm_b true = nI 1 := rfl
theorem rm_b_0 : rm_b false = nI 0 := rfl
theorem rm_i_eq {a b : Option Nat} (ha : ∀ p, a = some p → p < 1000) (hb : ∀ p, b = some p → p < 1000) : rm_i a = rm_i b ↔ a = b := by
  have m1 : ∀ p : Nat, p < 1000 → nI p ≠ -1 := fun p hp e => by
    have h1 := congrArg Int32.toInt e
    rw [nI_toInt (by omega)] at h1
    have h2 : (-1 : Int32).toInt = -1 := by decide
    omega
  cases a with
  | none => cases b with
    | none => simp
    | some q => exact ⟨fun e => absurd e.symm (m1 q (hb q rfl)), fun e => by cases e⟩
  | some p => cases b with
    | none => exact ⟨fun e => absurd e (m1 p (ha p rfl)), fun e => by cases e⟩
    | some q =>
      have := nI_eq (a := p) (b := q) (by have := ha p rfl; omega) (by have := hb q rfl; omega)
      simp only [rm_i, Option.some.injEq]
      exact this
theorem rm_i_neg (a : Option Nat) (ha : ∀ p, a = some p → p < 1000) : rm_i a < 0 ↔ a = none := by
  cases a with
  | none => simp [rm_i]
  | some p =>
    have := nI_pos (n := p) (by have := ha p rfl; omega)
    simp only [rm_i, reduceCtorEq, iff_false]
    exact this
end
section
/-! The reference's reading methods (rows laid by program). -/
set_option maxRecDepth 100000 in
set_option maxHeartbeats 4000000 in
theorem k_R_thrown (l : Launch) {G : mp_G} {h : mp_H} {x : Int32} (hK : rm_K G h) (hx : h.2.1 26 0 = .int x) : mp_M G mp_Ts l y_R_thrown 0 0 0 [.ref (G.1 + 26)] h (fun v h' => h' = h ∧ v = some (.int x)) (fun _ _ => False) := by
  refine mp_enter (by decide) Y_R_thrown fun E hl X => ?_
  refine mp_aload_n X 1 d_R_thrown_0 rfl rfl rfl ?_
  refine mp_getf X 4 lk_R_51_R d_R_thrown_1 rfl (hK.sz (by decide)) hK.ob hx ?_
  exact mp_iret X d_R_thrown_4 rfl rfl (by decide) (by decide) ⟨rfl, rfl⟩
set_option maxRecDepth 100000 in
set_option maxHeartbeats 4000000 in
theorem k_R_isPage (l : Launch) {G : mp_G} {h : mp_H} (x : Int32) : mp_M G mp_Ts l y_R_isPage 0 0 0 [.int x] h (fun v h' => h' = h ∧ ((∃ j, j < 3 ∧ x = nI j ∧ v = some (.int (nI 1))) ∨ ((∀ j, j < 3 → x ≠ nI j) ∧ v = some (.int (nI 0))))) (fun _ _ => False) := by
  refine mp_enter (by decide) Y_R_isPage fun E hl X => ?_
  refine mp_iload_n X 1 d_R_isPage_0 rfl rfl rfl ?_
  refine mp_if_lt X 13 4 d_R_isPage_1 (by decide) rfl (fun q1 => ?_) (fun q1 => ?_)
  · refine mp_iconst X 14 (v := nI 0) d_R_isPage_13 rfl (by decide) ?_
    exact mp_iret X d_R_isPage_14 rfl rfl (by decide) (by decide) ⟨rfl, Or.inr ⟨fun j hj e => nI_pos (n := j) (by omega) (by rw [← e]; exact q1), rfl⟩⟩
  · refine mp_iload_n X 5 d_R_isPage_4 rfl rfl rfl ?_
    refine mp_iconst X 6 (v := nI 3) d_R_isPage_5 rfl (by decide) ?_
    refine mp_icmp_ge X 13 9 d_R_isPage_6 (by decide) rfl (fun q2 => ?_) (fun q2 => ?_)
    · refine mp_iconst X 14 (v := nI 0) d_R_isPage_13 rfl (by decide) ?_
      exact mp_iret X d_R_isPage_14 rfl rfl (by decide) (by decide) ⟨rfl, Or.inr ⟨fun j hj e => absurd ((nI_leI (by decide) (by omega)).mp (show nI 3 ≤ nI j by rw [← e]; exact q2)) (by omega), rfl⟩⟩
    · refine mp_iconst X 10 (v := nI 1) d_R_isPage_9 rfl (by decide) ?_
      refine mp_goto X 14 d_R_isPage_10 (by decide) ?_
      obtain ⟨j, hj, hxj⟩ := nI_of q1
      subst hxj
      have hj3 : j < 3 := Nat.not_le.mp fun e => q2 ((nI_leI (by decide) hj).mpr e)
      exact mp_iret X d_R_isPage_14 rfl rfl (by decide) (by decide) ⟨rfl, Or.inl ⟨j, hj3, rfl, rfl⟩⟩
def rm_gy (O : pq_O) (kn : Nat → Nat) (c lt : Nat) : Nat → Bool
  | 0 => false
  | n + 1 => rm_gy O kn c lt n || (pq_kw kn c n && (pq_so O n == 1 && pq_fi O n == some lt))
theorem rm_gy_iff (O : pq_O) (kn : Nat → Nat) (c lt : Nat) : ∀ n, rm_gy O kn c lt n = true ↔ ∃ k, k < n ∧ pq_kw kn c k = true ∧ pq_so O k = 1 ∧ pq_fi O k = some lt
  | 0 => ⟨fun h => (by cases h), fun ⟨k, hk, _⟩ => by omega⟩
  | n + 1 => by
    unfold rm_gy
    rw [Bool.or_eq_true, rm_gy_iff O kn c lt n, Bool.and_eq_true, Bool.and_eq_true, beq_iff_eq, beq_iff_eq]
    constructor
    · rintro (⟨k, hk, h⟩ | h)
      · exact ⟨k, by omega, h⟩
      · exact ⟨n, by omega, h⟩
    · rintro ⟨k, hk, h⟩
      by_cases e : k = n
      · right; rw [← e]; exact h
      · left; exact ⟨k, by omega, h⟩
theorem rm_gy_eq {M : Nat} {O : pq_O} {kn : Nat → Nat} {c lt : Nat} (hk : ∀ i, i < c → kn i < M) : rm_gy O kn c lt M = pq_gn O kn c lt := by
  rw [Bool.eq_iff_iff, rm_gy_iff, pq_gn_iff]
  constructor
  · rintro ⟨k, h1, h2, h3, h4⟩
    obtain ⟨i, hi, rfl⟩ := (pq_kw_iff kn k c).mp h2
    exact ⟨i, hi, h3, h4⟩
  · rintro ⟨i, hi, h3, h4⟩
    exact ⟨kn i, hk i hi, (pq_kw_iff kn _ c).mpr ⟨i, hi, rfl⟩, h3, h4⟩
set_option maxRecDepth 100000 in
set_option maxHeartbeats 4000000 in
theorem k_R_isGone (l : Launch) {G : mp_G} {h : mp_H} {S : pq_S} {j lt : Nat} (hK : rm_K G h) (hS : rm_S h S) (hok : pq_ok S) (hj : j < 3) (hlt : lt < 90) :
    mp_M G mp_Ts l y_R_isGone 0 0 0 [.ref (G.1 + 26), .int (nI j), .int (nI lt)] h (fun v h' => h' = h ∧ v = some (.int (rm_b (pq_gn S.2.1 (S.2.2.1 j) (S.2.2.2 j) lt)))) (fun _ _ => False) := by
  have hM : S.1 ≤ 90 := hok.1
  have hw := hok.2.1
  obtain ⟨s1, s2, s3⟩ := hS
  obtain ⟨-, -, s6⟩ := s3 j hj
  refine mp_enter (by decide) Y_R_isGone fun E hl X => ?_
  have hloop : ∀ (n k : Nat) (b : Bool), k + n = S.1 → b = rm_gy S.2.1 (S.2.2.1 j) (S.2.2.2 j) lt k → mp_W G E h 0 0 (mp_Q G E 0 0 (fun v h' => h' = h ∧ v = some (.int (rm_b (pq_gn S.2.1 (S.2.2.1 j) (S.2.2.2 j) lt)))) (fun _ _ => False)) 5 [.val (.ref (G.1 + 26)), .val (.int (nI j)), .val (.int (nI lt)), .val (.int (rm_b b)), .val (.int (nI k))] [] := by
    intro n
    induction n with
    | zero =>
      intro k b hkn hb
      refine mp_iload X 7 d_R_isGone_5 rfl rfl ?_
      refine mp_aload_n X 8 d_R_isGone_7 rfl rfl rfl ?_
      refine mp_getf X 11 lk_R_55_R d_R_isGone_8 rfl (hK.sz (by decide)) hK.ob s1 ?_
      refine mp_Nge X 67 14 d_R_isGone_11 (by decide) rfl (by omega) (by omega) (fun q1 => ?_) (fun q1 => ?_)
      · refine mp_iload_n X 68 d_R_isGone_67 rfl rfl rfl ?_
        have hk : k = S.1 := by omega
        subst hk
        exact mp_iret X d_R_isGone_68 rfl (by cases b <;> rfl) (by decide) (by decide) ⟨rfl, by rw [hb, rm_gy_eq (hok.2.2.1 j hj).1]⟩
      · omega
    | succ n ih =>
      intro k b hkn hb
      have hkM : k < S.1 := by omega
      obtain ⟨t1, t2, t3, t4, t5, t6⟩ := s2 k hkM
      have hso := (hw.2.2.2.1 k hkM).2.2.2.1
      have hf : ∀ p, pq_fi S.2.1 k = some p → p < 1000 := fun p hp => by have := (hw.1 k hkM p hp).1; omega
      have s6k := s6 k (by omega)
      cases b with
      | true =>
        refine mp_eq rfl (L2 := [.val (.ref (G.1 + 26)), .val (.int (nI j)), .val (.int (nI lt)), .val (.int (nI 1)), .val (.int (nI k))]) rfl rfl ?_
        refine mp_iload X 7 d_R_isGone_5 rfl rfl ?_
        refine mp_aload_n X 8 d_R_isGone_7 rfl rfl rfl ?_
        refine mp_getf X 11 lk_R_55_R d_R_isGone_8 rfl (hK.sz (by decide)) hK.ob s1 ?_
        refine mp_Nge X 67 14 d_R_isGone_11 (by decide) rfl (by omega) (by omega) (fun q1 => ?_) (fun q1 => ?_)
        · omega
        · refine mp_iload_n X 15 d_R_isGone_14 rfl rfl rfl ?_
          refine mp_Zne X 55 18 d_R_isGone_15 (by decide) rfl (by omega) (fun q2 => ?_) (fun q2 => ?_)
          · refine mp_iconst X 56 (v := nI 1) d_R_isGone_55 rfl (by decide) ?_
            refine mp_goto X 60 d_R_isGone_56 (by decide) ?_
            refine mp_istore_n X 61 (L' := [.val (.ref (G.1 + 26)), .val (.int (nI j)), .val (.int (nI lt)), .val (.int (nI 1)), .val (.int (nI k))]) d_R_isGone_60 rfl rfl rfl rfl rfl ?_
            refine mp_iinc X 64 (L' := [.val (.ref (G.1 + 26)), .val (.int (nI j)), .val (.int (nI lt)), .val (.int (nI 1)), .val (.int (nI (k + 1)))]) (v := nI (k + 1)) d_R_isGone_61 rfl rfl (nI_1 _) rfl ?_
            refine mp_goto X 5 d_R_isGone_64 (by decide) ?_
            exact ih (k + 1) true (by omega) (by unfold rm_gy; rw [← hb]; rfl)
          · exact absurd q2 (by decide)
      | false =>
        refine mp_eq rfl (L2 := [.val (.ref (G.1 + 26)), .val (.int (nI j)), .val (.int (nI lt)), .val (.int (nI 0)), .val (.int (nI k))]) rfl rfl ?_
        refine mp_iload X 7 d_R_isGone_5 rfl rfl ?_
        refine mp_aload_n X 8 d_R_isGone_7 rfl rfl rfl ?_
        refine mp_getf X 11 lk_R_55_R d_R_isGone_8 rfl (hK.sz (by decide)) hK.ob s1 ?_
        refine mp_Nge X 67 14 d_R_isGone_11 (by decide) rfl (by omega) (by omega) (fun q1 => ?_) (fun q1 => ?_)
        · omega
        · refine mp_iload_n X 15 d_R_isGone_14 rfl rfl rfl ?_
          refine mp_Zne X 55 18 d_R_isGone_15 (by decide) rfl (by omega) (fun q2 => ?_) (fun q2 => ?_)
          · exact absurd rfl q2
          · obtain ⟨kb, hkb1, hkb⟩ : ∃ kb : Nat, (kb = 1 ∧ pq_kw (S.2.2.1 j) (S.2.2.2 j) k = true ∨ kb = 0 ∧ pq_kw (S.2.2.1 j) (S.2.2.2 j) k = false) ∧ h.2.1 34 (90 * j + k) = .int (nI kb) := by
              cases hkw : pq_kw (S.2.2.1 j) (S.2.2.2 j) k with
              | true => rw [hkw] at s6k; exact ⟨1, Or.inl ⟨rfl, rfl⟩, s6k⟩
              | false => rw [hkw] at s6k; exact ⟨0, Or.inr ⟨rfl, rfl⟩, s6k⟩
            refine mp_aload_n X 19 d_R_isGone_18 rfl rfl rfl ?_
            refine mp_getf X 22 lk_R_32_R d_R_isGone_19 rfl (hK.sz (by decide)) hK.ob hK.r_knows ?_
            refine mp_bipush X 24 (v := nI 90) d_R_isGone_22 rfl (by decide) ?_
            refine mp_iload_n X 25 d_R_isGone_24 rfl rfl rfl ?_
            refine mp_imul X 26 d_R_isGone_25 rfl ?_
            rw [pk_mul]
            refine mp_iload X 28 d_R_isGone_26 rfl rfl ?_
            refine mp_iadd X 29 d_R_isGone_28 rfl ?_
            rw [nI_add]
            refine mp_zald X 30 (90 * j + k) d_R_isGone_29 rfl (hK.sz (by decide)) hK.k_knows rfl (by omega) (by decide) hkb ?_
            refine mp_Zeq X 59 33 d_R_isGone_30 (by decide) rfl (by omega) (fun q3 => ?_) (fun q3 => ?_)
            · have hkw : pq_kw (S.2.2.1 j) (S.2.2.2 j) k = false := by rcases hkb1 with ⟨h1, h2⟩ | ⟨h1, h2⟩; omega; exact h2
              refine mp_iconst X 60 (v := nI 0) d_R_isGone_59 rfl (by decide) ?_
              refine mp_istore_n X 61 (L' := [.val (.ref (G.1 + 26)), .val (.int (nI j)), .val (.int (nI lt)), .val (.int (nI 0)), .val (.int (nI k))]) d_R_isGone_60 rfl rfl rfl rfl rfl ?_
              refine mp_iinc X 64 (L' := [.val (.ref (G.1 + 26)), .val (.int (nI j)), .val (.int (nI lt)), .val (.int (nI 0)), .val (.int (nI (k + 1)))]) (v := nI (k + 1)) d_R_isGone_61 rfl rfl (nI_1 _) rfl ?_
              refine mp_goto X 5 d_R_isGone_64 (by decide) ?_
              exact ih (k + 1) false (by omega) (by unfold rm_gy; rw [← hb, hkw]; rfl)
            · have hkw : pq_kw (S.2.2.1 j) (S.2.2.2 j) k = true := by rcases hkb1 with ⟨h1, h2⟩ | ⟨h1, h2⟩; exact h2; omega
              refine mp_aload_n X 34 d_R_isGone_33 rfl rfl rfl ?_
              refine mp_getf X 37 lk_R_7_R d_R_isGone_34 rfl (hK.sz (by decide)) hK.ob hK.r_sort ?_
              refine mp_iload X 39 d_R_isGone_37 rfl rfl ?_
              refine mp_iald X 40 (k) d_R_isGone_39 rfl (hK.sz (by decide)) hK.k_sort rfl (by omega) (by decide) t1 ?_
              refine mp_iconst X 41 (v := nI 1) d_R_isGone_40 rfl (by decide) ?_
              refine mp_Nne X 59 44 d_R_isGone_41 (by decide) rfl (by omega) (by omega) (fun q4 => ?_) (fun q4 => ?_)
              · refine mp_iconst X 60 (v := nI 0) d_R_isGone_59 rfl (by decide) ?_
                refine mp_istore_n X 61 (L' := [.val (.ref (G.1 + 26)), .val (.int (nI j)), .val (.int (nI lt)), .val (.int (nI 0)), .val (.int (nI k))]) d_R_isGone_60 rfl rfl rfl rfl rfl ?_
                refine mp_iinc X 64 (L' := [.val (.ref (G.1 + 26)), .val (.int (nI j)), .val (.int (nI lt)), .val (.int (nI 0)), .val (.int (nI (k + 1)))]) (v := nI (k + 1)) d_R_isGone_61 rfl rfl (nI_1 _) rfl ?_
                refine mp_goto X 5 d_R_isGone_64 (by decide) ?_
                exact ih (k + 1) false (by omega) (by unfold rm_gy; rw [← hb]; simp [q4])
              · refine mp_aload_n X 45 d_R_isGone_44 rfl rfl rfl ?_
                refine mp_getf X 48 lk_R_16_R d_R_isGone_45 rfl (hK.sz (by decide)) hK.ob hK.r_first ?_
                refine mp_iload X 50 d_R_isGone_48 rfl rfl ?_
                refine mp_iald X 51 (k) d_R_isGone_50 rfl (hK.sz (by decide)) hK.k_first rfl (by omega) (by decide) t3 ?_
                refine mp_iload_n X 52 d_R_isGone_51 rfl rfl rfl ?_
                refine mp_icmp_ne X 59 55 d_R_isGone_52 (by decide) rfl (fun q5 => ?_) (fun q5 => ?_)
                · refine mp_iconst X 60 (v := nI 0) d_R_isGone_59 rfl (by decide) ?_
                  refine mp_istore_n X 61 (L' := [.val (.ref (G.1 + 26)), .val (.int (nI j)), .val (.int (nI lt)), .val (.int (nI 0)), .val (.int (nI k))]) d_R_isGone_60 rfl rfl rfl rfl rfl ?_
                  refine mp_iinc X 64 (L' := [.val (.ref (G.1 + 26)), .val (.int (nI j)), .val (.int (nI lt)), .val (.int (nI 0)), .val (.int (nI (k + 1)))]) (v := nI (k + 1)) d_R_isGone_61 rfl rfl (nI_1 _) rfl ?_
                  refine mp_goto X 5 d_R_isGone_64 (by decide) ?_
                  have e9 : ¬ pq_fi S.2.1 k = some lt := fun e => q5 (by rw [e]; rfl)
                  exact ih (k + 1) false (by omega) (by unfold rm_gy; rw [← hb]; simp [e9])
                · refine mp_iconst X 56 (v := nI 1) d_R_isGone_55 rfl (by decide) ?_
                  refine mp_goto X 60 d_R_isGone_56 (by decide) ?_
                  refine mp_istore_n X 61 (L' := [.val (.ref (G.1 + 26)), .val (.int (nI j)), .val (.int (nI lt)), .val (.int (nI 1)), .val (.int (nI k))]) d_R_isGone_60 rfl rfl rfl rfl rfl ?_
                  refine mp_iinc X 64 (L' := [.val (.ref (G.1 + 26)), .val (.int (nI j)), .val (.int (nI lt)), .val (.int (nI 1)), .val (.int (nI (k + 1)))]) (v := nI (k + 1)) d_R_isGone_61 rfl rfl (nI_1 _) rfl ?_
                  refine mp_goto X 5 d_R_isGone_64 (by decide) ?_
                  have e9 : pq_fi S.2.1 k = some lt := (rm_i_eq hf (fun p hp => by cases hp; omega)).mp q5
                  exact ih (k + 1) true (by omega) (by unfold rm_gy; rw [← hb, hkw, q4, e9]; simp)
  refine mp_eq rfl (L2 := [.val (.ref (G.1 + 26)), .val (.int (nI j)), .val (.int (nI lt)), .unset, .unset]) rfl rfl ?_
  refine mp_iconst X 1 (v := nI 0) d_R_isGone_0 rfl (by decide) ?_
  refine mp_istore_n X 2 (L' := [.val (.ref (G.1 + 26)), .val (.int (nI j)), .val (.int (nI lt)), .val (.int (nI 0)), .unset]) d_R_isGone_1 rfl rfl rfl rfl rfl ?_
  refine mp_iconst X 3 (v := nI 0) d_R_isGone_2 rfl (by decide) ?_
  refine mp_istore X 5 (L' := [.val (.ref (G.1 + 26)), .val (.int (nI j)), .val (.int (nI lt)), .val (.int (nI 0)), .val (.int (nI 0))]) d_R_isGone_3 rfl rfl rfl rfl ?_
  exact hloop S.1 0 false (by omega) rfl
end
section
/-! The reference: nextBehind, greatest (rows laid by program). -/
def rm_ch (S : pq_S) (j : Nat) (pa : Option Nat) (ps : Nat → Bool) (k : Nat) : Bool := ((pq_kw (S.2.2.1 j) (S.2.2.2 j) k && pq_so S.2.1 k == 0) && pq_fi S.2.1 k == pa) && !ps k
theorem rm_ch_t {S : pq_S} {j : Nat} {pa : Option Nat} {ps : Nat → Bool} {k : Nat} (h1 : pq_kw (S.2.2.1 j) (S.2.2.2 j) k = true) (h2 : pq_so S.2.1 k = 0) (h3 : pq_fi S.2.1 k = pa) (h4 : ps k = false) : rm_ch S j pa ps k = true := by
  unfold rm_ch; rw [h1, h2, h3, h4]; simp
theorem pq_best_keep {ids : Nat → Nat} {c : Nat → Bool} {n : Nat} (h : c n = false) : pq_best ids c (n + 1) = pq_best ids c n := by
  show (if c n && _ then some n else pq_best ids c n) = _
  rw [h]; rfl
theorem pq_best_new {ids : Nat → Nat} {c : Nat → Bool} {n : Nat} (h : c n = true) (hb : pq_best ids c n = none) : pq_best ids c (n + 1) = some n := by
  show (if c n && (match pq_best ids c n with | none => true | some b => decide (ids b < ids n)) then some n else pq_best ids c n) = _
  rw [h, hb]; rfl
theorem pq_best_up {ids : Nat → Nat} {c : Nat → Bool} {n b : Nat} (h : c n = true) (hb : pq_best ids c n = some b) (hl : ids b < ids n) : pq_best ids c (n + 1) = some n := by
  show (if c n && (match pq_best ids c n with | none => true | some b => decide (ids b < ids n)) then some n else pq_best ids c n) = _
  rw [h, hb]; simp [hl]
theorem pq_best_no {ids : Nat → Nat} {c : Nat → Bool} {n b : Nat} (hb : pq_best ids c n = some b) (hl : ids n ≤ ids b) : pq_best ids c (n + 1) = some b := by
  show (if c n && (match pq_best ids c n with | none => true | some b => decide (ids b < ids n)) then some n else pq_best ids c n) = _
  rw [hb]
  have : ¬ ids b < ids n := by omega
  simp [this]
theorem pq_id_lt {M : Nat} {O : pq_O} (hw : pq_wf M O) (hM : M ≤ 90) {k : Nat} (hk : k < M) : pq_id O k < 1000 := by
  have := hw.2.2.2.1 k hk
  unfold pq_id
  omega
set_option maxRecDepth 100000 in
set_option maxHeartbeats 4000000 in
theorem k_R_nextBehind (l : Launch) {G : mp_G} {h : mp_H} {S : pq_S} {j : Nat} {pa : Option Nat} {ps : Nat → Bool} (hK : rm_K G h) (hS : rm_S h S) (hok : pq_ok S) (hj : j < 3) (hpa : ∀ p, pa = some p → p < 90) (hps : ∀ k, k < S.1 → h.2.1 39 k = .int (rm_b (ps k))) :
    mp_M G mp_Ts l y_R_nextBehind 0 0 0 [.ref (G.1 + 26), .int (nI j), .int (rm_i pa)] h (fun v h' => h' = h ∧ v = some (.int (rm_i (pq_best (pq_id S.2.1) (rm_ch S j pa ps) S.1)))) (fun _ _ => False) := by
  have hM : S.1 ≤ 90 := hok.1
  have hw := hok.2.1
  obtain ⟨s1, s2, s3⟩ := hS
  obtain ⟨-, -, s6⟩ := s3 j hj
  refine mp_enter (by decide) Y_R_nextBehind fun E hl X => ?_
  have hloop : ∀ (n k : Nat) (r : Option Nat) (z : Slot), mp_s1 z = true → k + n = S.1 → r = pq_best (pq_id S.2.1) (rm_ch S j pa ps) k → mp_W G E h 0 0 (mp_Q G E 0 0 (fun v h' => h' = h ∧ v = some (.int (rm_i (pq_best (pq_id S.2.1) (rm_ch S j pa ps) S.1)))) (fun _ _ => False)) 5 [.val (.ref (G.1 + 26)), .val (.int (nI j)), .val (.int (rm_i pa)), .val (.int (rm_i r)), .val (.int (nI k)), z] [] := by
    intro n
    induction n with
    | zero =>
      intro k r z hz hkn hr
      refine mp_iload X 7 d_R_nextBehind_5 rfl rfl ?_
      refine mp_aload_n X 8 d_R_nextBehind_7 rfl rfl rfl ?_
      refine mp_getf X 11 lk_R_55_R d_R_nextBehind_8 rfl (hK.sz (by decide)) hK.ob s1 ?_
      refine mp_Nge X 105 14 d_R_nextBehind_11 (by decide) rfl (by omega) (by omega) (fun q1 => ?_) (fun q1 => ?_)
      · refine mp_iload_n X 106 d_R_nextBehind_105 rfl rfl rfl ?_
        have hk : k = S.1 := by omega
        subst hk
        exact mp_iret X d_R_nextBehind_106 rfl rfl (by decide) (by decide) ⟨rfl, by rw [hr]⟩
      · omega
    | succ n ih =>
      intro k r z hz hkn hr
      have hkM : k < S.1 := by omega
      obtain ⟨t1, t2, t3, t4, t5, t6⟩ := s2 k hkM
      have hso := (hw.2.2.2.1 k hkM).2.2.2.1
      have hidk := pq_id_lt hw hM hkM
      have hf : ∀ p, pq_fi S.2.1 k = some p → p < 1000 := fun p hp => by have := (hw.1 k hkM p hp).1; omega
      have hpa' : ∀ p, pa = some p → p < 1000 := fun p hp => by have := hpa p hp; omega
      have s_kb := s6 k (by omega)
      have s_pb := hps k hkM
      cases r with
      | none =>
        refine mp_eq rfl (L2 := [.val (.ref (G.1 + 26)), .val (.int (nI j)), .val (.int (rm_i pa)), .val (.int (-1)), .val (.int (nI k)), z]) rfl rfl ?_
        refine mp_iload X 7 d_R_nextBehind_5 rfl rfl ?_
        refine mp_aload_n X 8 d_R_nextBehind_7 rfl rfl rfl ?_
        refine mp_getf X 11 lk_R_55_R d_R_nextBehind_8 rfl (hK.sz (by decide)) hK.ob s1 ?_
        refine mp_Nge X 105 14 d_R_nextBehind_11 (by decide) rfl (by omega) (by omega) (fun q1 => ?_) (fun q1 => ?_)
        · omega
        · obtain ⟨kb, kb1, hkb⟩ : ∃ kb : Nat, (kb = 1 ∧ pq_kw (S.2.2.1 j) (S.2.2.2 j) k = true ∨ kb = 0 ∧ pq_kw (S.2.2.1 j) (S.2.2.2 j) k = false) ∧ h.2.1 34 (90 * j + k) = .int (nI kb) := by
            cases hkw : pq_kw (S.2.2.1 j) (S.2.2.2 j) k with
            | true => rw [hkw] at s_kb; exact ⟨1, Or.inl ⟨rfl, rfl⟩, s_kb⟩
            | false => rw [hkw] at s_kb; exact ⟨0, Or.inr ⟨rfl, rfl⟩, s_kb⟩
          have kbb : kb < 2 := by omega
          refine mp_aload_n X 15 d_R_nextBehind_14 rfl rfl rfl ?_
          refine mp_getf X 18 lk_R_32_R d_R_nextBehind_15 rfl (hK.sz (by decide)) hK.ob hK.r_knows ?_
          refine mp_bipush X 20 (v := nI 90) d_R_nextBehind_18 rfl (by decide) ?_
          refine mp_iload_n X 21 d_R_nextBehind_20 rfl rfl rfl ?_
          refine mp_imul X 22 d_R_nextBehind_21 rfl ?_
          rw [pk_mul]
          refine mp_iload X 24 d_R_nextBehind_22 rfl rfl ?_
          refine mp_iadd X 25 d_R_nextBehind_24 rfl ?_
          rw [nI_add]
          refine mp_zald X 26 (90 * j + k) d_R_nextBehind_25 rfl (hK.sz (by decide)) hK.k_knows rfl (by omega) (by decide) hkb ?_
          refine mp_Zeq X 64 29 d_R_nextBehind_26 (by decide) rfl (by omega) (fun q2 => ?_) (fun q2 => ?_)
          · have hkw : pq_kw (S.2.2.1 j) (S.2.2.2 j) k = false := by rcases kb1 with ⟨h1, h2⟩ | ⟨h1, h2⟩; omega; exact h2
            refine mp_iconst X 65 (v := nI 0) d_R_nextBehind_64 rfl (by decide) ?_
            refine mp_istore X 67 (L' := [.val (.ref (G.1 + 26)), .val (.int (nI j)), .val (.int (rm_i pa)), .val (.int (-1)), .val (.int (nI k)), .val (.int (nI 0))]) d_R_nextBehind_65 rfl rfl hz rfl ?_
            refine mp_iload X 69 d_R_nextBehind_67 rfl rfl ?_
            refine mp_Zeq X 97 72 d_R_nextBehind_69 (by decide) rfl (by omega) (fun q3 => ?_) (fun q3 => ?_)
            · refine mp_iload_n X 98 d_R_nextBehind_97 rfl rfl rfl ?_
              refine mp_istore_n X 99 (L' := [.val (.ref (G.1 + 26)), .val (.int (nI j)), .val (.int (rm_i pa)), .val (.int (-1)), .val (.int (nI k)), .val (.int (nI 0))]) d_R_nextBehind_98 rfl rfl rfl rfl rfl ?_
              refine mp_iinc X 102 (L' := [.val (.ref (G.1 + 26)), .val (.int (nI j)), .val (.int (rm_i pa)), .val (.int (-1)), .val (.int (nI (k + 1))), .val (.int (nI 0))]) (v := nI (k + 1)) d_R_nextBehind_99 rfl rfl (nI_1 _) rfl ?_
              refine mp_goto X 5 d_R_nextBehind_102 (by decide) ?_
              exact ih (k + 1) none _ rfl (by omega) (by rw [pq_best_keep (show rm_ch S j pa ps k = false by unfold rm_ch; rw [hkw]; rfl), ← hr])
            · exact absurd rfl q3
          · have hkw : pq_kw (S.2.2.1 j) (S.2.2.2 j) k = true := by rcases kb1 with ⟨h1, h2⟩ | ⟨h1, h2⟩; exact h2; omega
            refine mp_aload_n X 30 d_R_nextBehind_29 rfl rfl rfl ?_
            refine mp_getf X 33 lk_R_7_R d_R_nextBehind_30 rfl (hK.sz (by decide)) hK.ob hK.r_sort ?_
            refine mp_iload X 35 d_R_nextBehind_33 rfl rfl ?_
            refine mp_iald X 36 (k) d_R_nextBehind_35 rfl (hK.sz (by decide)) hK.k_sort rfl (by omega) (by decide) t1 ?_
            refine mp_Zne X 64 39 d_R_nextBehind_36 (by decide) rfl (by omega) (fun q4 => ?_) (fun q4 => ?_)
            · refine mp_iconst X 65 (v := nI 0) d_R_nextBehind_64 rfl (by decide) ?_
              refine mp_istore X 67 (L' := [.val (.ref (G.1 + 26)), .val (.int (nI j)), .val (.int (rm_i pa)), .val (.int (-1)), .val (.int (nI k)), .val (.int (nI 0))]) d_R_nextBehind_65 rfl rfl hz rfl ?_
              refine mp_iload X 69 d_R_nextBehind_67 rfl rfl ?_
              refine mp_Zeq X 97 72 d_R_nextBehind_69 (by decide) rfl (by omega) (fun q5 => ?_) (fun q5 => ?_)
              · refine mp_iload_n X 98 d_R_nextBehind_97 rfl rfl rfl ?_
                refine mp_istore_n X 99 (L' := [.val (.ref (G.1 + 26)), .val (.int (nI j)), .val (.int (rm_i pa)), .val (.int (-1)), .val (.int (nI k)), .val (.int (nI 0))]) d_R_nextBehind_98 rfl rfl rfl rfl rfl ?_
                refine mp_iinc X 102 (L' := [.val (.ref (G.1 + 26)), .val (.int (nI j)), .val (.int (rm_i pa)), .val (.int (-1)), .val (.int (nI (k + 1))), .val (.int (nI 0))]) (v := nI (k + 1)) d_R_nextBehind_99 rfl rfl (nI_1 _) rfl ?_
                refine mp_goto X 5 d_R_nextBehind_102 (by decide) ?_
                exact ih (k + 1) none _ rfl (by omega) (by rw [pq_best_keep (show rm_ch S j pa ps k = false by unfold rm_ch; simp [q4]), ← hr])
              · exact absurd rfl q5
            · refine mp_aload_n X 40 d_R_nextBehind_39 rfl rfl rfl ?_
              refine mp_getf X 43 lk_R_16_R d_R_nextBehind_40 rfl (hK.sz (by decide)) hK.ob hK.r_first ?_
              refine mp_iload X 45 d_R_nextBehind_43 rfl rfl ?_
              refine mp_iald X 46 (k) d_R_nextBehind_45 rfl (hK.sz (by decide)) hK.k_first rfl (by omega) (by decide) t3 ?_
              refine mp_iload_n X 47 d_R_nextBehind_46 rfl rfl rfl ?_
              refine mp_icmp_ne X 64 50 d_R_nextBehind_47 (by decide) rfl (fun q6 => ?_) (fun q6 => ?_)
              · refine mp_iconst X 65 (v := nI 0) d_R_nextBehind_64 rfl (by decide) ?_
                refine mp_istore X 67 (L' := [.val (.ref (G.1 + 26)), .val (.int (nI j)), .val (.int (rm_i pa)), .val (.int (-1)), .val (.int (nI k)), .val (.int (nI 0))]) d_R_nextBehind_65 rfl rfl hz rfl ?_
                refine mp_iload X 69 d_R_nextBehind_67 rfl rfl ?_
                refine mp_Zeq X 97 72 d_R_nextBehind_69 (by decide) rfl (by omega) (fun q7 => ?_) (fun q7 => ?_)
                · refine mp_iload_n X 98 d_R_nextBehind_97 rfl rfl rfl ?_
                  refine mp_istore_n X 99 (L' := [.val (.ref (G.1 + 26)), .val (.int (nI j)), .val (.int (rm_i pa)), .val (.int (-1)), .val (.int (nI k)), .val (.int (nI 0))]) d_R_nextBehind_98 rfl rfl rfl rfl rfl ?_
                  refine mp_iinc X 102 (L' := [.val (.ref (G.1 + 26)), .val (.int (nI j)), .val (.int (rm_i pa)), .val (.int (-1)), .val (.int (nI (k + 1))), .val (.int (nI 0))]) (v := nI (k + 1)) d_R_nextBehind_99 rfl rfl (nI_1 _) rfl ?_
                  refine mp_goto X 5 d_R_nextBehind_102 (by decide) ?_
                  have e9 : ¬ pq_fi S.2.1 k = pa := fun e => q6 (by rw [e])
                  exact ih (k + 1) none _ rfl (by omega) (by rw [pq_best_keep (show rm_ch S j pa ps k = false by unfold rm_ch; simp [e9]), ← hr])
                · exact absurd rfl q7
              · obtain ⟨pb, pb1, hpb⟩ : ∃ pb : Nat, (pb = 1 ∧ ps k = true ∨ pb = 0 ∧ ps k = false) ∧ h.2.1 39 (k) = .int (nI pb) := by
                  cases hkw : ps k with
                  | true => rw [hkw] at s_pb; exact ⟨1, Or.inl ⟨rfl, rfl⟩, s_pb⟩
                  | false => rw [hkw] at s_pb; exact ⟨0, Or.inr ⟨rfl, rfl⟩, s_pb⟩
                have pbb : pb < 2 := by omega
                refine mp_aload_n X 51 d_R_nextBehind_50 rfl rfl rfl ?_
                refine mp_getf X 54 lk_R_48_R d_R_nextBehind_51 rfl (hK.sz (by decide)) hK.ob hK.r_passed ?_
                refine mp_iload X 56 d_R_nextBehind_54 rfl rfl ?_
                refine mp_zald X 57 (k) d_R_nextBehind_56 rfl (hK.sz (by decide)) hK.k_passed rfl (by omega) (by decide) hpb ?_
                refine mp_Zne X 64 60 d_R_nextBehind_57 (by decide) rfl (by omega) (fun q8 => ?_) (fun q8 => ?_)
                · have hpw : ps k = true := by rcases pb1 with ⟨h1, h2⟩ | ⟨h1, h2⟩; exact h2; omega
                  refine mp_iconst X 65 (v := nI 0) d_R_nextBehind_64 rfl (by decide) ?_
                  refine mp_istore X 67 (L' := [.val (.ref (G.1 + 26)), .val (.int (nI j)), .val (.int (rm_i pa)), .val (.int (-1)), .val (.int (nI k)), .val (.int (nI 0))]) d_R_nextBehind_65 rfl rfl hz rfl ?_
                  refine mp_iload X 69 d_R_nextBehind_67 rfl rfl ?_
                  refine mp_Zeq X 97 72 d_R_nextBehind_69 (by decide) rfl (by omega) (fun q9 => ?_) (fun q9 => ?_)
                  · refine mp_iload_n X 98 d_R_nextBehind_97 rfl rfl rfl ?_
                    refine mp_istore_n X 99 (L' := [.val (.ref (G.1 + 26)), .val (.int (nI j)), .val (.int (rm_i pa)), .val (.int (-1)), .val (.int (nI k)), .val (.int (nI 0))]) d_R_nextBehind_98 rfl rfl rfl rfl rfl ?_
                    refine mp_iinc X 102 (L' := [.val (.ref (G.1 + 26)), .val (.int (nI j)), .val (.int (rm_i pa)), .val (.int (-1)), .val (.int (nI (k + 1))), .val (.int (nI 0))]) (v := nI (k + 1)) d_R_nextBehind_99 rfl rfl (nI_1 _) rfl ?_
                    refine mp_goto X 5 d_R_nextBehind_102 (by decide) ?_
                    exact ih (k + 1) none _ rfl (by omega) (by rw [pq_best_keep (show rm_ch S j pa ps k = false by unfold rm_ch; rw [hpw]; simp), ← hr])
                  · exact absurd rfl q9
                · have hpw : ps k = false := by rcases pb1 with ⟨h1, h2⟩ | ⟨h1, h2⟩; omega; exact h2
                  refine mp_iconst X 61 (v := nI 1) d_R_nextBehind_60 rfl (by decide) ?_
                  refine mp_goto X 65 d_R_nextBehind_61 (by decide) ?_
                  refine mp_istore X 67 (L' := [.val (.ref (G.1 + 26)), .val (.int (nI j)), .val (.int (rm_i pa)), .val (.int (-1)), .val (.int (nI k)), .val (.int (nI 1))]) d_R_nextBehind_65 rfl rfl hz rfl ?_
                  refine mp_iload X 69 d_R_nextBehind_67 rfl rfl ?_
                  refine mp_Zeq X 97 72 d_R_nextBehind_69 (by decide) rfl (by omega) (fun q10 => ?_) (fun q10 => ?_)
                  · exact absurd q10 (by decide)
                  · refine mp_iload_n X 73 d_R_nextBehind_72 rfl rfl rfl ?_
                    refine mp_if_lt X 92 76 d_R_nextBehind_73 (by decide) rfl (fun q11 => ?_) (fun q11 => ?_)
                    · refine mp_iload X 94 d_R_nextBehind_92 rfl rfl ?_
                      refine mp_goto X 98 d_R_nextBehind_94 (by decide) ?_
                      refine mp_istore_n X 99 (L' := [.val (.ref (G.1 + 26)), .val (.int (nI j)), .val (.int (rm_i pa)), .val (.int (nI k)), .val (.int (nI k)), .val (.int (nI 1))]) d_R_nextBehind_98 rfl rfl rfl rfl rfl ?_
                      refine mp_iinc X 102 (L' := [.val (.ref (G.1 + 26)), .val (.int (nI j)), .val (.int (rm_i pa)), .val (.int (nI k)), .val (.int (nI (k + 1))), .val (.int (nI 1))]) (v := nI (k + 1)) d_R_nextBehind_99 rfl rfl (nI_1 _) rfl ?_
                      refine mp_goto X 5 d_R_nextBehind_102 (by decide) ?_
                      have e9 : pq_fi S.2.1 k = pa := (rm_i_eq hf hpa').mp q6
                      have hct : rm_ch S j pa ps k = true := rm_ch_t hkw q4 e9 hpw
                      exact ih (k + 1) (some k) _ rfl (by omega) (by rw [pq_best_new hct hr.symm])
                    · exact absurd (by decide) q11
      | some b0 =>
        obtain ⟨hb0, -, -⟩ := (pq_best_spec (pq_id S.2.1) (rm_ch S j pa ps) k).1 b0 hr.symm
        have hidb := pq_id_lt hw hM (show b0 < S.1 by omega)
        have tb := (s2 b0 (by omega)).2.1
        refine mp_eq rfl (L2 := [.val (.ref (G.1 + 26)), .val (.int (nI j)), .val (.int (rm_i pa)), .val (.int (nI b0)), .val (.int (nI k)), z]) rfl rfl ?_
        refine mp_iload X 7 d_R_nextBehind_5 rfl rfl ?_
        refine mp_aload_n X 8 d_R_nextBehind_7 rfl rfl rfl ?_
        refine mp_getf X 11 lk_R_55_R d_R_nextBehind_8 rfl (hK.sz (by decide)) hK.ob s1 ?_
        refine mp_Nge X 105 14 d_R_nextBehind_11 (by decide) rfl (by omega) (by omega) (fun q1 => ?_) (fun q1 => ?_)
        · omega
        · obtain ⟨kb, kb1, hkb⟩ : ∃ kb : Nat, (kb = 1 ∧ pq_kw (S.2.2.1 j) (S.2.2.2 j) k = true ∨ kb = 0 ∧ pq_kw (S.2.2.1 j) (S.2.2.2 j) k = false) ∧ h.2.1 34 (90 * j + k) = .int (nI kb) := by
            cases hkw : pq_kw (S.2.2.1 j) (S.2.2.2 j) k with
            | true => rw [hkw] at s_kb; exact ⟨1, Or.inl ⟨rfl, rfl⟩, s_kb⟩
            | false => rw [hkw] at s_kb; exact ⟨0, Or.inr ⟨rfl, rfl⟩, s_kb⟩
          have kbb : kb < 2 := by omega
          refine mp_aload_n X 15 d_R_nextBehind_14 rfl rfl rfl ?_
          refine mp_getf X 18 lk_R_32_R d_R_nextBehind_15 rfl (hK.sz (by decide)) hK.ob hK.r_knows ?_
          refine mp_bipush X 20 (v := nI 90) d_R_nextBehind_18 rfl (by decide) ?_
          refine mp_iload_n X 21 d_R_nextBehind_20 rfl rfl rfl ?_
          refine mp_imul X 22 d_R_nextBehind_21 rfl ?_
          rw [pk_mul]
          refine mp_iload X 24 d_R_nextBehind_22 rfl rfl ?_
          refine mp_iadd X 25 d_R_nextBehind_24 rfl ?_
          rw [nI_add]
          refine mp_zald X 26 (90 * j + k) d_R_nextBehind_25 rfl (hK.sz (by decide)) hK.k_knows rfl (by omega) (by decide) hkb ?_
          refine mp_Zeq X 64 29 d_R_nextBehind_26 (by decide) rfl (by omega) (fun q2 => ?_) (fun q2 => ?_)
          · have hkw : pq_kw (S.2.2.1 j) (S.2.2.2 j) k = false := by rcases kb1 with ⟨h1, h2⟩ | ⟨h1, h2⟩; omega; exact h2
            refine mp_iconst X 65 (v := nI 0) d_R_nextBehind_64 rfl (by decide) ?_
            refine mp_istore X 67 (L' := [.val (.ref (G.1 + 26)), .val (.int (nI j)), .val (.int (rm_i pa)), .val (.int (nI b0)), .val (.int (nI k)), .val (.int (nI 0))]) d_R_nextBehind_65 rfl rfl hz rfl ?_
            refine mp_iload X 69 d_R_nextBehind_67 rfl rfl ?_
            refine mp_Zeq X 97 72 d_R_nextBehind_69 (by decide) rfl (by omega) (fun q3 => ?_) (fun q3 => ?_)
            · refine mp_iload_n X 98 d_R_nextBehind_97 rfl rfl rfl ?_
              refine mp_istore_n X 99 (L' := [.val (.ref (G.1 + 26)), .val (.int (nI j)), .val (.int (rm_i pa)), .val (.int (nI b0)), .val (.int (nI k)), .val (.int (nI 0))]) d_R_nextBehind_98 rfl rfl rfl rfl rfl ?_
              refine mp_iinc X 102 (L' := [.val (.ref (G.1 + 26)), .val (.int (nI j)), .val (.int (rm_i pa)), .val (.int (nI b0)), .val (.int (nI (k + 1))), .val (.int (nI 0))]) (v := nI (k + 1)) d_R_nextBehind_99 rfl rfl (nI_1 _) rfl ?_
              refine mp_goto X 5 d_R_nextBehind_102 (by decide) ?_
              exact ih (k + 1) (some b0) _ rfl (by omega) (by rw [pq_best_keep (show rm_ch S j pa ps k = false by unfold rm_ch; rw [hkw]; rfl), ← hr])
            · exact absurd rfl q3
          · have hkw : pq_kw (S.2.2.1 j) (S.2.2.2 j) k = true := by rcases kb1 with ⟨h1, h2⟩ | ⟨h1, h2⟩; exact h2; omega
            refine mp_aload_n X 30 d_R_nextBehind_29 rfl rfl rfl ?_
            refine mp_getf X 33 lk_R_7_R d_R_nextBehind_30 rfl (hK.sz (by decide)) hK.ob hK.r_sort ?_
            refine mp_iload X 35 d_R_nextBehind_33 rfl rfl ?_
            refine mp_iald X 36 (k) d_R_nextBehind_35 rfl (hK.sz (by decide)) hK.k_sort rfl (by omega) (by decide) t1 ?_
            refine mp_Zne X 64 39 d_R_nextBehind_36 (by decide) rfl (by omega) (fun q4 => ?_) (fun q4 => ?_)
            · refine mp_iconst X 65 (v := nI 0) d_R_nextBehind_64 rfl (by decide) ?_
              refine mp_istore X 67 (L' := [.val (.ref (G.1 + 26)), .val (.int (nI j)), .val (.int (rm_i pa)), .val (.int (nI b0)), .val (.int (nI k)), .val (.int (nI 0))]) d_R_nextBehind_65 rfl rfl hz rfl ?_
              refine mp_iload X 69 d_R_nextBehind_67 rfl rfl ?_
              refine mp_Zeq X 97 72 d_R_nextBehind_69 (by decide) rfl (by omega) (fun q5 => ?_) (fun q5 => ?_)
              · refine mp_iload_n X 98 d_R_nextBehind_97 rfl rfl rfl ?_
                refine mp_istore_n X 99 (L' := [.val (.ref (G.1 + 26)), .val (.int (nI j)), .val (.int (rm_i pa)), .val (.int (nI b0)), .val (.int (nI k)), .val (.int (nI 0))]) d_R_nextBehind_98 rfl rfl rfl rfl rfl ?_
                refine mp_iinc X 102 (L' := [.val (.ref (G.1 + 26)), .val (.int (nI j)), .val (.int (rm_i pa)), .val (.int (nI b0)), .val (.int (nI (k + 1))), .val (.int (nI 0))]) (v := nI (k + 1)) d_R_nextBehind_99 rfl rfl (nI_1 _) rfl ?_
                refine mp_goto X 5 d_R_nextBehind_102 (by decide) ?_
                exact ih (k + 1) (some b0) _ rfl (by omega) (by rw [pq_best_keep (show rm_ch S j pa ps k = false by unfold rm_ch; simp [q4]), ← hr])
              · exact absurd rfl q5
            · refine mp_aload_n X 40 d_R_nextBehind_39 rfl rfl rfl ?_
              refine mp_getf X 43 lk_R_16_R d_R_nextBehind_40 rfl (hK.sz (by decide)) hK.ob hK.r_first ?_
              refine mp_iload X 45 d_R_nextBehind_43 rfl rfl ?_
              refine mp_iald X 46 (k) d_R_nextBehind_45 rfl (hK.sz (by decide)) hK.k_first rfl (by omega) (by decide) t3 ?_
              refine mp_iload_n X 47 d_R_nextBehind_46 rfl rfl rfl ?_
              refine mp_icmp_ne X 64 50 d_R_nextBehind_47 (by decide) rfl (fun q6 => ?_) (fun q6 => ?_)
              · refine mp_iconst X 65 (v := nI 0) d_R_nextBehind_64 rfl (by decide) ?_
                refine mp_istore X 67 (L' := [.val (.ref (G.1 + 26)), .val (.int (nI j)), .val (.int (rm_i pa)), .val (.int (nI b0)), .val (.int (nI k)), .val (.int (nI 0))]) d_R_nextBehind_65 rfl rfl hz rfl ?_
                refine mp_iload X 69 d_R_nextBehind_67 rfl rfl ?_
                refine mp_Zeq X 97 72 d_R_nextBehind_69 (by decide) rfl (by omega) (fun q7 => ?_) (fun q7 => ?_)
                · refine mp_iload_n X 98 d_R_nextBehind_97 rfl rfl rfl ?_
                  refine mp_istore_n X 99 (L' := [.val (.ref (G.1 + 26)), .val (.int (nI j)), .val (.int (rm_i pa)), .val (.int (nI b0)), .val (.int (nI k)), .val (.int (nI 0))]) d_R_nextBehind_98 rfl rfl rfl rfl rfl ?_
                  refine mp_iinc X 102 (L' := [.val (.ref (G.1 + 26)), .val (.int (nI j)), .val (.int (rm_i pa)), .val (.int (nI b0)), .val (.int (nI (k + 1))), .val (.int (nI 0))]) (v := nI (k + 1)) d_R_nextBehind_99 rfl rfl (nI_1 _) rfl ?_
                  refine mp_goto X 5 d_R_nextBehind_102 (by decide) ?_
                  have e9 : ¬ pq_fi S.2.1 k = pa := fun e => q6 (by rw [e])
                  exact ih (k + 1) (some b0) _ rfl (by omega) (by rw [pq_best_keep (show rm_ch S j pa ps k = false by unfold rm_ch; simp [e9]), ← hr])
                · exact absurd rfl q7
              · obtain ⟨pb, pb1, hpb⟩ : ∃ pb : Nat, (pb = 1 ∧ ps k = true ∨ pb = 0 ∧ ps k = false) ∧ h.2.1 39 (k) = .int (nI pb) := by
                  cases hkw : ps k with
                  | true => rw [hkw] at s_pb; exact ⟨1, Or.inl ⟨rfl, rfl⟩, s_pb⟩
                  | false => rw [hkw] at s_pb; exact ⟨0, Or.inr ⟨rfl, rfl⟩, s_pb⟩
                have pbb : pb < 2 := by omega
                refine mp_aload_n X 51 d_R_nextBehind_50 rfl rfl rfl ?_
                refine mp_getf X 54 lk_R_48_R d_R_nextBehind_51 rfl (hK.sz (by decide)) hK.ob hK.r_passed ?_
                refine mp_iload X 56 d_R_nextBehind_54 rfl rfl ?_
                refine mp_zald X 57 (k) d_R_nextBehind_56 rfl (hK.sz (by decide)) hK.k_passed rfl (by omega) (by decide) hpb ?_
                refine mp_Zne X 64 60 d_R_nextBehind_57 (by decide) rfl (by omega) (fun q8 => ?_) (fun q8 => ?_)
                · have hpw : ps k = true := by rcases pb1 with ⟨h1, h2⟩ | ⟨h1, h2⟩; exact h2; omega
                  refine mp_iconst X 65 (v := nI 0) d_R_nextBehind_64 rfl (by decide) ?_
                  refine mp_istore X 67 (L' := [.val (.ref (G.1 + 26)), .val (.int (nI j)), .val (.int (rm_i pa)), .val (.int (nI b0)), .val (.int (nI k)), .val (.int (nI 0))]) d_R_nextBehind_65 rfl rfl hz rfl ?_
                  refine mp_iload X 69 d_R_nextBehind_67 rfl rfl ?_
                  refine mp_Zeq X 97 72 d_R_nextBehind_69 (by decide) rfl (by omega) (fun q9 => ?_) (fun q9 => ?_)
                  · refine mp_iload_n X 98 d_R_nextBehind_97 rfl rfl rfl ?_
                    refine mp_istore_n X 99 (L' := [.val (.ref (G.1 + 26)), .val (.int (nI j)), .val (.int (rm_i pa)), .val (.int (nI b0)), .val (.int (nI k)), .val (.int (nI 0))]) d_R_nextBehind_98 rfl rfl rfl rfl rfl ?_
                    refine mp_iinc X 102 (L' := [.val (.ref (G.1 + 26)), .val (.int (nI j)), .val (.int (rm_i pa)), .val (.int (nI b0)), .val (.int (nI (k + 1))), .val (.int (nI 0))]) (v := nI (k + 1)) d_R_nextBehind_99 rfl rfl (nI_1 _) rfl ?_
                    refine mp_goto X 5 d_R_nextBehind_102 (by decide) ?_
                    exact ih (k + 1) (some b0) _ rfl (by omega) (by rw [pq_best_keep (show rm_ch S j pa ps k = false by unfold rm_ch; rw [hpw]; simp), ← hr])
                  · exact absurd rfl q9
                · have hpw : ps k = false := by rcases pb1 with ⟨h1, h2⟩ | ⟨h1, h2⟩; omega; exact h2
                  refine mp_iconst X 61 (v := nI 1) d_R_nextBehind_60 rfl (by decide) ?_
                  refine mp_goto X 65 d_R_nextBehind_61 (by decide) ?_
                  refine mp_istore X 67 (L' := [.val (.ref (G.1 + 26)), .val (.int (nI j)), .val (.int (rm_i pa)), .val (.int (nI b0)), .val (.int (nI k)), .val (.int (nI 1))]) d_R_nextBehind_65 rfl rfl hz rfl ?_
                  refine mp_iload X 69 d_R_nextBehind_67 rfl rfl ?_
                  refine mp_Zeq X 97 72 d_R_nextBehind_69 (by decide) rfl (by omega) (fun q10 => ?_) (fun q10 => ?_)
                  · exact absurd q10 (by decide)
                  · refine mp_iload_n X 73 d_R_nextBehind_72 rfl rfl rfl ?_
                    refine mp_Zlt X 92 76 d_R_nextBehind_73 (by decide) rfl (by omega) (fun q11 => ?_) (fun q11 => ?_)
                    · exact q11.elim
                    · refine mp_aload_n X 77 d_R_nextBehind_76 rfl rfl rfl ?_
                      refine mp_getf X 80 lk_R_13_R d_R_nextBehind_77 rfl (hK.sz (by decide)) hK.ob hK.r_ids ?_
                      refine mp_iload X 82 d_R_nextBehind_80 rfl rfl ?_
                      refine mp_iald X 83 (k) d_R_nextBehind_82 rfl (hK.sz (by decide)) hK.k_ids rfl (by omega) (by decide) t2 ?_
                      refine mp_aload_n X 84 d_R_nextBehind_83 rfl rfl rfl ?_
                      refine mp_getf X 87 lk_R_13_R d_R_nextBehind_84 rfl (hK.sz (by decide)) hK.ob hK.r_ids ?_
                      refine mp_iload_n X 88 d_R_nextBehind_87 rfl rfl rfl ?_
                      refine mp_iald X 89 (b0) d_R_nextBehind_88 rfl (hK.sz (by decide)) hK.k_ids rfl (by omega) (by decide) tb ?_
                      refine mp_Nle X 97 92 d_R_nextBehind_89 (by decide) rfl (by omega) (by omega) (fun q12 => ?_) (fun q12 => ?_)
                      · refine mp_iload_n X 98 d_R_nextBehind_97 rfl rfl rfl ?_
                        refine mp_istore_n X 99 (L' := [.val (.ref (G.1 + 26)), .val (.int (nI j)), .val (.int (rm_i pa)), .val (.int (nI b0)), .val (.int (nI k)), .val (.int (nI 1))]) d_R_nextBehind_98 rfl rfl rfl rfl rfl ?_
                        refine mp_iinc X 102 (L' := [.val (.ref (G.1 + 26)), .val (.int (nI j)), .val (.int (rm_i pa)), .val (.int (nI b0)), .val (.int (nI (k + 1))), .val (.int (nI 1))]) (v := nI (k + 1)) d_R_nextBehind_99 rfl rfl (nI_1 _) rfl ?_
                        refine mp_goto X 5 d_R_nextBehind_102 (by decide) ?_
                        have e9 : pq_fi S.2.1 k = pa := (rm_i_eq hf hpa').mp q6
                        have hct : rm_ch S j pa ps k = true := rm_ch_t hkw q4 e9 hpw
                        exact ih (k + 1) (some b0) _ rfl (by omega) (by rw [pq_best_no hr.symm q12])
                      · refine mp_iload X 94 d_R_nextBehind_92 rfl rfl ?_
                        refine mp_goto X 98 d_R_nextBehind_94 (by decide) ?_
                        refine mp_istore_n X 99 (L' := [.val (.ref (G.1 + 26)), .val (.int (nI j)), .val (.int (rm_i pa)), .val (.int (nI k)), .val (.int (nI k)), .val (.int (nI 1))]) d_R_nextBehind_98 rfl rfl rfl rfl rfl ?_
                        refine mp_iinc X 102 (L' := [.val (.ref (G.1 + 26)), .val (.int (nI j)), .val (.int (rm_i pa)), .val (.int (nI k)), .val (.int (nI (k + 1))), .val (.int (nI 1))]) (v := nI (k + 1)) d_R_nextBehind_99 rfl rfl (nI_1 _) rfl ?_
                        refine mp_goto X 5 d_R_nextBehind_102 (by decide) ?_
                        have e9 : pq_fi S.2.1 k = pa := (rm_i_eq hf hpa').mp q6
                        have hct : rm_ch S j pa ps k = true := rm_ch_t hkw q4 e9 hpw
                        exact ih (k + 1) (some k) _ rfl (by omega) (by rw [pq_best_up hct hr.symm q12])
  refine mp_eq rfl (L2 := [.val (.ref (G.1 + 26)), .val (.int (nI j)), .val (.int (rm_i pa)), .unset, .unset, .unset]) rfl rfl ?_
  refine mp_iconst X 1 (v := -1) d_R_nextBehind_0 rfl (by decide) ?_
  refine mp_istore_n X 2 (L' := [.val (.ref (G.1 + 26)), .val (.int (nI j)), .val (.int (rm_i pa)), .val (.int (-1)), .unset, .unset]) d_R_nextBehind_1 rfl rfl rfl rfl rfl ?_
  refine mp_iconst X 3 (v := nI 0) d_R_nextBehind_2 rfl (by decide) ?_
  refine mp_istore X 5 (L' := [.val (.ref (G.1 + 26)), .val (.int (nI j)), .val (.int (rm_i pa)), .val (.int (-1)), .val (.int (nI 0)), .unset]) d_R_nextBehind_3 rfl rfl rfl rfl ?_
  exact hloop S.1 0 none .unset rfl (by omega) rfl
end
section
/-! The reference's walk over the row: what comes next. -/
def rm_PA (O : pq_O) : Option Nat → List Nat
  | none => []
  | some a => pq_pa O a
def rm_cond (O : pq_O) (F : List Nat) (c : Nat) (at_ : Option Nat) : Prop := (∀ a, at_ = some a → a ∈ F.take c) ∧ ∀ f, F[c]? = some f → ∃ t, rm_PA O at_ = rm_PA O (pq_fi O f) ++ t
section RMD
variable {M : Nat} {O : pq_O} {kn : Nat → Nat} {cn : Nat}
theorem rm_pa {k : Nat} (hw : pq_wf M O) (hk : k < M) : pq_pa O k = rm_PA O (pq_fi O k) ++ [pq_id O k] := by
  rw [pq_pa_eq hw hk]
  cases pq_fi O k <;> rfl
theorem rm_PA_nil (hw : pq_wf M O) {x : Option Nat} (hx : ∀ p, x = some p → p < M) (h : rm_PA O x = []) : x = none := by
  cases x with
  | none => rfl
  | some p =>
    obtain ⟨Q, hQ⟩ := pq_pa_last hw (hx p rfl)
    have h' : pq_pa O p = [] := h
    rw [hQ] at h'
    simp at h'
theorem rm_PA_inj (hw : pq_wf M O) {x z : Option Nat} (hx : ∀ p, x = some p → p < M) (hz : ∀ p, z = some p → p < M) (h : rm_PA O x = rm_PA O z) : x = z := by
  cases x with
  | none => exact (rm_PA_nil hw hz h.symm).symm
  | some p => cases z with
    | none => exact rm_PA_nil hw hx h
    | some q => rw [pq_pa_inj hw (hx p rfl) (hz q rfl) h]
theorem rm_row_lt (hw : pq_wf M O) (hk : pq_kn M O kn cn) {x : Nat} (hx : x ∈ pq_row O kn cn) : x < M ∧ pq_so O x = 0 ∧ pq_kw kn cn x = true ∧ ∀ p, pq_fi O x = some p → p ∈ pq_row O kn cn := by
  obtain ⟨hm, -⟩ := pq_row_ok hw cn hk
  obtain ⟨h1, i, hi, h2⟩ := (hm x).mp hx
  have hxM : x < M := by rw [← h2]; exact hk.1 i hi
  refine ⟨hxM, h1, (pq_kw_iff kn x cn).mpr ⟨i, hi, h2⟩, fun p hp => ?_⟩
  obtain ⟨j, hj, hjp⟩ := hk.2.2 i hi p (Or.inl (by rw [h2]; exact hp))
  exact (hm p).mpr ⟨(hw.1 x hxM p hp).2.1, j, by omega, hjp⟩
theorem rm_split {F : List Nat} {c f : Nat} (h : F[c]? = some f) : F = F.take c ++ f :: F.drop (c + 1) := by
  have hc : c < F.length := (List.getElem?_eq_some_iff.mp h).1
  have e : F[c] = f := (List.getElem?_eq_some_iff.mp h).2
  conv => lhs; rw [← List.take_append_drop c F]
  rw [List.drop_eq_getElem_cons hc, e]
/-- the next letter behind at_, or none -/
theorem rm_next (hw : pq_wf M O) (hk : pq_kn M O kn cn) {c : Nat} {at_ : Option Nat} (hc : rm_cond O (pq_row O kn cn) c at_) {ch : Nat → Bool}
    (hch : ∀ k, k < M → (ch k = true ↔ (pq_kw kn cn k = true ∧ pq_so O k = 0) ∧ pq_fi O k = at_ ∧ k ∉ (pq_row O kn cn).take c)) :
    (∀ f, (pq_row O kn cn)[c]? = some f → pq_fi O f = at_ → pq_best (pq_id O) ch M = some f) ∧ (∀ f, (pq_row O kn cn)[c]? = some f → pq_fi O f ≠ at_ → pq_best (pq_id O) ch M = none) ∧ ((pq_row O kn cn)[c]? = none → pq_best (pq_id O) ch M = none) := by
  obtain ⟨hm, hs⟩ := pq_row_ok hw cn hk
  have hnd := pq_row_nodup hw hk
  have hin : ∀ k, k < M → ch k = true → k ∈ pq_row O kn cn := fun k hkM h => by
    obtain ⟨⟨h1, h2⟩, -, -⟩ := (hch k hkM).mp h
    obtain ⟨i, hi, h3⟩ := (pq_kw_iff kn k cn).mp h1
    exact (hm k).mpr ⟨h2, i, hi, h3⟩
  have hatM : ∀ p, at_ = some p → p < M := fun p hp => (rm_row_lt hw hk (List.mem_of_mem_take (hc.1 p hp))).1
  generalize hF : pq_row O kn cn = F at *
  refine ⟨fun f hf hfa => ?_, fun f hf hfa => ?_, fun hn => ?_⟩
  · have hsp := rm_split hf
    have hfF : f ∈ F := List.mem_of_getElem? hf
    obtain ⟨hfM, hso, hkw, -⟩ := rm_row_lt hw hk (hF ▸ hfF)
    have hs2 := hs
    rw [hsp, List.pairwise_append] at hs2
    have hnt : f ∉ F.take c := fun h => pq_lt_irr _ (hs2.2.2 f h f (by simp))
    refine pq_best_is hfM ((hch f hfM).mpr ⟨⟨hkw, hso⟩, hfa, hnt⟩) (fun k hkM hck hkf => ?_)
    obtain ⟨-, hka, hkt⟩ := (hch k hkM).mp hck
    have hkF := hin k hkM hck
    rw [hsp] at hkF
    rcases List.mem_append.mp hkF with h | h
    · exact absurd h hkt
    · rcases List.mem_cons.mp h with h | h
      · exact absurd h hkf
      · refine pq_dfsA (A := rm_PA O at_) hs2.2.1 ?_ k h ?_
        · rw [rm_pa hw hfM, hfa]
        · rw [rm_pa hw hkM, hka]
  · have hsp := rm_split hf
    have hfF : f ∈ F := List.mem_of_getElem? hf
    obtain ⟨hfM, hso, hkw, hpar⟩ := rm_row_lt hw hk (hF ▸ hfF)
    have hs2 := hs
    rw [hsp, List.pairwise_append] at hs2
    refine pq_best_none (fun k hkM => ?_)
    cases hck : ch k with
    | false => rfl
    | true =>
      exfalso
      obtain ⟨-, hka, hkt⟩ := (hch k hkM).mp hck
      have hkF := hin k hkM hck
      rw [hsp] at hkF
      have hkd : k ∈ f :: F.drop (c + 1) := by
        rcases List.mem_append.mp hkF with h | h
        · exact absurd h hkt
        · exact h
      obtain ⟨t, ht⟩ := hc.2 f hf
      cases t with
      | nil =>
        rw [List.append_nil] at ht
        exact hfa (rm_PA_inj hw hatM (fun p hp => by have := (hw.1 f hfM p hp).1; omega) ht).symm
      | cons e t =>
        cases hat : at_ with
        | none => rw [hat] at ht; simp [rm_PA] at ht
        | some a =>
          have ha := hs2.2.2 a (hc.1 a hat) f (by simp)
          have hpa : pq_pa O a = rm_PA O (pq_fi O f) ++ e :: t := by rw [hat] at ht; exact ht
          rw [hpa] at ha
          refine pq_dfsB hs2.2.1 (rm_pa hw hfM) ha k hkd (pq_id O k) ?_
          rw [rm_pa hw hkM, hka, hat]
          show pq_pa O a ++ _ = _
          rw [hpa]
  · refine pq_best_none (fun k hkM => ?_)
    cases hck : ch k with
    | false => rfl
    | true =>
      exfalso
      obtain ⟨-, -, hkt⟩ := (hch k hkM).mp hck
      have hl : F.length ≤ c := List.getElem?_eq_none_iff.mp hn
      rw [List.take_of_length_le hl] at hkt
      exact hkt (hin k hkM hck)
theorem rm_down (hw : pq_wf M O) (hk : pq_kn M O kn cn) {c f : Nat} (hf : (pq_row O kn cn)[c]? = some f) : rm_cond O (pq_row O kn cn) (c + 1) (some f) := by
  obtain ⟨hm, hs⟩ := pq_row_ok hw cn hk
  have hlt : ∀ x ∈ pq_row O kn cn, x < M ∧ ∀ p, pq_fi O x = some p → p ∈ pq_row O kn cn := fun x hx => ⟨(rm_row_lt hw hk hx).1, (rm_row_lt hw hk hx).2.2.2⟩
  generalize pq_row O kn cn = F at *
  have hsp := rm_split hf
  have hc : c < F.length := (List.getElem?_eq_some_iff.mp hf).1
  refine ⟨fun a ha => ?_, fun q hq => ?_⟩
  · cases ha
    rw [List.take_succ, hf]
    simp
  · have hsp2 := rm_split hq
    have e2 : F.drop (c + 1) = q :: F.drop (c + 2) := by
      have hc2 : c + 1 < F.length := (List.getElem?_eq_some_iff.mp hq).1
      rw [List.drop_eq_getElem_cons hc2, (List.getElem?_eq_some_iff.mp hq).2]
    have hqF : q ∈ F := List.mem_of_getElem? hq
    obtain ⟨hqM, hqp⟩ := hlt q hqF
    rw [e2] at hsp
    have hs2 := hs
    rw [hsp] at hs2
    refine pq_dfsC (n := pq_id O q) (R := rm_PA O (pq_fi O q)) hs2 (rm_pa hw hqM) ?_
    cases hp : pq_fi O q with
    | none => exact Or.inl rfl
    | some p => exact Or.inr ⟨p, by rw [← hsp]; exact hqp p hp, rfl⟩
theorem rm_up (hw : pq_wf M O) (hk : pq_kn M O kn cn) {c a : Nat} (hc : rm_cond O (pq_row O kn cn) c (some a)) (hn : ∀ f, (pq_row O kn cn)[c]? = some f → pq_fi O f ≠ some a) : rm_cond O (pq_row O kn cn) c (pq_fi O a) := by
  obtain ⟨hm, hs⟩ := pq_row_ok hw cn hk
  have hlt : ∀ x ∈ pq_row O kn cn, x < M ∧ ∀ p, pq_fi O x = some p → p ∈ pq_row O kn cn := fun x hx => ⟨(rm_row_lt hw hk hx).1, (rm_row_lt hw hk hx).2.2.2⟩
  generalize pq_row O kn cn = F at *
  have haT := hc.1 a rfl
  have haF : a ∈ F := List.mem_of_mem_take haT
  obtain ⟨haM, hap⟩ := hlt a haF
  refine ⟨fun p hp => ?_, fun f hf => ?_⟩
  · -- the parent is ahead of a
    have hpF := hap p hp
    have hpa : pq_lt (pq_pa O p) (pq_pa O a) := by
      rw [rm_pa hw haM, hp]
      exact pq_lt_app _ _ _
    rw [← List.take_append_drop c F] at hpF hs
    rcases List.mem_append.mp hpF with h | h
    · exact h
    · exfalso
      rw [List.pairwise_append] at hs
      exact pq_lt_irr _ (pq_lt_tr _ _ _ hpa (hs.2.2 a haT p h))
  · obtain ⟨t, ht⟩ := hc.2 f hf
    have hfF : f ∈ F := List.mem_of_getElem? hf
    obtain ⟨hfM, hfp⟩ := hlt f hfF
    have e1 : rm_PA O (some a) = rm_PA O (pq_fi O a) ++ [pq_id O a] := rm_pa hw haM
    cases ht0 : t with
    | nil =>
      exfalso
      rw [ht0, List.append_nil] at ht
      exact hn f hf (rm_PA_inj hw (fun p hp => (hlt p (hfp p hp)).1) (fun p hp => by cases hp; exact haM) ht.symm)
    | cons x t0 =>
      have hne : t ≠ [] := by rw [ht0]; simp
      refine ⟨t.dropLast, ?_⟩
      rw [e1] at ht
      have h2 := congrArg List.dropLast ht
      rw [List.dropLast_concat, List.dropLast_append_of_ne_nil hne] at h2
      exact h2
theorem rm_end (hw : pq_wf M O) (hk : pq_kn M O kn cn) {c : Nat} (hc : rm_cond O (pq_row O kn cn) c none) (hn : ∀ f, (pq_row O kn cn)[c]? = some f → pq_fi O f ≠ none) : (pq_row O kn cn)[c]? = none := by
  cases hf : (pq_row O kn cn)[c]? with
  | none => rfl
  | some f =>
    exfalso
    obtain ⟨t, ht⟩ := hc.2 f hf
    have hfF : f ∈ pq_row O kn cn := List.mem_of_getElem? hf
    obtain ⟨hfM, -, -, hfp⟩ := rm_row_lt hw hk hfF
    have h1 : rm_PA O (pq_fi O f) = [] := by
      have h2 : ([] : List Nat) = rm_PA O (pq_fi O f) ++ t := ht
      exact (List.append_eq_nil_iff.mp h2.symm).1
    exact hn f hf (rm_PA_nil hw (fun p hp => (rm_row_lt hw hk (hfp p hp)).1) h1)
end RMD
end
section
theorem rm_K.st {G : mp_G} {h : mp_H} (hK : rm_K G h) {o i : Nat} {v : Value} (ho : o ≠ 26 ∨ i = 0 ∨ i = 1 ∨ i = 11 ∨ i = 14) : rm_K G (mp_set h o i v) := by
  refine hK.fr (fun a b => a = o ∧ b = i) (fun b h1 h2 h3 h4 => ?_) (mp_fr.rf.set ⟨rfl, rfl⟩)
  omega
/-- what look writes: rowLength, textLength, row, place, text, passed -/
def rm_Q (o i : Nat) : Prop := (o = 26 ∧ (i = 11 ∨ i = 14)) ∨ o = 36 ∨ o = 37 ∨ o = 38 ∨ o = 39
theorem rm_QP {o i : Nat} (h : rm_Q o i) : rm_P o i := by unfold rm_Q at h; unfold rm_P; omega
abbrev rm_F (S : pq_S) (j : Nat) : List Nat := pq_row S.2.1 (S.2.2.1 j) (S.2.2.2 j)
abbrev rm_T (S : pq_S) (j : Nat) : List Nat := pq_tx S.2.1 (S.2.2.1 j) (S.2.2.2 j)
/-- a page is looked at -/
def rm_V (h : mp_H) (S : pq_S) (j : Nat) : Prop := h.2.1 26 14 = .int (nI (rm_T S j).length) ∧ (∀ i x, (rm_T S j)[i]? = some x → h.2.1 38 i = .int (nI x)) ∧ ∀ i x, (rm_F S j)[i]? = some x → h.2.1 37 x = .int (nI i)
def rm_Tc (S : pq_S) (j c : Nat) : List Nat := ((rm_F S j).take c).filter fun k => !pq_gn S.2.1 (S.2.2.1 j) (S.2.2.2 j) k
/-- while it is looked at: c letters passed -/
def rm_J (h : mp_H) (S : pq_S) (j c : Nat) : Prop := c ≤ (rm_F S j).length ∧ h.2.1 26 11 = .int (nI c) ∧ h.2.1 26 14 = .int (nI (rm_Tc S j c).length) ∧ (∀ k, k < S.1 → h.2.1 39 k = .int (rm_b (decide (k ∈ (rm_F S j).take c)))) ∧
  (∀ i x, i < c → (rm_F S j)[i]? = some x → h.2.1 37 x = .int (nI i)) ∧ ∀ i x, (rm_Tc S j c)[i]? = some x → h.2.1 38 i = .int (nI x)
theorem rm_Tc_succ {S : pq_S} {j c f : Nat} (hf : (rm_F S j)[c]? = some f) : rm_Tc S j (c + 1) = rm_Tc S j c ++ (if pq_gn S.2.1 (S.2.2.1 j) (S.2.2.2 j) f then [] else [f]) := by
  unfold rm_Tc
  rw [List.take_succ, hf, List.filter_append]
  cases hg : pq_gn S.2.1 (S.2.2.1 j) (S.2.2.2 j) f <;> simp [hg]
theorem rm_Tc_len {S : pq_S} {j c : Nat} (hc : c ≤ (rm_F S j).length) : (rm_Tc S j c).length ≤ c := by
  unfold rm_Tc
  refine Nat.le_trans (List.length_filter_le _ _) ?_
  simp
  omega
theorem rm_J_end {h : mp_H} {S : pq_S} {j c : Nat} (hJ : rm_J h S j c) (hn : (rm_F S j)[c]? = none) : rm_V h S j := by
  obtain ⟨j1, j2, j3, j4, j5, j6⟩ := hJ
  have hl : (rm_F S j).length ≤ c := List.getElem?_eq_none_iff.mp hn
  have e : rm_Tc S j c = rm_T S j := by unfold rm_Tc rm_T pq_tx; rw [List.take_of_length_le hl]
  rw [e] at j3 j6
  exact ⟨j3, j6, fun i x hx => j5 i x (by have := (List.getElem?_eq_some_iff.mp hx).1; omega) hx⟩
theorem rm_take_in {F : List Nat} {c f k : Nat} (hf : F[c]? = some f) : k ∈ F.take (c + 1) ↔ k = f ∨ k ∈ F.take c := by
  rw [List.take_succ, hf]
  simp [or_comm]
/-- a letter is passed that is gone -/
theorem rm_J_gone {h h' : mp_H} {S : pq_S} {j c f : Nat} (hok : pq_ok S) (hj : j < 3) (hJ : rm_J h S j c) (hf : (rm_F S j)[c]? = some f) (hg : pq_gn S.2.1 (S.2.2.1 j) (S.2.2.2 j) f = true)
    (hh : ∀ a b, h'.2.1 a b = if a = 26 ∧ b = 11 then .int (nI (c + 1)) else if a = 36 ∧ b = c then .int (nI f) else if a = 37 ∧ b = f then .int (nI c) else if a = 39 ∧ b = f then .int (nI 1) else h.2.1 a b) : rm_J h' S j (c + 1) := by
  obtain ⟨j1, j2, j3, j4, j5, j6⟩ := hJ
  have hnd := pq_row_nodup hok.2.1 (hok.2.2.1 j hj)
  have hlt : c < (rm_F S j).length := (List.getElem?_eq_some_iff.mp hf).1
  have eT := rm_Tc_succ hf
  rw [hg, if_pos rfl, List.append_nil] at eT
  refine ⟨hlt, by rw [hh]; simp, by rw [hh, eT]; simpa using j3, fun k hk => ?_, fun i x hi hx => ?_, fun i x hx => ?_⟩
  · rw [hh]
    have h1 : ¬ (39 = 26 ∧ k = 11) := by omega
    have h2 : ¬ (39 = 36 ∧ k = c) := by omega
    have h3 : ¬ (39 = 37 ∧ k = f) := by omega
    rw [if_neg h1, if_neg h2, if_neg h3]
    by_cases e : k = f
    · rw [if_pos ⟨rfl, e⟩]
      have : k ∈ (rm_F S j).take (c + 1) := (rm_take_in hf).mpr (Or.inl e)
      rw [decide_eq_true this]; rfl
    · rw [if_neg (by omega), j4 k hk]
      congr 2
      exact decide_eq_decide.mpr (by rw [rm_take_in hf]; simp [e])
  · rw [hh]
    have h1 : ¬ (37 = 26 ∧ x = 11) := by omega
    have h2 : ¬ (37 = 36 ∧ x = c) := by omega
    rw [if_neg h1, if_neg h2]
    by_cases e : i = c
    · subst e
      rw [hf] at hx
      cases hx
      rw [if_pos ⟨rfl, rfl⟩]
    · have hxf : x ≠ f := fun e2 => e ((List.getElem?_inj (by have := (List.getElem?_eq_some_iff.mp hx).1; exact this) hnd).mp (by rw [hx, hf, e2]))
      have h3 : ¬ (37 = 37 ∧ x = f) := fun z => hxf z.2
      have h4 : ¬ (37 = 39 ∧ x = f) := by omega
      rw [if_neg h3, if_neg h4]
      exact j5 i x (by omega) hx
  · rw [hh]
    have h1 : ¬ (38 = 26 ∧ i = 11) := by omega
    have h2 : ¬ (38 = 36 ∧ i = c) := by omega
    have h3 : ¬ (38 = 37 ∧ i = f) := by omega
    have h4 : ¬ (38 = 39 ∧ i = f) := by omega
    rw [if_neg h1, if_neg h2, if_neg h3, if_neg h4]
    rw [eT] at hx
    exact j6 i x hx
/-- a letter is passed that is shown -/
theorem rm_J_shown {h h' : mp_H} {S : pq_S} {j c f : Nat} (hok : pq_ok S) (hj : j < 3) (hJ : rm_J h S j c) (hf : (rm_F S j)[c]? = some f) (hg : pq_gn S.2.1 (S.2.2.1 j) (S.2.2.2 j) f = false)
    (hh : ∀ a b, h'.2.1 a b = if a = 26 ∧ b = 14 then .int (nI ((rm_Tc S j c).length + 1)) else if a = 38 ∧ b = (rm_Tc S j c).length then .int (nI f) else if a = 26 ∧ b = 11 then .int (nI (c + 1)) else if a = 36 ∧ b = c then .int (nI f) else if a = 37 ∧ b = f then .int (nI c) else if a = 39 ∧ b = f then .int (nI 1) else h.2.1 a b) : rm_J h' S j (c + 1) := by
  obtain ⟨j1, j2, j3, j4, j5, j6⟩ := hJ
  have hnd := pq_row_nodup hok.2.1 (hok.2.2.1 j hj)
  have hlt : c < (rm_F S j).length := (List.getElem?_eq_some_iff.mp hf).1
  have eT := rm_Tc_succ hf
  rw [hg, if_neg (by decide)] at eT
  refine ⟨hlt, by rw [hh]; simp, by rw [hh, eT]; simp, fun k hk => ?_, fun i x hi hx => ?_, fun i x hx => ?_⟩
  · rw [hh]
    have h1 : ¬ (39 = 26 ∧ k = 11) := by omega
    have h0 : ¬ (39 = 26 ∧ k = 14) := by omega
    have h5 : ¬ (39 = 38 ∧ k = (rm_Tc S j c).length) := by omega
    have h2 : ¬ (39 = 36 ∧ k = c) := by omega
    have h3 : ¬ (39 = 37 ∧ k = f) := by omega
    rw [if_neg h0, if_neg h5, if_neg h1, if_neg h2, if_neg h3]
    by_cases e : k = f
    · rw [if_pos ⟨rfl, e⟩]
      have : k ∈ (rm_F S j).take (c + 1) := (rm_take_in hf).mpr (Or.inl e)
      rw [decide_eq_true this]; rfl
    · rw [if_neg (by omega), j4 k hk]
      congr 2
      exact decide_eq_decide.mpr (by rw [rm_take_in hf]; simp [e])
  · rw [hh]
    have h1 : ¬ (37 = 26 ∧ x = 11) := by omega
    have h0 : ¬ (37 = 26 ∧ x = 14) := by omega
    have h5 : ¬ (37 = 38 ∧ x = (rm_Tc S j c).length) := by omega
    have h2 : ¬ (37 = 36 ∧ x = c) := by omega
    rw [if_neg h0, if_neg h5, if_neg h1, if_neg h2]
    by_cases e : i = c
    · subst e
      rw [hf] at hx
      cases hx
      rw [if_pos ⟨rfl, rfl⟩]
    · have hxf : x ≠ f := fun e2 => e ((List.getElem?_inj (by have := (List.getElem?_eq_some_iff.mp hx).1; exact this) hnd).mp (by rw [hx, hf, e2]))
      have h3 : ¬ (37 = 37 ∧ x = f) := fun z => hxf z.2
      have h4 : ¬ (37 = 39 ∧ x = f) := by omega
      rw [if_neg h3, if_neg h4]
      exact j5 i x (by omega) hx
  · rw [hh]
    have h1 : ¬ (38 = 26 ∧ i = 11) := by omega
    have h0 : ¬ (38 = 26 ∧ i = 14) := by omega
    have h2 : ¬ (38 = 36 ∧ i = c) := by omega
    have h3 : ¬ (38 = 37 ∧ i = f) := by omega
    have h4 : ¬ (38 = 39 ∧ i = f) := by omega
    rw [if_neg h0]
    rw [eT] at hx
    by_cases e : i = (rm_Tc S j c).length
    · rw [if_pos ⟨rfl, e⟩]
      rw [e, List.getElem?_append_right (Nat.le_refl _), Nat.sub_self] at hx
      cases hx
      rfl
    · rw [if_neg (by omega), if_neg h1, if_neg h2, if_neg h3, if_neg h4]
      have hil : i < (rm_Tc S j c).length := by
        have := (List.getElem?_eq_some_iff.mp hx).1
        simp at this
        omega
      rw [List.getElem?_append_left hil] at hx
      exact j6 i x hx
end
section
/-! The reference: look (rows laid by program). -/
theorem rm_first {M : Nat} {O : pq_O} {kn : Nat → Nat} {cn f : Nat} (hw : pq_wf M O) (hk : pq_kn M O kn cn) (hf : (pq_row O kn cn)[0]? = some f) : rm_PA O none = rm_PA O (pq_fi O f) ++ [] := by
  obtain ⟨hm, hs⟩ := pq_row_ok hw cn hk
  have hfF : f ∈ pq_row O kn cn := List.mem_of_getElem? hf
  obtain ⟨hfM, -, -, hfp⟩ := rm_row_lt hw hk hfF
  cases hp : pq_fi O f with
  | none => rfl
  | some p =>
    exfalso
    have hpF := hfp p hp
    have hlt : pq_lt (pq_pa O p) (pq_pa O f) := by rw [rm_pa hw hfM, hp]; exact pq_lt_app _ _ _
    have hsp := rm_split hf
    rw [hsp] at hs hpF
    simp only [List.take_zero, List.nil_append] at hs hpF
    rcases List.mem_cons.mp hpF with rfl | h
    · exact pq_lt_irr _ hlt
    · exact pq_lt_irr _ (pq_lt_tr _ _ _ hlt ((List.pairwise_cons.mp hs).1 p h))
set_option maxRecDepth 100000 in
set_option maxHeartbeats 4000000 in
theorem k_R_look (l : Launch) {G : mp_G} {h : mp_H} {S : pq_S} {j : Nat} (hK : rm_K G h) (hS : rm_S h S) (hok : pq_ok S) (hj : j < 3) :
    mp_M G mp_Ts l y_R_look 1 0 0 [.ref (G.1 + 26), .int (nI j)] h (fun v h' => v = none ∧ mp_fr rm_Q h h' ∧ rm_V h' S j) (fun _ _ => False) := by
  have hM : S.1 ≤ 90 := hok.1
  have hw := hok.2.1
  have hkj := hok.2.2.1 j hj
  have hFM : (rm_F S j).length ≤ 90 := by show (pq_row S.2.1 (S.2.2.1 j) (S.2.2.2 j)).length ≤ 90; have := pq_row_len S.2.1 (S.2.2.1 j) (S.2.2.2 j); have := pq_kn_le hkj; omega
  refine mp_enter (by decide) Y_R_look fun E hl X => ?_
  have hmain : ∀ (n : Nat) (h1 : mp_H) (c : Nat) (at_ nx : Option Nat), 2 * ((rm_F S j).length - c) + (rm_PA S.2.1 at_).length ≤ n → mp_fr rm_Q h h1 → rm_J h1 S j c → rm_cond S.2.1 (rm_F S j) c at_ → nx = pq_best (pq_id S.2.1) (rm_ch S j at_ (fun k => decide (k ∈ (rm_F S j).take c))) S.1 →
      mp_W G E h1 0 0 (mp_Q G E 0 0 (fun v h' => v = none ∧ mp_fr rm_Q h h' ∧ rm_V h' S j) (fun _ _ => False)) 49 [.val (.ref (G.1 + 26)), .val (.int (nI j)), .val (.int (rm_i at_)), .val (.int (rm_i nx))] [] := by
    intro n
    induction n using Nat.strongRecOn with
    | ind n ih =>
    intro h1 c at_ nx hn hf1 hJ hcd hnx
    have hK1 : rm_K G h1 := hK.fr rm_Q (by intro i a b c d; unfold rm_Q; omega) hf1
    have hS1 : rm_S h1 S := hS.fr (hf1.mono fun o i => rm_QP)
    have hch : ∀ k, k < S.1 → (rm_ch S j at_ (fun k => decide (k ∈ (rm_F S j).take c)) k = true ↔ (pq_kw (S.2.2.1 j) (S.2.2.2 j) k = true ∧ pq_so S.2.1 k = 0) ∧ pq_fi S.2.1 k = at_ ∧ k ∉ (rm_F S j).take c) := by
      intro k hk
      unfold rm_ch
      simp [and_assoc]
    obtain ⟨n1, n2, n3⟩ := rm_next hw hkj hcd hch
    have hcF := hJ.1
    cases nx with
    | none =>
      have hno : ∀ f, (rm_F S j)[c]? = some f → pq_fi S.2.1 f ≠ at_ := fun f hf e => by have := n1 f hf e; rw [← hnx] at this; cases this
      cases at_ with
      | none =>
        refine mp_eq rfl (L2 := [.val (.ref (G.1 + 26)), .val (.int (nI j)), .val (.int (-1)), .val (.int (-1))]) rfl rfl ?_
        refine mp_iload_n X 50 d_R_look_49 rfl rfl rfl ?_
        refine mp_if_ge X 57 53 d_R_look_50 (by decide) rfl (fun q1 => ?_) (fun q1 => ?_)
        · exact absurd q1 (by decide)
        · refine mp_iload_n X 54 d_R_look_53 rfl rfl rfl ?_
          refine mp_if_lt X 149 57 d_R_look_54 (by decide) rfl (fun q2 => ?_) (fun q2 => ?_)
          · exact mp_vret X d_R_look_149 rfl (by decide) (by decide) ⟨rfl, hf1, rm_J_end hJ (rm_end hw hkj hcd hno)⟩
          · exact absurd (by decide) q2
      | some a =>
        have haT := hcd.1 a rfl
        have haF : a ∈ rm_F S j := List.mem_of_mem_take haT
        have haM := (rm_row_lt hw hkj haF).1
        have hupc := rm_up hw hkj hcd hno
        have hfa : ∀ p, pq_fi S.2.1 a = some p → p < 90 := fun p hp => by have := (hw.1 a haM p hp).1; omega
        have ta := (hS1.2.1 a haM).2.2.1
        have hdep : (rm_PA S.2.1 (some a)).length = (rm_PA S.2.1 (pq_fi S.2.1 a)).length + 1 := by
          show (pq_pa S.2.1 a).length = _
          rw [rm_pa hw haM]
          simp
        refine mp_eq rfl (L2 := [.val (.ref (G.1 + 26)), .val (.int (nI j)), .val (.int (nI a)), .val (.int (-1))]) rfl rfl ?_
        refine mp_iload_n X 50 d_R_look_49 rfl rfl rfl ?_
        refine mp_Zge X 57 53 d_R_look_50 (by decide) rfl (by omega) (fun q1 => ?_) (fun q1 => ?_)
        · refine mp_iload_n X 58 d_R_look_57 rfl rfl rfl ?_
          refine mp_if_ge X 71 61 d_R_look_58 (by decide) rfl (fun q2 => ?_) (fun q2 => ?_)
          · exact absurd q2 (by decide)
          · refine mp_aload_n X 62 d_R_look_61 rfl rfl rfl ?_
            refine mp_getf (v := .ref (G.1 + 29)) X 65 lk_R_16_R d_R_look_62 rfl (hK1.sz (by decide)) hK1.ob hK1.r_first ?_
            refine mp_iload_n X 66 d_R_look_65 rfl rfl rfl ?_
            refine mp_iald (v := .int (rm_i (pq_fi S.2.1 a))) X 67 (a) d_R_look_66 rfl (hK1.sz (by decide)) hK1.k_first rfl (by omega) (by decide) ta ?_
            refine mp_istore_n X 68 (L' := [.val (.ref (G.1 + 26)), .val (.int (nI j)), .val (.int (rm_i (pq_fi S.2.1 a))), .val (.int (-1))]) d_R_look_67 rfl rfl rfl rfl rfl ?_
            refine mp_goto X 139 d_R_look_68 (by decide) ?_
            refine mp_aload_n X 140 d_R_look_139 rfl rfl rfl ?_
            refine mp_iload_n X 141 d_R_look_140 rfl rfl rfl ?_
            refine mp_iload_n X 142 d_R_look_141 rfl rfl rfl ?_
            refine mp_callE X mp_Ts_ok 145 (rest := []) (k_R_nextBehind (pa := pq_fi S.2.1 a) (ps := fun k => decide (k ∈ (rm_F S j).take c)) _ hK1 hS1 hok hj hfa hJ.2.2.2.1) Y_R_nextBehind in_R (mp_IV X (q := (nR_R, nT_R, 17)) d_R_look_142 Y_R_nextBehind ml_R_64 im_R_nextBehind se_R_nextBehind (by decide) rfl (by decide) (by show _ = some 2; decide) (hK1.sz (by decide)) hK1.ob) rfl (by decide) (by decide) (by decide) (by decide) rfl (by decide) rfl ?_
            refine mp_istore_n X 146 (L' := [.val (.ref (G.1 + 26)), .val (.int (nI j)), .val (.int (rm_i (pq_fi S.2.1 a))), .val (.int (rm_i (pq_best (pq_id S.2.1) (rm_ch S j (pq_fi S.2.1 a) (fun k => decide (k ∈ (rm_F S j).take c))) S.1)))]) d_R_look_145 rfl rfl rfl rfl rfl ?_
            refine mp_goto X 49 d_R_look_146 (by decide) ?_
            exact ih (2 * ((rm_F S j).length - c) + (rm_PA S.2.1 (pq_fi S.2.1 a)).length) (by omega) h1 c (pq_fi S.2.1 a) _ (Nat.le_refl _) hf1 hJ hupc rfl
        · exact q1.elim
    | some f =>
      have hf : (rm_F S j)[c]? = some f ∧ pq_fi S.2.1 f = at_ := by
        cases hfc : (rm_F S j)[c]? with
        | none => have := n3 hfc; rw [← hnx] at this; cases this
        | some g =>
          by_cases hg : pq_fi S.2.1 g = at_
          · have := n1 g hfc hg; rw [← hnx] at this; cases this; exact ⟨rfl, hg⟩
          · have := n2 g hfc hg; rw [← hnx] at this; cases this
      obtain ⟨hfc, hfa⟩ := hf
      have hfF : f ∈ rm_F S j := List.mem_of_getElem? hfc
      have hfM := (rm_row_lt hw hkj hfF).1
      have hcl : c < (rm_F S j).length := (List.getElem?_eq_some_iff.mp hfc).1
      have hTl := rm_Tc_len (S := S) (j := j) hJ.1
      obtain ⟨j1, j2, j3, j4, j5, j6⟩ := id hJ
      have hdn := rm_down hw hkj hfc
      have hpf : ∀ p, some f = some p → p < 90 := fun p hp => by cases hp; omega
      have hdep : (rm_PA S.2.1 (some f)).length = (rm_PA S.2.1 at_).length + 1 := by
        show (pq_pa S.2.1 f).length = _
        rw [rm_pa hw hfM, hfa]
        simp
      have hgo : mp_W G E h1 0 0 (mp_Q G E 0 0 (fun v h' => v = none ∧ mp_fr rm_Q h h' ∧ rm_V h' S j) (fun _ _ => False)) 71 [.val (.ref (G.1 + 26)), .val (.int (nI j)), .val (.int (rm_i at_)), .val (.int (nI f))] [] := by
        refine mp_iload_n X 72 d_R_look_71 rfl rfl rfl ?_
        refine mp_istore_n X 73 (L' := [.val (.ref (G.1 + 26)), .val (.int (nI j)), .val (.int (nI f)), .val (.int (nI f))]) d_R_look_72 rfl rfl rfl rfl rfl ?_
        refine mp_aload_n X 74 d_R_look_73 rfl rfl rfl ?_
        refine mp_getf (v := .ref (G.1 + 39)) X 77 lk_R_48_R d_R_look_74 rfl (hK1.sz (by decide)) hK1.ob hK1.r_passed ?_
        refine mp_iload_n X 78 d_R_look_77 rfl rfl rfl ?_
        refine mp_iconst X 79 (v := nI 1) d_R_look_78 rfl (by decide) ?_
        refine mp_zast X 80 (f) d_R_look_79 rfl (hK1.sz (by decide)) hK1.k_passed rfl (by omega) (by decide) rfl ?_
        obtain ⟨h2, eh2⟩ : ∃ z, z = mp_set h1 39 f (.int (nI 1)) := ⟨_, rfl⟩
        rw [← eh2]
        have rh2 : ∀ a b, h2.2.1 a b = if a = 39 ∧ b = f then .int (nI 1) else h1.2.1 a b := by intro a b; rw [eh2]; rfl
        have hK2 : rm_K G h2 := by rw [eh2]; exact hK1.st (Or.inl (by decide))
        have hf2 : mp_fr rm_Q h h2 := by rw [eh2]; exact hf1.set (by unfold rm_Q; omega)
        refine mp_aload_n X 81 d_R_look_80 rfl rfl rfl ?_
        refine mp_getf (v := .ref (G.1 + 37)) X 84 lk_R_42_R d_R_look_81 rfl (hK2.sz (by decide)) hK2.ob hK2.r_place ?_
        refine mp_iload_n X 85 d_R_look_84 rfl rfl rfl ?_
        refine mp_aload_n X 86 d_R_look_85 rfl rfl rfl ?_
        refine mp_getf (v := .int (nI c)) X 89 lk_R_58_R d_R_look_86 rfl (hK2.sz (by decide)) hK2.ob (by rw [rh2, if_neg (by omega)]; exact j2) ?_
        refine mp_iast X 90 (f) d_R_look_89 rfl (hK2.sz (by decide)) hK2.k_place rfl (by omega) (by decide) ?_
        obtain ⟨h3, eh3⟩ : ∃ z, z = mp_set h2 37 f (.int (nI c)) := ⟨_, rfl⟩
        rw [← eh3]
        have rh3 : ∀ a b, h3.2.1 a b = if a = 37 ∧ b = f then .int (nI c) else h2.2.1 a b := by intro a b; rw [eh3]; rfl
        have hK3 : rm_K G h3 := by rw [eh3]; exact hK2.st (Or.inl (by decide))
        have hf3 : mp_fr rm_Q h h3 := by rw [eh3]; exact hf2.set (by unfold rm_Q; omega)
        refine mp_aload_n X 91 d_R_look_90 rfl rfl rfl ?_
        refine mp_getf (v := .ref (G.1 + 36)) X 94 lk_R_39_R d_R_look_91 rfl (hK3.sz (by decide)) hK3.ob hK3.r_row ?_
        refine mp_aload_n X 95 d_R_look_94 rfl rfl rfl ?_
        refine mp_getf (v := .int (nI c)) X 98 lk_R_58_R d_R_look_95 rfl (hK3.sz (by decide)) hK3.ob (by rw [rh3, if_neg (by omega), rh2, if_neg (by omega)]; exact j2) ?_
        refine mp_iload_n X 99 d_R_look_98 rfl rfl rfl ?_
        refine mp_iast X 100 (c) d_R_look_99 rfl (hK3.sz (by decide)) hK3.k_row rfl (by omega) (by decide) ?_
        obtain ⟨h4, eh4⟩ : ∃ z, z = mp_set h3 36 c (.int (nI f)) := ⟨_, rfl⟩
        rw [← eh4]
        have rh4 : ∀ a b, h4.2.1 a b = if a = 36 ∧ b = c then .int (nI f) else h3.2.1 a b := by intro a b; rw [eh4]; rfl
        have hK4 : rm_K G h4 := by rw [eh4]; exact hK3.st (Or.inl (by decide))
        have hf4 : mp_fr rm_Q h h4 := by rw [eh4]; exact hf3.set (by unfold rm_Q; omega)
        refine mp_aload_n X 101 d_R_look_100 rfl rfl rfl ?_
        refine mp_dup X 102 d_R_look_101 rfl rfl ?_
        refine mp_getf (v := .int (nI c)) X 105 lk_R_58_R d_R_look_102 rfl (hK4.sz (by decide)) hK4.ob (by rw [rh4, if_neg (by omega), rh3, if_neg (by omega), rh2, if_neg (by omega)]; exact j2) ?_
        refine mp_iconst X 106 (v := nI 1) d_R_look_105 rfl (by decide) ?_
        refine mp_iadd X 107 d_R_look_106 rfl ?_
        rw [nI_add]
        refine mp_putf X 110 ls_R_58_R d_R_look_107 rfl (Or.inl rfl) (hK4.sz (by decide)) hK4.ob rfl rfl ?_
        obtain ⟨h5, eh5⟩ : ∃ z, z = mp_set h4 26 11 (.int (nI (c + 1))) := ⟨_, rfl⟩
        rw [← eh5]
        have rh5 : ∀ a b, h5.2.1 a b = if a = 26 ∧ b = 11 then .int (nI (c + 1)) else h4.2.1 a b := by intro a b; rw [eh5]; rfl
        have hK5 : rm_K G h5 := by rw [eh5]; exact hK4.st (Or.inr (Or.inr (Or.inr (Or.inl rfl))))
        have hf5 : mp_fr rm_Q h h5 := by rw [eh5]; exact hf4.set (by unfold rm_Q; omega)
        have hS5 : rm_S h5 S := hS.fr (hf5.mono fun o i => rm_QP)
        have x14 : h5.2.1 26 14 = .int (nI (rm_Tc S j c).length) := by rw [rh5, if_neg (by omega), rh4, if_neg (by omega), rh3, if_neg (by omega), rh2, if_neg (by omega)]; exact j3
        obtain ⟨gb, gb1, hgb⟩ : ∃ gb : Nat, (gb = 1 ∧ pq_gn S.2.1 (S.2.2.1 j) (S.2.2.2 j) f = true ∨ gb = 0 ∧ pq_gn S.2.1 (S.2.2.1 j) (S.2.2.2 j) f = false) ∧ rm_b (pq_gn S.2.1 (S.2.2.1 j) (S.2.2.2 j) f) = nI gb := by
          cases hgn : pq_gn S.2.1 (S.2.2.1 j) (S.2.2.2 j) f with
          | true => exact ⟨1, Or.inl ⟨rfl, rfl⟩, rfl⟩
          | false => exact ⟨0, Or.inr ⟨rfl, rfl⟩, rfl⟩
        refine mp_aload_n X 111 d_R_look_110 rfl rfl rfl ?_
        refine mp_iload_n X 112 d_R_look_111 rfl rfl rfl ?_
        refine mp_iload_n X 113 d_R_look_112 rfl rfl rfl ?_
        refine mp_callE X mp_Ts_ok 116 (rest := []) (st2 := [.int (nI gb)]) (k_R_isGone (lt := f) _ hK5 hS5 hok hj (by omega)) Y_R_isGone in_R (mp_IV X (q := (nR_R, nT_R, 17)) d_R_look_113 Y_R_isGone ml_R_68 im_R_isGone se_R_isGone (by decide) rfl (by decide) (by show _ = some 2; decide) (hK5.sz (by decide)) hK5.ob) rfl (by decide) (by decide) (by decide) (by decide) rfl (by decide) (by rw [hgb]; rfl) ?_
        refine mp_Zne X 139 119 d_R_look_116 (by decide) rfl (by omega) (fun q1 => ?_) (fun q1 => ?_)
        · have hgn : pq_gn S.2.1 (S.2.2.1 j) (S.2.2.2 j) f = true := by rcases gb1 with ⟨a1, a2⟩ | ⟨a1, a2⟩; exact a2; omega
          have hJ5 : rm_J h5 S j (c + 1) := rm_J_gone hok hj hJ hfc hgn (fun a b => by rw [rh5, rh4, rh3, rh2])
          refine mp_aload_n X 140 d_R_look_139 rfl rfl rfl ?_
          refine mp_iload_n X 141 d_R_look_140 rfl rfl rfl ?_
          refine mp_iload_n X 142 d_R_look_141 rfl rfl rfl ?_
          refine mp_callE X mp_Ts_ok 145 (rest := []) (k_R_nextBehind (pa := some f) (ps := fun k => decide (k ∈ (rm_F S j).take (c + 1))) _ hK5 hS5 hok hj hpf hJ5.2.2.2.1) Y_R_nextBehind in_R (mp_IV X (q := (nR_R, nT_R, 17)) d_R_look_142 Y_R_nextBehind ml_R_64 im_R_nextBehind se_R_nextBehind (by decide) rfl (by decide) (by show _ = some 2; decide) (hK5.sz (by decide)) hK5.ob) rfl (by decide) (by decide) (by decide) (by decide) rfl (by decide) rfl ?_
          refine mp_istore_n X 146 (L' := [.val (.ref (G.1 + 26)), .val (.int (nI j)), .val (.int (nI f)), .val (.int (rm_i (pq_best (pq_id S.2.1) (rm_ch S j (some f) (fun k => decide (k ∈ (rm_F S j).take (c + 1)))) S.1)))]) d_R_look_145 rfl rfl rfl rfl rfl ?_
          refine mp_goto X 49 d_R_look_146 (by decide) ?_
          exact ih (2 * ((rm_F S j).length - (c + 1)) + (rm_PA S.2.1 (some f)).length) (by omega) h5 (c + 1) (some f) _ (Nat.le_refl _) hf5 hJ5 hdn rfl
        · have hgn : pq_gn S.2.1 (S.2.2.1 j) (S.2.2.2 j) f = false := by rcases gb1 with ⟨a1, a2⟩ | ⟨a1, a2⟩; omega; exact a2
          refine mp_aload_n X 120 d_R_look_119 rfl rfl rfl ?_
          refine mp_getf (v := .ref (G.1 + 38)) X 123 lk_R_45_R d_R_look_120 rfl (hK5.sz (by decide)) hK5.ob hK5.r_text ?_
          refine mp_aload_n X 124 d_R_look_123 rfl rfl rfl ?_
          refine mp_getf (v := .int (nI ((rm_Tc S j c).length))) X 127 lk_R_61_R d_R_look_124 rfl (hK5.sz (by decide)) hK5.ob x14 ?_
          refine mp_iload_n X 128 d_R_look_127 rfl rfl rfl ?_
          refine mp_iast X 129 ((rm_Tc S j c).length) d_R_look_128 rfl (hK5.sz (by decide)) hK5.k_text rfl (by omega) (by decide) ?_
          obtain ⟨h6, eh6⟩ : ∃ z, z = mp_set h5 38 (rm_Tc S j c).length (.int (nI f)) := ⟨_, rfl⟩
          rw [← eh6]
          have rh6 : ∀ a b, h6.2.1 a b = if a = 38 ∧ b = (rm_Tc S j c).length then .int (nI f) else h5.2.1 a b := by intro a b; rw [eh6]; rfl
          have hK6 : rm_K G h6 := by rw [eh6]; exact hK5.st (Or.inl (by decide))
          have hf6 : mp_fr rm_Q h h6 := by rw [eh6]; exact hf5.set (by unfold rm_Q; omega)
          refine mp_aload_n X 130 d_R_look_129 rfl rfl rfl ?_
          refine mp_dup X 131 d_R_look_130 rfl rfl ?_
          refine mp_getf (v := .int (nI ((rm_Tc S j c).length))) X 134 lk_R_61_R d_R_look_131 rfl (hK6.sz (by decide)) hK6.ob (by rw [rh6, if_neg (by omega)]; exact x14) ?_
          refine mp_iconst X 135 (v := nI 1) d_R_look_134 rfl (by decide) ?_
          refine mp_iadd X 136 d_R_look_135 rfl ?_
          rw [nI_add]
          refine mp_putf X 139 ls_R_61_R d_R_look_136 rfl (Or.inl rfl) (hK6.sz (by decide)) hK6.ob rfl rfl ?_
          obtain ⟨h7, eh7⟩ : ∃ z, z = mp_set h6 26 14 (.int (nI ((rm_Tc S j c).length + 1))) := ⟨_, rfl⟩
          rw [← eh7]
          have rh7 : ∀ a b, h7.2.1 a b = if a = 26 ∧ b = 14 then .int (nI ((rm_Tc S j c).length + 1)) else h6.2.1 a b := by intro a b; rw [eh7]; rfl
          have hK7 : rm_K G h7 := by rw [eh7]; exact hK6.st (Or.inr (Or.inr (Or.inr (Or.inr rfl))))
          have hf7 : mp_fr rm_Q h h7 := by rw [eh7]; exact hf6.set (by unfold rm_Q; omega)
          have hS7 : rm_S h7 S := hS.fr (hf7.mono fun o i => rm_QP)
          have hJ7 : rm_J h7 S j (c + 1) := rm_J_shown hok hj hJ hfc hgn (fun a b => by rw [rh7, rh6, rh5, rh4, rh3, rh2])
          refine mp_aload_n X 140 d_R_look_139 rfl rfl rfl ?_
          refine mp_iload_n X 141 d_R_look_140 rfl rfl rfl ?_
          refine mp_iload_n X 142 d_R_look_141 rfl rfl rfl ?_
          refine mp_callE X mp_Ts_ok 145 (rest := []) (k_R_nextBehind (pa := some f) (ps := fun k => decide (k ∈ (rm_F S j).take (c + 1))) _ hK7 hS7 hok hj hpf hJ7.2.2.2.1) Y_R_nextBehind in_R (mp_IV X (q := (nR_R, nT_R, 17)) d_R_look_142 Y_R_nextBehind ml_R_64 im_R_nextBehind se_R_nextBehind (by decide) rfl (by decide) (by show _ = some 2; decide) (hK7.sz (by decide)) hK7.ob) rfl (by decide) (by decide) (by decide) (by decide) rfl (by decide) rfl ?_
          refine mp_istore_n X 146 (L' := [.val (.ref (G.1 + 26)), .val (.int (nI j)), .val (.int (nI f)), .val (.int (rm_i (pq_best (pq_id S.2.1) (rm_ch S j (some f) (fun k => decide (k ∈ (rm_F S j).take (c + 1)))) S.1)))]) d_R_look_145 rfl rfl rfl rfl rfl ?_
          refine mp_goto X 49 d_R_look_146 (by decide) ?_
          exact ih (2 * ((rm_F S j).length - (c + 1)) + (rm_PA S.2.1 (some f)).length) (by omega) h7 (c + 1) (some f) _ (Nat.le_refl _) hf7 hJ7 hdn rfl
      cases at_ with
      | none =>
        refine mp_eq rfl (L2 := [.val (.ref (G.1 + 26)), .val (.int (nI j)), .val (.int (-1)), .val (.int (nI f))]) rfl rfl ?_
        refine mp_iload_n X 50 d_R_look_49 rfl rfl rfl ?_
        refine mp_if_ge X 57 53 d_R_look_50 (by decide) rfl (fun q1 => ?_) (fun q1 => ?_)
        · exact absurd q1 (by decide)
        · refine mp_iload_n X 54 d_R_look_53 rfl rfl rfl ?_
          refine mp_Zlt X 149 57 d_R_look_54 (by decide) rfl (by omega) (fun q2 => ?_) (fun q2 => ?_)
          · exact q2.elim
          · refine mp_iload_n X 58 d_R_look_57 rfl rfl rfl ?_
            refine mp_Zge X 71 61 d_R_look_58 (by decide) rfl (by omega) (fun q3 => ?_) (fun q3 => ?_)
            · exact hgo
            · exact q3.elim
      | some a =>
        have haM := (rm_row_lt hw hkj (List.mem_of_mem_take (hcd.1 a rfl))).1
        refine mp_eq rfl (L2 := [.val (.ref (G.1 + 26)), .val (.int (nI j)), .val (.int (nI a)), .val (.int (nI f))]) rfl rfl ?_
        refine mp_iload_n X 50 d_R_look_49 rfl rfl rfl ?_
        refine mp_Zge X 57 53 d_R_look_50 (by decide) rfl (by omega) (fun q1 => ?_) (fun q1 => ?_)
        · refine mp_iload_n X 58 d_R_look_57 rfl rfl rfl ?_
          refine mp_Zge X 71 61 d_R_look_58 (by decide) rfl (by omega) (fun q2 => ?_) (fun q2 => ?_)
          · exact hgo
          · exact q2.elim
        · exact q1.elim
  have hfirst : ∀ (n k : Nat) (h1 : mp_H), k + n = S.1 → mp_fr rm_Q h h1 → (∀ i, i < k → h1.2.1 39 i = .int (nI 0)) → mp_W G E h1 0 0 (mp_Q G E 0 0 (fun v h' => v = none ∧ mp_fr rm_Q h h' ∧ rm_V h' S j) (fun _ _ => False)) 2 [.val (.ref (G.1 + 26)), .val (.int (nI j)), .val (.int (nI k)), .unset] [] := by
    intro n
    induction n with
    | zero =>
      intro k h1 hkn hf1 hz
      have hK1 : rm_K G h1 := hK.fr rm_Q (by intro i a b c d; unfold rm_Q; omega) hf1
      have hS1 : rm_S h1 S := hS.fr (hf1.mono fun o i => rm_QP)
      have s1 := hS1.1
      refine mp_iload_n X 3 d_R_look_2 rfl rfl rfl ?_
      refine mp_aload_n X 4 d_R_look_3 rfl rfl rfl ?_
      refine mp_getf (v := .int (nI (S.1))) X 7 lk_R_55_R d_R_look_4 rfl (hK1.sz (by decide)) hK1.ob s1 ?_
      refine mp_Nge X 30 10 d_R_look_7 (by decide) rfl (by omega) (by omega) (fun q1 => ?_) (fun q1 => ?_)
      · refine mp_aload_n X 31 d_R_look_30 rfl rfl rfl ?_
        refine mp_iconst X 32 (v := nI 0) d_R_look_31 rfl (by decide) ?_
        refine mp_putf X 35 ls_R_58_R d_R_look_32 rfl (Or.inl rfl) (hK1.sz (by decide)) hK1.ob rfl rfl ?_
        obtain ⟨h2, eh2⟩ : ∃ z, z = mp_set h1 26 11 (.int (nI 0)) := ⟨_, rfl⟩
        rw [← eh2]
        have rh2 : ∀ a b, h2.2.1 a b = if a = 26 ∧ b = 11 then .int (nI 0) else h1.2.1 a b := by intro a b; rw [eh2]; rfl
        have hK2 : rm_K G h2 := by rw [eh2]; exact hK1.st (Or.inr (Or.inr (Or.inr (Or.inl rfl))))
        have hf2 : mp_fr rm_Q h h2 := by rw [eh2]; exact hf1.set (by unfold rm_Q; omega)
        refine mp_aload_n X 36 d_R_look_35 rfl rfl rfl ?_
        refine mp_iconst X 37 (v := nI 0) d_R_look_36 rfl (by decide) ?_
        refine mp_putf X 40 ls_R_61_R d_R_look_37 rfl (Or.inl rfl) (hK2.sz (by decide)) hK2.ob rfl rfl ?_
        obtain ⟨h3, eh3⟩ : ∃ z, z = mp_set h2 26 14 (.int (nI 0)) := ⟨_, rfl⟩
        rw [← eh3]
        have rh3 : ∀ a b, h3.2.1 a b = if a = 26 ∧ b = 14 then .int (nI 0) else h2.2.1 a b := by intro a b; rw [eh3]; rfl
        have hK3 : rm_K G h3 := by rw [eh3]; exact hK2.st (Or.inr (Or.inr (Or.inr (Or.inr rfl))))
        have hf3 : mp_fr rm_Q h h3 := by rw [eh3]; exact hf2.set (by unfold rm_Q; omega)
        have hS3 : rm_S h3 S := hS.fr (hf3.mono fun o i => rm_QP)
        have hJ3 : rm_J h3 S j 0 := by
          refine ⟨Nat.zero_le _, by rw [rh3, if_neg (by omega), rh2, if_pos ⟨rfl, rfl⟩], by rw [rh3, if_pos ⟨rfl, rfl⟩]; rfl, fun k hk => ?_, fun i x hi => by omega, fun i x hx => by simp [rm_Tc] at hx⟩
          rw [rh3, if_neg (by omega), rh2, if_neg (by omega), hz k (by omega)]
          simp [rm_b]
        refine mp_iconst X 41 (v := -1) d_R_look_40 rfl (by decide) ?_
        refine mp_istore_n X 42 (L' := [.val (.ref (G.1 + 26)), .val (.int (nI j)), .val (.int (-1)), .unset]) d_R_look_41 rfl rfl rfl rfl rfl ?_
        refine mp_aload_n X 43 d_R_look_42 rfl rfl rfl ?_
        refine mp_iload_n X 44 d_R_look_43 rfl rfl rfl ?_
        refine mp_iload_n X 45 d_R_look_44 rfl rfl rfl ?_
        refine mp_callE X mp_Ts_ok 48 (rest := []) (k_R_nextBehind (pa := none) (ps := fun k => decide (k ∈ (rm_F S j).take 0)) _ hK3 hS3 hok hj (fun p hp => by cases hp) hJ3.2.2.2.1) Y_R_nextBehind in_R (mp_IV X (q := (nR_R, nT_R, 17)) d_R_look_45 Y_R_nextBehind ml_R_64 im_R_nextBehind se_R_nextBehind (by decide) rfl (by decide) (by show _ = some 2; decide) (hK3.sz (by decide)) hK3.ob) rfl (by decide) (by decide) (by decide) (by decide) rfl (by decide) rfl ?_
        refine mp_istore_n X 49 (L' := [.val (.ref (G.1 + 26)), .val (.int (nI j)), .val (.int (-1)), .val (.int (rm_i (pq_best (pq_id S.2.1) (rm_ch S j (none) (fun k => decide (k ∈ (rm_F S j).take 0))) S.1)))]) d_R_look_48 rfl rfl rfl rfl rfl ?_
        refine hmain _ h3 0 none _ (Nat.le_refl _) hf3 hJ3 ⟨fun a ha => (by cases ha), fun f hf => ?_⟩ rfl
        refine ⟨[], ?_⟩
        have hfF : f ∈ rm_F S j := List.mem_of_getElem? hf
        obtain ⟨hfM, -, -, hfp⟩ := rm_row_lt hw hkj hfF
        exact rm_first hw hkj hf
      · omega
    | succ n ih =>
      intro k h1 hkn hf1 hz
      have hK1 : rm_K G h1 := hK.fr rm_Q (by intro i a b c d; unfold rm_Q; omega) hf1
      have hS1 : rm_S h1 S := hS.fr (hf1.mono fun o i => rm_QP)
      have s1 := hS1.1
      refine mp_iload_n X 3 d_R_look_2 rfl rfl rfl ?_
      refine mp_aload_n X 4 d_R_look_3 rfl rfl rfl ?_
      refine mp_getf (v := .int (nI (S.1))) X 7 lk_R_55_R d_R_look_4 rfl (hK1.sz (by decide)) hK1.ob s1 ?_
      refine mp_Nge X 30 10 d_R_look_7 (by decide) rfl (by omega) (by omega) (fun q1 => ?_) (fun q1 => ?_)
      · omega
      · refine mp_aload_n X 11 d_R_look_10 rfl rfl rfl ?_
        refine mp_getf (v := .ref (G.1 + 39)) X 14 lk_R_48_R d_R_look_11 rfl (hK1.sz (by decide)) hK1.ob hK1.r_passed ?_
        refine mp_iload_n X 15 d_R_look_14 rfl rfl rfl ?_
        refine mp_iconst X 16 (v := nI 0) d_R_look_15 rfl (by decide) ?_
        refine mp_zast X 17 (k) d_R_look_16 rfl (hK1.sz (by decide)) hK1.k_passed rfl (by omega) (by decide) rfl ?_
        obtain ⟨h2, eh2⟩ : ∃ z, z = mp_set h1 39 k (.int (nI 0)) := ⟨_, rfl⟩
        rw [← eh2]
        have rh2 : ∀ a b, h2.2.1 a b = if a = 39 ∧ b = k then .int (nI 0) else h1.2.1 a b := by intro a b; rw [eh2]; rfl
        have hK2 : rm_K G h2 := by rw [eh2]; exact hK1.st (Or.inl (by decide))
        have hf2 : mp_fr rm_Q h h2 := by rw [eh2]; exact hf1.set (by unfold rm_Q; omega)
        refine mp_aload_n X 18 d_R_look_17 rfl rfl rfl ?_
        refine mp_getf (v := .ref (G.1 + 37)) X 21 lk_R_42_R d_R_look_18 rfl (hK2.sz (by decide)) hK2.ob hK2.r_place ?_
        refine mp_iload_n X 22 d_R_look_21 rfl rfl rfl ?_
        refine mp_iconst X 23 (v := -1) d_R_look_22 rfl (by decide) ?_
        refine mp_iast X 24 (k) d_R_look_23 rfl (hK2.sz (by decide)) hK2.k_place rfl (by omega) (by decide) ?_
        obtain ⟨h3, eh3⟩ : ∃ z, z = mp_set h2 37 k (.int (-1)) := ⟨_, rfl⟩
        rw [← eh3]
        have rh3 : ∀ a b, h3.2.1 a b = if a = 37 ∧ b = k then .int (-1) else h2.2.1 a b := by intro a b; rw [eh3]; rfl
        have hK3 : rm_K G h3 := by rw [eh3]; exact hK2.st (Or.inl (by decide))
        have hf3 : mp_fr rm_Q h h3 := by rw [eh3]; exact hf2.set (by unfold rm_Q; omega)
        refine mp_iinc X 27 (L' := [.val (.ref (G.1 + 26)), .val (.int (nI j)), .val (.int (nI (k + 1))), .unset]) (v := nI (k + 1)) d_R_look_24 rfl rfl (nI_1 _) rfl ?_
        refine mp_goto X 2 d_R_look_27 (by decide) ?_
        refine ih (k + 1) h3 (by omega) hf3 (fun i hi => ?_)
        rw [rh3, if_neg (by omega), rh2]
        by_cases e : i = k
        · rw [if_pos ⟨rfl, e⟩]
        · rw [if_neg (by omega)]; exact hz i (by omega)
  refine mp_eq rfl (L2 := [.val (.ref (G.1 + 26)), .val (.int (nI j)), .unset, .unset]) rfl rfl ?_
  refine mp_iconst X 1 (v := nI 0) d_R_look_0 rfl (by decide) ?_
  refine mp_istore_n X 2 (L' := [.val (.ref (G.1 + 26)), .val (.int (nI j)), .val (.int (nI 0)), .unset]) d_R_look_1 rfl rfl rfl rfl rfl ?_
  exact hfirst S.1 0 h (by omega) mp_fr.rf (fun i hi => by omega)
end
section
/-! Lemmas for the reference's other methods. -/
/-- the greatest time, by numbers -/
def rm_gm (O : pq_O) (kn : Nat → Nat) (c : Nat) : Nat → Nat
  | 0 => 0
  | n + 1 => if pq_kw kn c n = true ∧ rm_gm O kn c n < pq_tm O n then pq_tm O n else rm_gm O kn c n
theorem rm_gm_ge (O : pq_O) (kn : Nat → Nat) (c : Nat) : ∀ n k, k < n → pq_kw kn c k = true → pq_tm O k ≤ rm_gm O kn c n
  | 0, _, h, _ => by omega
  | n + 1, k, h, hk => by
    unfold rm_gm
    by_cases e : k = n
    · subst e
      split
      · exact Nat.le_refl _
      · rename_i hn
        have : ¬ rm_gm O kn c k < pq_tm O k := fun q => hn ⟨hk, q⟩
        omega
    · have := rm_gm_ge O kn c n k (by omega) hk
      split <;> omega
theorem rm_gm_le (O : pq_O) (kn : Nat → Nat) (c : Nat) : ∀ n, rm_gm O kn c n ≤ pq_mx O kn c
  | 0 => Nat.zero_le _
  | n + 1 => by
    unfold rm_gm
    split
    · rename_i h
      obtain ⟨i, hi, e⟩ := (pq_kw_iff kn n c).mp h.1
      rw [← e]
      exact pq_mx_ge O kn c i hi
    · exact rm_gm_le O kn c n
theorem rm_gm_eq {M : Nat} {O : pq_O} {kn : Nat → Nat} {c : Nat} (hk : ∀ i, i < c → kn i < M) : rm_gm O kn c M = pq_mx O kn c := by
  refine Nat.le_antisymm (rm_gm_le O kn c M) (pq_mx_le c fun i hi => ?_)
  exact rm_gm_ge O kn c M (kn i) (hk i hi) ((pq_kw_iff kn _ c).mpr ⟨i, hi, rfl⟩)
/-- a format, kind by kind -/
def rm_sm (O : pq_O) (r : List Nat) (l : Nat) (ms : List Nat) : Nat → Nat
  | 0 => 0
  | k + 1 => rm_sm O r l ms k + (if pq_hs O r l k ms then 2 ^ k else 0)
theorem rm_sm_4 (O : pq_O) (r : List Nat) (l : Nat) (ms : List Nat) : rm_sm O r l ms 4 = pq_fm O r l ms := by
  unfold pq_fm
  simp only [rm_sm]
  cases pq_hs O r l 0 ms <;> cases pq_hs O r l 1 ms <;> cases pq_hs O r l 2 ms <;> cases pq_hs O r l 3 ms <;> rfl
theorem rm_sm_lt (O : pq_O) (r : List Nat) (l : Nat) (ms : List Nat) : ∀ k, rm_sm O r l ms k < 2 ^ k
  | 0 => Nat.lt_succ_self 0
  | k + 1 => by
    have := rm_sm_lt O r l ms k
    unfold rm_sm
    have e : 2 ^ (k + 1) = 2 ^ k + 2 ^ k := by rw [Nat.pow_succ]; omega
    split <;> omega
theorem rm_shl : ∀ k, k < 4 → nI 1 <<< (nI k &&& 31) = nI (2 ^ k) := by decide
/-- the marking that a kind's format goes by -/
def rm_cm (S : pq_S) (j lt kind : Nat) (k : Nat) : Bool := (pq_kw (S.2.2.1 j) (S.2.2.2 j) k && pq_so S.2.1 k == 2) && decide (pq_wh S.2.1 k / 2 = kind) && pq_cv S.2.1 (rm_F S j) k lt
theorem rm_idx {F : List Nat} {x : Nat} (h : x ∈ F) : F[F.idxOf x]? = some x := by
  have hl : F.idxOf x < F.length := List.idxOf_lt_length_of_mem h
  rw [List.getElem?_eq_getElem hl, List.getElem_idxOf hl]
theorem rm_V.pl {h : mp_H} {S : pq_S} {j x : Nat} (hV : rm_V h S j) (hx : x ∈ rm_F S j) : h.2.1 37 x = .int (nI ((rm_F S j).idxOf x)) := hV.2.2 _ _ (rm_idx hx)
theorem rm_F_len {S : pq_S} {j : Nat} (hok : pq_ok S) (hj : j < 3) : (rm_F S j).length ≤ S.1 := by
  show (pq_row S.2.1 (S.2.2.1 j) (S.2.2.2 j)).length ≤ _
  have := pq_row_len S.2.1 (S.2.2.1 j) (S.2.2.2 j)
  have := pq_kn_le (hok.2.2.1 j hj)
  omega
theorem rm_F_idx {S : pq_S} {j x : Nat} (hok : pq_ok S) (hj : j < 3) (hx : x ∈ rm_F S j) : (rm_F S j).idxOf x < 90 := by
  have := List.idxOf_lt_length_of_mem hx
  have := rm_F_len hok hj
  have := hok.1
  omega
/-- what a marking that is known speaks of is in the row -/
theorem rm_known_in {S : pq_S} {j k p : Nat} (hok : pq_ok S) (hj : j < 3) (hk : pq_kw (S.2.2.1 j) (S.2.2.2 j) k = true) (hp : pq_fi S.2.1 k = some p ∨ pq_en S.2.1 k = some p) : p ∈ rm_F S j := by
  obtain ⟨hm, -⟩ := pq_row_ok hok.2.1 _ (hok.2.2.1 j hj)
  obtain ⟨i, hi, e⟩ := (pq_kw_iff _ k _).mp hk
  have hkM : k < S.1 := by rw [← e]; exact (hok.2.2.1 j hj).1 i hi
  obtain ⟨q, hq, hqp⟩ := (hok.2.2.1 j hj).2.2 i hi p (by rw [e]; exact hp)
  refine (hm p).mpr ⟨?_, q, by omega, hqp⟩
  rcases hp with h | h
  · exact (hok.2.1.1 k hkM p h).2.1
  · exact (hok.2.1.2.1 k hkM p h).2
/-- the reference learns -/
theorem rm_S_lrn {h h' : mp_H} {S : pq_S} {j k : Nat} (hj : j < 3) (hk : k < 90) (hc : S.2.2.2 j < 90) (hc3 : ∀ a, a < 3 → S.2.2.2 a ≤ 90) (hS : rm_S h S)
    (hh : ∀ a b, h'.2.1 a b = if a = 34 ∧ b = 90 * j + k then .int (nI 1) else if a = 35 ∧ b = j then .int (nI (S.2.2.2 j + 1)) else if a = 33 ∧ b = 90 * j + S.2.2.2 j then .int (nI k) else h.2.1 a b) : rm_S h' (pq_lrn S j k) := by
  obtain ⟨s1, s2, s3⟩ := hS
  have ec : ∀ a, (pq_lrn S j k).2.2.2 a = if a = j then S.2.2.2 j + 1 else S.2.2.2 a := fun a => rfl
  have ek : ∀ a i, (pq_lrn S j k).2.2.1 a i = if a = j ∧ i = S.2.2.2 j then k else S.2.2.1 a i := fun a i => rfl
  have e0 : ∀ a b, a ≠ 33 → a ≠ 34 → a ≠ 35 → h'.2.1 a b = h.2.1 a b := by
    intro a b h1 h2 h3
    rw [hh, if_neg (by omega), if_neg (by omega), if_neg (by omega)]
  refine ⟨by rw [e0 _ _ (by decide) (by decide) (by decide)]; exact s1, fun q hq => ?_, fun a ha => ?_⟩
  · rw [e0 27 q (by decide) (by decide) (by decide), e0 28 q (by decide) (by decide) (by decide), e0 29 q (by decide) (by decide) (by decide), e0 30 q (by decide) (by decide) (by decide), e0 31 q (by decide) (by decide) (by decide), e0 32 q (by decide) (by decide) (by decide)]
    exact s2 q hq
  · obtain ⟨a1, a2, a3⟩ := s3 a ha
    refine ⟨?_, fun i hi => ?_, fun q hq => ?_⟩
    · rw [hh, if_neg (by omega), ec]
      by_cases e : a = j
      · rw [if_pos ⟨rfl, e⟩, if_pos e]
      · rw [if_neg (by omega), if_neg (by omega), if_neg e]; exact a1
    · rw [hh, if_neg (by omega), if_neg (by omega), ek]
      rw [ec] at hi
      by_cases e : a = j
      · subst e
        rw [if_pos rfl] at hi
        by_cases e2 : i = S.2.2.2 a
        · rw [if_pos ⟨rfl, by omega⟩, if_pos ⟨rfl, e2⟩]
        · rw [if_neg (by omega), if_neg (by omega)]; exact a2 i (by omega)
      · rw [if_neg e] at hi
        have h9 := hc3 a ha
        rw [if_neg (show ¬ (33 = 33 ∧ 90 * a + i = 90 * j + S.2.2.2 j) by omega), if_neg (fun z => e z.1)]
        exact a2 i hi
    · rw [hh, if_neg (show ¬ (34 = 35 ∧ 90 * a + q = j) by omega), if_neg (show ¬ (34 = 33 ∧ 90 * a + q = 90 * j + S.2.2.2 j) by omega)]
      by_cases e : a = j
      · subst e
        have e1 : (pq_lrn S a k).2.2.2 a = S.2.2.2 a + 1 := by rw [ec, if_pos rfl]
        rw [e1]
        show _ = Value.int (rm_b (pq_kw ((pq_lrn S a k).2.2.1 a) (S.2.2.2 a) q || (pq_lrn S a k).2.2.1 a (S.2.2.2 a) == q))
        rw [ek, if_pos (show a = a ∧ S.2.2.2 a = S.2.2.2 a from ⟨rfl, rfl⟩), pq_kw_ext (kn := S.2.2.1 a) q (S.2.2.2 a) (fun i hi => by rw [ek, if_neg (by omega)])]
        by_cases e2 : q = k
        · rw [if_pos ⟨rfl, by omega⟩, e2]
          simp [rm_b]
        · rw [if_neg (by omega), a3 q hq]
          have : (k == q) = false := by simpa using fun z : k = q => e2 z.symm
          rw [this, Bool.or_false]
      · rw [if_neg (by omega), ec, if_neg e, a3 q hq]
        congr 2
        exact (pq_kw_ext q _ (fun i hi => by rw [ek, if_neg (fun z => e z.1)])).symm
/-- an operation is written down -/
theorem rm_S_add {h h' : mp_H} {S : pq_S} {o : Nat × Nat × Nat × Option Nat × Option Nat × Nat × Int32} (hS : rm_S h S) (hle : o.1 = 0 → h.2.1 32 S.1 = .int o.2.2.2.2.2.2)
    (hh : ∀ a b, h'.2.1 a b = if a = 26 ∧ b = 1 then .int (nI (S.1 + 1)) else if a = 31 ∧ b = S.1 then .int (nI o.2.2.2.2.2.1) else if a = 30 ∧ b = S.1 then .int (rm_i o.2.2.2.2.1) else if a = 29 ∧ b = S.1 then .int (rm_i o.2.2.2.1) else if a = 28 ∧ b = S.1 then .int (nI (4 * o.2.1 + o.2.2.1)) else if a = 27 ∧ b = S.1 then .int (nI o.1) else h.2.1 a b) : rm_S h' (pq_add S o) := by
  obtain ⟨s1, s2, s3⟩ := hS
  have eo : ∀ k, k ≠ S.1 → (pq_add S o).2.1 k = S.2.1 k := fun k hk => by show (if k = S.1 then o else S.2.1 k) = _; rw [if_neg hk]
  have en : (pq_add S o).2.1 S.1 = o := by show (if S.1 = S.1 then o else S.2.1 S.1) = _; rw [if_pos rfl]
  have e0 : ∀ a b, 32 ≤ a → h'.2.1 a b = h.2.1 a b := by
    intro a b h1
    rw [hh, if_neg (by omega), if_neg (by omega), if_neg (by omega), if_neg (by omega), if_neg (by omega), if_neg (by omega)]
  refine ⟨by rw [hh, if_pos ⟨rfl, rfl⟩]; rfl, fun k hk => ?_, fun j hj => ?_⟩
  · have hk' : k < S.1 + 1 := hk
    by_cases e : k = S.1
    · subst e
      unfold pq_so pq_id pq_tm pq_pg pq_fi pq_en pq_wh pq_le
      rw [en]
      refine ⟨?_, ?_, ?_, ?_, ?_, fun hz => by rw [e0 _ _ (by decide)]; exact hle hz⟩
      · rw [hh, if_neg (by omega), if_neg (by omega), if_neg (by omega), if_neg (by omega), if_neg (by omega), if_pos ⟨rfl, rfl⟩]
      · rw [hh, if_neg (by omega), if_neg (by omega), if_neg (by omega), if_neg (by omega), if_pos ⟨rfl, rfl⟩]
      · rw [hh, if_neg (by omega), if_neg (by omega), if_neg (by omega), if_pos ⟨rfl, rfl⟩]
      · rw [hh, if_neg (by omega), if_neg (by omega), if_pos ⟨rfl, rfl⟩]
      · rw [hh, if_neg (by omega), if_pos ⟨rfl, rfl⟩]
    · have e1 : ∀ a, 27 ≤ a → h'.2.1 a k = h.2.1 a k := by
        intro a ha
        rw [hh, if_neg (by omega), if_neg (fun z => e z.2), if_neg (fun z => e z.2), if_neg (fun z => e z.2), if_neg (fun z => e z.2), if_neg (fun z => e z.2)]
      have := s2 k (by omega)
      unfold pq_so pq_id pq_tm pq_pg pq_fi pq_en pq_wh pq_le at this ⊢
      rw [eo k e, e1 27 (by omega), e1 28 (by omega), e1 29 (by omega), e1 30 (by omega), e1 31 (by omega), e1 32 (by omega)]
      exact this
  · obtain ⟨a, b, c⟩ := s3 j hj
    exact ⟨by rw [e0 _ _ (by omega)]; exact a, fun i hi => by rw [e0 _ _ (by omega)]; exact b i hi, fun k hk => by rw [e0 _ _ (by omega)]; exact c k hk⟩
end
section
/-! The reference: covers, formatOf, greatest, learn, make (rows laid by program). -/
set_option maxRecDepth 100000 in
set_option maxHeartbeats 4000000 in
theorem k_R_covers (l : Launch) {G : mp_G} {h : mp_H} {S : pq_S} {j mm lt : Nat} (hK : rm_K G h) (hS : rm_S h S) (hV : rm_V h S j) (hok : pq_ok S) (hj : j < 3) (hmm : mm < S.1) (hkw : pq_kw (S.2.2.1 j) (S.2.2.2 j) mm = true) (hso : pq_so S.2.1 mm = 2) (hlt : lt ∈ rm_F S j) :
    mp_M G mp_Ts l y_R_covers 0 0 0 [.ref (G.1 + 26), .int (nI mm), .int (nI lt)] h (fun v h' => h' = h ∧ v = some (.int (rm_b (pq_cv S.2.1 (rm_F S j) mm lt)))) (fun _ _ => False) := by
  have hM : S.1 ≤ 90 := hok.1
  have hw := hok.2.1
  obtain ⟨t1, t2, t3, t4, t5, t6⟩ := hS.2.1 mm hmm
  have hwh := (hw.2.2.2.1 mm hmm).2.2.2.2
  obtain ⟨f, hf⟩ : ∃ p, pq_fi S.2.1 mm = some p := by rcases hw.2.2.2.2 mm hmm with h0 | h0; omega; exact h0
  have hfF := rm_known_in hok hj hkw (Or.inl hf)
  have hfM := (rm_row_lt hw (hok.2.2.1 j hj) hfF).1
  have hltM := (rm_row_lt hw (hok.2.2.1 j hj) hlt).1
  have pl := hV.pl hlt
  have pf := hV.pl hfF
  have bl := rm_F_idx hok hj hlt
  have bf := rm_F_idx hok hj hfF
  rw [hf] at t3
  refine mp_enter (by decide) Y_R_covers fun E hl X => ?_
  refine mp_eq rfl (L2 := [.val (.ref (G.1 + 26)), .val (.int (nI mm)), .val (.int (nI lt)), .unset, .unset]) rfl rfl ?_
  cases hen : pq_en S.2.1 mm with
  | none =>
    rw [hen] at t4
    refine mp_aload_n X 1 d_R_covers_0 rfl rfl rfl ?_
    refine mp_getf (v := .ref (G.1 + 37)) X 4 lk_R_42_R d_R_covers_1 rfl (hK.sz (by decide)) hK.ob hK.r_place ?_
    refine mp_iload_n X 5 d_R_covers_4 rfl rfl rfl ?_
    refine mp_iald (v := .int (nI (((rm_F S j).idxOf lt)))) X 6 (lt) d_R_covers_5 rfl (hK.sz (by decide)) hK.k_place rfl (by omega) (by decide) pl ?_
    refine mp_istore_n X 7 (L' := [.val (.ref (G.1 + 26)), .val (.int (nI mm)), .val (.int (nI lt)), .val (.int (nI (((rm_F S j).idxOf lt)))), .unset]) d_R_covers_6 rfl rfl rfl rfl rfl ?_
    refine mp_iload_n X 8 d_R_covers_7 rfl rfl rfl ?_
    refine mp_aload_n X 9 d_R_covers_8 rfl rfl rfl ?_
    refine mp_getf (v := .ref (G.1 + 37)) X 12 lk_R_42_R d_R_covers_9 rfl (hK.sz (by decide)) hK.ob hK.r_place ?_
    refine mp_aload_n X 13 d_R_covers_12 rfl rfl rfl ?_
    refine mp_getf (v := .ref (G.1 + 29)) X 16 lk_R_16_R d_R_covers_13 rfl (hK.sz (by decide)) hK.ob hK.r_first ?_
    refine mp_iload_n X 17 d_R_covers_16 rfl rfl rfl ?_
    refine mp_iald (v := .int (nI f)) X 18 (mm) d_R_covers_17 rfl (hK.sz (by decide)) hK.k_first rfl (by omega) (by decide) t3 ?_
    refine mp_iald (v := .int (nI (((rm_F S j).idxOf f)))) X 19 (f) d_R_covers_18 rfl (hK.sz (by decide)) hK.k_place rfl (by omega) (by decide) pf ?_
    refine mp_Nge X 24 22 d_R_covers_19 (by decide) rfl (by omega) (by omega) (fun q1 => ?_) (fun q1 => ?_)
    · refine mp_aload_n X 25 d_R_covers_24 rfl rfl rfl ?_
      refine mp_getf (v := .ref (G.1 + 30)) X 28 lk_R_19_R d_R_covers_25 rfl (hK.sz (by decide)) hK.ob hK.r_end ?_
      refine mp_iload_n X 29 d_R_covers_28 rfl rfl rfl ?_
      refine mp_iald (v := .int (-1)) X 30 (mm) d_R_covers_29 rfl (hK.sz (by decide)) hK.k_end rfl (by omega) (by decide) t4 ?_
      refine mp_if_ge X 35 33 d_R_covers_30 (by decide) rfl (fun q2 => ?_) (fun q2 => ?_)
      · exact absurd q2 (by decide)
      · refine mp_iconst X 34 (v := nI 1) d_R_covers_33 rfl (by decide) ?_
        exact mp_iret X d_R_covers_34 rfl rfl (by decide) (by decide) ⟨rfl, congrArg (fun b => some (Value.int (rm_b b))) (show true = _ by unfold pq_cv; rw [hf, hen]; simp; omega)⟩
    · refine mp_iconst X 23 (v := nI 0) d_R_covers_22 rfl (by decide) ?_
      exact mp_iret X d_R_covers_23 rfl rfl (by decide) (by decide) ⟨rfl, congrArg (fun b => some (Value.int (rm_b b))) (show false = _ by unfold pq_cv; rw [hf, hen]; simp; omega)⟩
  | some e =>
    rw [hen] at t4
    have heF := rm_known_in hok hj hkw (Or.inr hen)
    have heM := (rm_row_lt hw (hok.2.2.1 j hj) heF).1
    have pe := hV.pl heF
    have be := rm_F_idx hok hj heF
    refine mp_aload_n X 1 d_R_covers_0 rfl rfl rfl ?_
    refine mp_getf (v := .ref (G.1 + 37)) X 4 lk_R_42_R d_R_covers_1 rfl (hK.sz (by decide)) hK.ob hK.r_place ?_
    refine mp_iload_n X 5 d_R_covers_4 rfl rfl rfl ?_
    refine mp_iald (v := .int (nI (((rm_F S j).idxOf lt)))) X 6 (lt) d_R_covers_5 rfl (hK.sz (by decide)) hK.k_place rfl (by omega) (by decide) pl ?_
    refine mp_istore_n X 7 (L' := [.val (.ref (G.1 + 26)), .val (.int (nI mm)), .val (.int (nI lt)), .val (.int (nI (((rm_F S j).idxOf lt)))), .unset]) d_R_covers_6 rfl rfl rfl rfl rfl ?_
    refine mp_iload_n X 8 d_R_covers_7 rfl rfl rfl ?_
    refine mp_aload_n X 9 d_R_covers_8 rfl rfl rfl ?_
    refine mp_getf (v := .ref (G.1 + 37)) X 12 lk_R_42_R d_R_covers_9 rfl (hK.sz (by decide)) hK.ob hK.r_place ?_
    refine mp_aload_n X 13 d_R_covers_12 rfl rfl rfl ?_
    refine mp_getf (v := .ref (G.1 + 29)) X 16 lk_R_16_R d_R_covers_13 rfl (hK.sz (by decide)) hK.ob hK.r_first ?_
    refine mp_iload_n X 17 d_R_covers_16 rfl rfl rfl ?_
    refine mp_iald (v := .int (nI f)) X 18 (mm) d_R_covers_17 rfl (hK.sz (by decide)) hK.k_first rfl (by omega) (by decide) t3 ?_
    refine mp_iald (v := .int (nI (((rm_F S j).idxOf f)))) X 19 (f) d_R_covers_18 rfl (hK.sz (by decide)) hK.k_place rfl (by omega) (by decide) pf ?_
    refine mp_Nge X 24 22 d_R_covers_19 (by decide) rfl (by omega) (by omega) (fun q1 => ?_) (fun q1 => ?_)
    · refine mp_aload_n X 25 d_R_covers_24 rfl rfl rfl ?_
      refine mp_getf (v := .ref (G.1 + 30)) X 28 lk_R_19_R d_R_covers_25 rfl (hK.sz (by decide)) hK.ob hK.r_end ?_
      refine mp_iload_n X 29 d_R_covers_28 rfl rfl rfl ?_
      refine mp_iald (v := .int (nI e)) X 30 (mm) d_R_covers_29 rfl (hK.sz (by decide)) hK.k_end rfl (by omega) (by decide) t4 ?_
      refine mp_Zge X 35 33 d_R_covers_30 (by decide) rfl (by omega) (fun q2 => ?_) (fun q2 => ?_)
      · refine mp_aload_n X 36 d_R_covers_35 rfl rfl rfl ?_
        refine mp_getf (v := .ref (G.1 + 37)) X 39 lk_R_42_R d_R_covers_36 rfl (hK.sz (by decide)) hK.ob hK.r_place ?_
        refine mp_aload_n X 40 d_R_covers_39 rfl rfl rfl ?_
        refine mp_getf (v := .ref (G.1 + 30)) X 43 lk_R_19_R d_R_covers_40 rfl (hK.sz (by decide)) hK.ob hK.r_end ?_
        refine mp_iload_n X 44 d_R_covers_43 rfl rfl rfl ?_
        refine mp_iald (v := .int (nI e)) X 45 (mm) d_R_covers_44 rfl (hK.sz (by decide)) hK.k_end rfl (by omega) (by decide) t4 ?_
        refine mp_iald (v := .int (nI (((rm_F S j).idxOf e)))) X 46 (e) d_R_covers_45 rfl (hK.sz (by decide)) hK.k_place rfl (by omega) (by decide) pe ?_
        refine mp_istore X 48 (L' := [.val (.ref (G.1 + 26)), .val (.int (nI mm)), .val (.int (nI lt)), .val (.int (nI (((rm_F S j).idxOf lt)))), .val (.int (nI (((rm_F S j).idxOf e))))]) d_R_covers_46 rfl rfl rfl rfl ?_
        refine mp_aload_n X 49 d_R_covers_48 rfl rfl rfl ?_
        refine mp_getf (v := .ref (G.1 + 31)) X 52 lk_R_22_R d_R_covers_49 rfl (hK.sz (by decide)) hK.ob hK.r_what ?_
        refine mp_iload_n X 53 d_R_covers_52 rfl rfl rfl ?_
        refine mp_iald (v := .int (nI ((pq_wh S.2.1 mm)))) X 54 (mm) d_R_covers_53 rfl (hK.sz (by decide)) hK.k_what rfl (by omega) (by decide) t5 ?_
        refine mp_iconst X 55 (v := nI 4) d_R_covers_54 rfl (by decide) ?_
        refine mp_Nge X 72 58 d_R_covers_55 (by decide) rfl (by omega) (by omega) (fun q3 => ?_) (fun q3 => ?_)
        · refine mp_iload_n X 73 d_R_covers_72 rfl rfl rfl ?_
          refine mp_iload X 75 d_R_covers_73 rfl rfl ?_
          refine mp_Ngt X 82 78 d_R_covers_75 (by decide) rfl (by omega) (by omega) (fun q4 => ?_) (fun q4 => ?_)
          · refine mp_iconst X 83 (v := nI 0) d_R_covers_82 rfl (by decide) ?_
            exact mp_iret X d_R_covers_83 rfl rfl (by decide) (by decide) ⟨rfl, congrArg (fun b => some (Value.int (rm_b b))) (show false = _ by unfold pq_cv; rw [hf, hen]; simp only []; split <;> simp <;> omega)⟩
          · refine mp_iconst X 79 (v := nI 1) d_R_covers_78 rfl (by decide) ?_
            refine mp_goto X 83 d_R_covers_79 (by decide) ?_
            exact mp_iret X d_R_covers_83 rfl rfl (by decide) (by decide) ⟨rfl, congrArg (fun b => some (Value.int (rm_b b))) (show true = _ by unfold pq_cv; rw [hf, hen]; simp only []; split <;> simp <;> omega)⟩
        · refine mp_iload_n X 59 d_R_covers_58 rfl rfl rfl ?_
          refine mp_iload X 61 d_R_covers_59 rfl rfl ?_
          refine mp_Nge X 68 64 d_R_covers_61 (by decide) rfl (by omega) (by omega) (fun q5 => ?_) (fun q5 => ?_)
          · refine mp_iconst X 69 (v := nI 0) d_R_covers_68 rfl (by decide) ?_
            refine mp_goto X 83 d_R_covers_69 (by decide) ?_
            exact mp_iret X d_R_covers_83 rfl rfl (by decide) (by decide) ⟨rfl, congrArg (fun b => some (Value.int (rm_b b))) (show false = _ by unfold pq_cv; rw [hf, hen]; simp only []; split <;> simp <;> omega)⟩
          · refine mp_iconst X 65 (v := nI 1) d_R_covers_64 rfl (by decide) ?_
            refine mp_goto X 83 d_R_covers_65 (by decide) ?_
            exact mp_iret X d_R_covers_83 rfl rfl (by decide) (by decide) ⟨rfl, congrArg (fun b => some (Value.int (rm_b b))) (show true = _ by unfold pq_cv; rw [hf, hen]; simp only []; split <;> simp <;> omega)⟩
      · exact q2.elim
    · refine mp_iconst X 23 (v := nI 0) d_R_covers_22 rfl (by decide) ?_
      exact mp_iret X d_R_covers_23 rfl rfl (by decide) (by decide) ⟨rfl, congrArg (fun b => some (Value.int (rm_b b))) (show false = _ by unfold pq_cv; rw [hf, hen]; simp only []; split <;> simp <;> omega)⟩
set_option maxRecDepth 100000 in
set_option maxHeartbeats 4000000 in
theorem k_R_formatOf (l : Launch) {G : mp_G} {h : mp_H} {S : pq_S} {j lt : Nat} (hK : rm_K G h) (hS : rm_S h S) (hV : rm_V h S j) (hok : pq_ok S) (hj : j < 3) (hlt : lt ∈ rm_F S j) :
    mp_M G mp_Ts l y_R_formatOf 1 0 0 [.ref (G.1 + 26), .int (nI j), .int (nI lt)] h (fun v h' => h' = h ∧ v = some (.int (nI (pq_fm S.2.1 (rm_F S j) lt (pq_mk S.2.1 (S.2.2.1 j) (S.2.2.2 j)))))) (fun _ _ => False) := by
  have hM : S.1 ≤ 90 := hok.1
  have hw := hok.2.1
  have s1 := hS.1
  have s2 := hS.2.1
  obtain ⟨-, -, s6⟩ := hS.2.2 j hj
  have hltM := (rm_row_lt hw (hok.2.2.1 j hj) hlt).1
  refine mp_enter (by decide) Y_R_formatOf fun E hl X => ?_
  have hout : ∀ (n kind : Nat) (z5 z6 z7 : Slot), mp_s1 z5 = true → mp_s1 z6 = true → mp_s1 z7 = true → kind + n = 4 → mp_W G E h 0 0 (mp_Q G E 0 0 (fun v h' => h' = h ∧ v = some (.int (nI (pq_fm S.2.1 (rm_F S j) lt (pq_mk S.2.1 (S.2.2.1 j) (S.2.2.2 j)))))) (fun _ _ => False)) 5 [.val (.ref (G.1 + 26)), .val (.int (nI j)), .val (.int (nI lt)), .val (.int (nI (rm_sm S.2.1 (rm_F S j) lt (pq_mk S.2.1 (S.2.2.1 j) (S.2.2.2 j)) kind))), .val (.int (nI kind)), z5, z6, z7] [] := by
    intro n
    induction n with
    | zero =>
      intro kind z5 z6 z7 hz5 hz6 hz7 hkn
      have hk4 : kind = 4 := by omega
      subst hk4
      refine mp_iload X 7 d_R_formatOf_5 rfl rfl ?_
      refine mp_iconst X 8 (v := nI 4) d_R_formatOf_7 rfl (by decide) ?_
      refine mp_Nge X 160 11 d_R_formatOf_8 (by decide) rfl (by omega) (by omega) (fun q1 => ?_) (fun q1 => ?_)
      · refine mp_iload_n X 161 d_R_formatOf_160 rfl rfl rfl ?_
        exact mp_iret X d_R_formatOf_161 rfl rfl (by decide) (by decide) ⟨rfl, by rw [rm_sm_4]⟩
      · omega
    | succ n ih =>
      intro kind z5 z6 z7 hz5 hz6 hz7 hkn
      have hk4 : kind < 4 := by omega
      have hsm := rm_sm_lt S.2.1 (rm_F S j) lt (pq_mk S.2.1 (S.2.2.1 j) (S.2.2.2 j)) kind
      have hsm2 : 2 ^ kind ≤ 16 := Nat.pow_le_pow_right (by decide) (by omega : kind ≤ 4)
      have hbest := pq_hs_best hw (hok.2.2.1 j hj) (rm_F S j) lt kind
      have hin : ∀ (m k : Nat) (r : Option Nat) (z : Slot), mp_s1 z = true → k + m = S.1 → r = pq_best (pq_id S.2.1) (rm_cm S j lt kind) k → mp_W G E h 0 0 (mp_Q G E 0 0 (fun v h' => h' = h ∧ v = some (.int (nI (pq_fm S.2.1 (rm_F S j) lt (pq_mk S.2.1 (S.2.2.1 j) (S.2.2.2 j)))))) (fun _ _ => False)) 17 [.val (.ref (G.1 + 26)), .val (.int (nI j)), .val (.int (nI lt)), .val (.int (nI (rm_sm S.2.1 (rm_F S j) lt (pq_mk S.2.1 (S.2.2.1 j) (S.2.2.2 j)) kind))), .val (.int (nI kind)), .val (.int (rm_i r)), .val (.int (nI k)), z] [] := by
        intro m
        induction m with
        | zero =>
          intro k r z hz hkm hr
          have hk : k = S.1 := by omega
          subst hk
          cases r with
          | none =>
            have hb2 : pq_hs S.2.1 (rm_F S j) lt kind (pq_mk S.2.1 (S.2.2.1 j) (S.2.2.2 j)) = false := by
              have hr2 : pq_best (pq_id S.2.1) (fun k => (pq_kw (S.2.2.1 j) (S.2.2.2 j) k && pq_so S.2.1 k == 2) && decide (pq_wh S.2.1 k / 2 = kind) && pq_cv S.2.1 (rm_F S j) k lt) S.1 = none := hr.symm
              rw [hbest, hr2]
            refine mp_eq rfl (L2 := [.val (.ref (G.1 + 26)), .val (.int (nI j)), .val (.int (nI lt)), .val (.int (nI ((rm_sm S.2.1 (rm_F S j) lt (pq_mk S.2.1 (S.2.2.1 j) (S.2.2.2 j)) kind)))), .val (.int (nI kind)), .val (.int (-1)), .val (.int (nI (S.1))), z]) rfl rfl ?_
            refine mp_iload X 19 d_R_formatOf_17 rfl rfl ?_
            refine mp_aload_n X 20 d_R_formatOf_19 rfl rfl rfl ?_
            refine mp_getf (v := .int (nI (S.1))) X 23 lk_R_55_R d_R_formatOf_20 rfl (hK.sz (by decide)) hK.ob s1 ?_
            refine mp_Nge X 125 26 d_R_formatOf_23 (by decide) rfl (by omega) (by omega) (fun q1 => ?_) (fun q1 => ?_)
            · refine mp_iload_n X 126 d_R_formatOf_125 rfl rfl rfl ?_
              refine mp_iload X 128 d_R_formatOf_126 rfl rfl ?_
              refine mp_if_lt X 151 131 d_R_formatOf_128 (by decide) rfl (fun q2 => ?_) (fun q2 => ?_)
              · refine mp_iconst X 152 (v := nI 0) d_R_formatOf_151 rfl (by decide) ?_
                refine mp_iadd X 153 d_R_formatOf_152 rfl ?_
                rw [nI_add]
                have esm : (rm_sm S.2.1 (rm_F S j) lt (pq_mk S.2.1 (S.2.2.1 j) (S.2.2.2 j)) kind) + 0 = (rm_sm S.2.1 (rm_F S j) lt (pq_mk S.2.1 (S.2.2.1 j) (S.2.2.2 j)) (kind + 1)) := by
                  show _ = _ + (if _ then 2 ^ kind else 0)
                  rw [hb2]; rfl
                rw [esm]
                refine mp_istore_n X 154 (L' := [.val (.ref (G.1 + 26)), .val (.int (nI j)), .val (.int (nI lt)), .val (.int (nI ((rm_sm S.2.1 (rm_F S j) lt (pq_mk S.2.1 (S.2.2.1 j) (S.2.2.2 j)) (kind + 1))))), .val (.int (nI kind)), .val (.int (-1)), .val (.int (nI (S.1))), z]) d_R_formatOf_153 rfl rfl rfl rfl rfl ?_
                refine mp_iinc X 157 (L' := [.val (.ref (G.1 + 26)), .val (.int (nI j)), .val (.int (nI lt)), .val (.int (nI ((rm_sm S.2.1 (rm_F S j) lt (pq_mk S.2.1 (S.2.2.1 j) (S.2.2.2 j)) (kind + 1))))), .val (.int (nI (kind + 1))), .val (.int (-1)), .val (.int (nI (S.1))), z]) (v := nI (kind + 1)) d_R_formatOf_154 rfl rfl (nI_1 _) rfl ?_
                refine mp_goto X 5 d_R_formatOf_157 (by decide) ?_
                exact ih (kind + 1) _ _ _ rfl rfl hz (by omega)
              · exact absurd (by decide) q2
            · omega
          | some b0 =>
            have hb2 : pq_hs S.2.1 (rm_F S j) lt kind (pq_mk S.2.1 (S.2.2.1 j) (S.2.2.2 j)) = decide (pq_wh S.2.1 b0 % 2 = 1) := by
              have hr2 : pq_best (pq_id S.2.1) (fun k => (pq_kw (S.2.2.1 j) (S.2.2.2 j) k && pq_so S.2.1 k == 2) && decide (pq_wh S.2.1 k / 2 = kind) && pq_cv S.2.1 (rm_F S j) k lt) S.1 = some b0 := hr.symm
              rw [hbest, hr2]
            obtain ⟨hb0, -, -⟩ := (pq_best_spec (pq_id S.2.1) (rm_cm S j lt kind) S.1).1 b0 hr.symm
            have tb := (s2 b0 hb0).2.2.2.2.1
            have hwb := (hw.2.2.2.1 b0 hb0).2.2.2.2
            refine mp_eq rfl (L2 := [.val (.ref (G.1 + 26)), .val (.int (nI j)), .val (.int (nI lt)), .val (.int (nI ((rm_sm S.2.1 (rm_F S j) lt (pq_mk S.2.1 (S.2.2.1 j) (S.2.2.2 j)) kind)))), .val (.int (nI kind)), .val (.int (nI b0)), .val (.int (nI (S.1))), z]) rfl rfl ?_
            refine mp_iload X 19 d_R_formatOf_17 rfl rfl ?_
            refine mp_aload_n X 20 d_R_formatOf_19 rfl rfl rfl ?_
            refine mp_getf (v := .int (nI (S.1))) X 23 lk_R_55_R d_R_formatOf_20 rfl (hK.sz (by decide)) hK.ob s1 ?_
            refine mp_Nge X 125 26 d_R_formatOf_23 (by decide) rfl (by omega) (by omega) (fun q1 => ?_) (fun q1 => ?_)
            · refine mp_iload_n X 126 d_R_formatOf_125 rfl rfl rfl ?_
              refine mp_iload X 128 d_R_formatOf_126 rfl rfl ?_
              refine mp_Zlt X 151 131 d_R_formatOf_128 (by decide) rfl (by omega) (fun q2 => ?_) (fun q2 => ?_)
              · exact q2.elim
              · refine mp_aload_n X 132 d_R_formatOf_131 rfl rfl rfl ?_
                refine mp_getf (v := .ref (G.1 + 31)) X 135 lk_R_22_R d_R_formatOf_132 rfl (hK.sz (by decide)) hK.ob hK.r_what ?_
                refine mp_iload X 137 d_R_formatOf_135 rfl rfl ?_
                refine mp_iald (v := .int (nI ((pq_wh S.2.1 b0)))) X 138 (b0) d_R_formatOf_137 rfl (hK.sz (by decide)) hK.k_what rfl (by omega) (by decide) tb ?_
                refine mp_iconst X 139 (v := nI 2) d_R_formatOf_138 rfl (by decide) ?_
                refine mp_irem X 140 d_R_formatOf_139 rfl (by decide) ?_
                have e3 : nI ((pq_wh S.2.1 b0)) - nI ((pq_wh S.2.1 b0)) / nI 2 * nI 2 = nI ((pq_wh S.2.1 b0) % 2) := pk_rem (by omega) (by decide) (by decide)
                rw [e3]
                refine mp_iconst X 141 (v := nI 1) d_R_formatOf_140 rfl (by decide) ?_
                refine mp_Nne X 151 144 d_R_formatOf_141 (by decide) rfl (by omega) (by omega) (fun q4 => ?_) (fun q4 => ?_)
                · refine mp_iconst X 152 (v := nI 0) d_R_formatOf_151 rfl (by decide) ?_
                  refine mp_iadd X 153 d_R_formatOf_152 rfl ?_
                  rw [nI_add]
                  have esm : (rm_sm S.2.1 (rm_F S j) lt (pq_mk S.2.1 (S.2.2.1 j) (S.2.2.2 j)) kind) + 0 = (rm_sm S.2.1 (rm_F S j) lt (pq_mk S.2.1 (S.2.2.1 j) (S.2.2.2 j)) (kind + 1)) := by
                    show _ = _ + (if _ then 2 ^ kind else 0)
                    rw [hb2, decide_eq_false q4]; rfl
                  rw [esm]
                  refine mp_istore_n X 154 (L' := [.val (.ref (G.1 + 26)), .val (.int (nI j)), .val (.int (nI lt)), .val (.int (nI ((rm_sm S.2.1 (rm_F S j) lt (pq_mk S.2.1 (S.2.2.1 j) (S.2.2.2 j)) (kind + 1))))), .val (.int (nI kind)), .val (.int (nI b0)), .val (.int (nI (S.1))), z]) d_R_formatOf_153 rfl rfl rfl rfl rfl ?_
                  refine mp_iinc X 157 (L' := [.val (.ref (G.1 + 26)), .val (.int (nI j)), .val (.int (nI lt)), .val (.int (nI ((rm_sm S.2.1 (rm_F S j) lt (pq_mk S.2.1 (S.2.2.1 j) (S.2.2.2 j)) (kind + 1))))), .val (.int (nI (kind + 1))), .val (.int (nI b0)), .val (.int (nI (S.1))), z]) (v := nI (kind + 1)) d_R_formatOf_154 rfl rfl (nI_1 _) rfl ?_
                  refine mp_goto X 5 d_R_formatOf_157 (by decide) ?_
                  exact ih (kind + 1) _ _ _ rfl rfl hz (by omega)
                · refine mp_iconst X 145 (v := nI 1) d_R_formatOf_144 rfl (by decide) ?_
                  refine mp_iload X 147 d_R_formatOf_145 rfl rfl ?_
                  refine mp_ishl X 148 d_R_formatOf_147 rfl ?_
                  have e5 : (nI 1) <<< ((nI kind) &&& 31) = nI (2 ^ kind) := rm_shl kind hk4
                  rw [e5]
                  refine mp_goto X 152 d_R_formatOf_148 (by decide) ?_
                  refine mp_iadd X 153 d_R_formatOf_152 rfl ?_
                  rw [nI_add]
                  have esm : (rm_sm S.2.1 (rm_F S j) lt (pq_mk S.2.1 (S.2.2.1 j) (S.2.2.2 j)) kind) + 2 ^ kind = (rm_sm S.2.1 (rm_F S j) lt (pq_mk S.2.1 (S.2.2.1 j) (S.2.2.2 j)) (kind + 1)) := by
                    show _ = _ + (if _ then 2 ^ kind else 0)
                    rw [hb2, q4]; rfl
                  rw [esm]
                  refine mp_istore_n X 154 (L' := [.val (.ref (G.1 + 26)), .val (.int (nI j)), .val (.int (nI lt)), .val (.int (nI ((rm_sm S.2.1 (rm_F S j) lt (pq_mk S.2.1 (S.2.2.1 j) (S.2.2.2 j)) (kind + 1))))), .val (.int (nI kind)), .val (.int (nI b0)), .val (.int (nI (S.1))), z]) d_R_formatOf_153 rfl rfl rfl rfl rfl ?_
                  refine mp_iinc X 157 (L' := [.val (.ref (G.1 + 26)), .val (.int (nI j)), .val (.int (nI lt)), .val (.int (nI ((rm_sm S.2.1 (rm_F S j) lt (pq_mk S.2.1 (S.2.2.1 j) (S.2.2.2 j)) (kind + 1))))), .val (.int (nI (kind + 1))), .val (.int (nI b0)), .val (.int (nI (S.1))), z]) (v := nI (kind + 1)) d_R_formatOf_154 rfl rfl (nI_1 _) rfl ?_
                  refine mp_goto X 5 d_R_formatOf_157 (by decide) ?_
                  exact ih (kind + 1) _ _ _ rfl rfl hz (by omega)
            · omega
        | succ m ihm =>
          intro k r z hz hkm hr
          have hkM : k < S.1 := by omega
          obtain ⟨t1, t2, t3, t4, t5, t6⟩ := s2 k hkM
          obtain ⟨-, -, -, hso3, hwh⟩ := hw.2.2.2.1 k hkM
          have hidk := pq_id_lt hw hM hkM
          have s_kb := s6 k (by omega)
          cases r with
          | none =>
            refine mp_eq rfl (L2 := [.val (.ref (G.1 + 26)), .val (.int (nI j)), .val (.int (nI lt)), .val (.int (nI ((rm_sm S.2.1 (rm_F S j) lt (pq_mk S.2.1 (S.2.2.1 j) (S.2.2.2 j)) kind)))), .val (.int (nI kind)), .val (.int (-1)), .val (.int (nI k)), z]) rfl rfl ?_
            refine mp_iload X 19 d_R_formatOf_17 rfl rfl ?_
            refine mp_aload_n X 20 d_R_formatOf_19 rfl rfl rfl ?_
            refine mp_getf (v := .int (nI (S.1))) X 23 lk_R_55_R d_R_formatOf_20 rfl (hK.sz (by decide)) hK.ob s1 ?_
            refine mp_Nge X 125 26 d_R_formatOf_23 (by decide) rfl (by omega) (by omega) (fun q1 => ?_) (fun q1 => ?_)
            · omega
            · obtain ⟨kb, kb1, hkb⟩ : ∃ kb : Nat, (kb = 1 ∧ pq_kw (S.2.2.1 j) (S.2.2.2 j) k = true ∨ kb = 0 ∧ pq_kw (S.2.2.1 j) (S.2.2.2 j) k = false) ∧ h.2.1 34 (90 * j + k) = .int (nI kb) := by
                cases hkw : pq_kw (S.2.2.1 j) (S.2.2.2 j) k with
                | true => rw [hkw] at s_kb; exact ⟨1, Or.inl ⟨rfl, rfl⟩, s_kb⟩
                | false => rw [hkw] at s_kb; exact ⟨0, Or.inr ⟨rfl, rfl⟩, s_kb⟩
              have kbb : kb < 2 := by omega
              refine mp_aload_n X 27 d_R_formatOf_26 rfl rfl rfl ?_
              refine mp_getf (v := .ref (G.1 + 34)) X 30 lk_R_32_R d_R_formatOf_27 rfl (hK.sz (by decide)) hK.ob hK.r_knows ?_
              refine mp_bipush X 32 (v := nI 90) d_R_formatOf_30 rfl (by decide) ?_
              refine mp_iload_n X 33 d_R_formatOf_32 rfl rfl rfl ?_
              refine mp_imul X 34 d_R_formatOf_33 rfl ?_
              rw [pk_mul]
              refine mp_iload X 36 d_R_formatOf_34 rfl rfl ?_
              refine mp_iadd X 37 d_R_formatOf_36 rfl ?_
              rw [nI_add]
              refine mp_zald (v := .int (nI kb)) X 38 (90 * j + k) d_R_formatOf_37 rfl (hK.sz (by decide)) hK.k_knows rfl (by omega) (by decide) hkb ?_
              refine mp_Zeq X 70 41 d_R_formatOf_38 (by decide) rfl (by omega) (fun q2 => ?_) (fun q2 => ?_)
              · have hkw : pq_kw (S.2.2.1 j) (S.2.2.2 j) k = false := by rcases kb1 with ⟨h1, h2⟩ | ⟨h1, h2⟩; omega; exact h2
                refine mp_iconst X 71 (v := nI 0) d_R_formatOf_70 rfl (by decide) ?_
                refine mp_istore X 73 (L' := [.val (.ref (G.1 + 26)), .val (.int (nI j)), .val (.int (nI lt)), .val (.int (nI ((rm_sm S.2.1 (rm_F S j) lt (pq_mk S.2.1 (S.2.2.1 j) (S.2.2.2 j)) kind)))), .val (.int (nI kind)), .val (.int (-1)), .val (.int (nI k)), .val (.int (nI 0))]) d_R_formatOf_71 rfl rfl hz rfl ?_
                refine mp_iload X 75 d_R_formatOf_73 rfl rfl ?_
                refine mp_Zeq X 115 78 d_R_formatOf_75 (by decide) rfl (by omega) (fun q3 => ?_) (fun q3 => ?_)
                · refine mp_iload X 117 d_R_formatOf_115 rfl rfl ?_
                  refine mp_istore X 119 (L' := [.val (.ref (G.1 + 26)), .val (.int (nI j)), .val (.int (nI lt)), .val (.int (nI ((rm_sm S.2.1 (rm_F S j) lt (pq_mk S.2.1 (S.2.2.1 j) (S.2.2.2 j)) kind)))), .val (.int (nI kind)), .val (.int (-1)), .val (.int (nI k)), .val (.int (nI 0))]) d_R_formatOf_117 rfl rfl rfl rfl ?_
                  refine mp_iinc X 122 (L' := [.val (.ref (G.1 + 26)), .val (.int (nI j)), .val (.int (nI lt)), .val (.int (nI ((rm_sm S.2.1 (rm_F S j) lt (pq_mk S.2.1 (S.2.2.1 j) (S.2.2.2 j)) kind)))), .val (.int (nI kind)), .val (.int (-1)), .val (.int (nI (k + 1))), .val (.int (nI 0))]) (v := nI (k + 1)) d_R_formatOf_119 rfl rfl (nI_1 _) rfl ?_
                  refine mp_goto X 17 d_R_formatOf_122 (by decide) ?_
                  exact ihm (k + 1) none _ rfl (by omega) (by rw [pq_best_keep (show rm_cm S j lt kind k = false by unfold rm_cm; rw [hkw]; rfl), ← hr])
                · exact absurd rfl q3
              · have hkw : pq_kw (S.2.2.1 j) (S.2.2.2 j) k = true := by rcases kb1 with ⟨h1, h2⟩ | ⟨h1, h2⟩; exact h2; omega
                refine mp_aload_n X 42 d_R_formatOf_41 rfl rfl rfl ?_
                refine mp_getf (v := .ref (G.1 + 27)) X 45 lk_R_7_R d_R_formatOf_42 rfl (hK.sz (by decide)) hK.ob hK.r_sort ?_
                refine mp_iload X 47 d_R_formatOf_45 rfl rfl ?_
                refine mp_iald (v := .int (nI ((pq_so S.2.1 k)))) X 48 (k) d_R_formatOf_47 rfl (hK.sz (by decide)) hK.k_sort rfl (by omega) (by decide) t1 ?_
                refine mp_iconst X 49 (v := nI 2) d_R_formatOf_48 rfl (by decide) ?_
                refine mp_Nne X 70 52 d_R_formatOf_49 (by decide) rfl (by omega) (by omega) (fun q4 => ?_) (fun q4 => ?_)
                · refine mp_iconst X 71 (v := nI 0) d_R_formatOf_70 rfl (by decide) ?_
                  refine mp_istore X 73 (L' := [.val (.ref (G.1 + 26)), .val (.int (nI j)), .val (.int (nI lt)), .val (.int (nI ((rm_sm S.2.1 (rm_F S j) lt (pq_mk S.2.1 (S.2.2.1 j) (S.2.2.2 j)) kind)))), .val (.int (nI kind)), .val (.int (-1)), .val (.int (nI k)), .val (.int (nI 0))]) d_R_formatOf_71 rfl rfl hz rfl ?_
                  refine mp_iload X 75 d_R_formatOf_73 rfl rfl ?_
                  refine mp_Zeq X 115 78 d_R_formatOf_75 (by decide) rfl (by omega) (fun q5 => ?_) (fun q5 => ?_)
                  · refine mp_iload X 117 d_R_formatOf_115 rfl rfl ?_
                    refine mp_istore X 119 (L' := [.val (.ref (G.1 + 26)), .val (.int (nI j)), .val (.int (nI lt)), .val (.int (nI ((rm_sm S.2.1 (rm_F S j) lt (pq_mk S.2.1 (S.2.2.1 j) (S.2.2.2 j)) kind)))), .val (.int (nI kind)), .val (.int (-1)), .val (.int (nI k)), .val (.int (nI 0))]) d_R_formatOf_117 rfl rfl rfl rfl ?_
                    refine mp_iinc X 122 (L' := [.val (.ref (G.1 + 26)), .val (.int (nI j)), .val (.int (nI lt)), .val (.int (nI ((rm_sm S.2.1 (rm_F S j) lt (pq_mk S.2.1 (S.2.2.1 j) (S.2.2.2 j)) kind)))), .val (.int (nI kind)), .val (.int (-1)), .val (.int (nI (k + 1))), .val (.int (nI 0))]) (v := nI (k + 1)) d_R_formatOf_119 rfl rfl (nI_1 _) rfl ?_
                    refine mp_goto X 17 d_R_formatOf_122 (by decide) ?_
                    exact ihm (k + 1) none _ rfl (by omega) (by rw [pq_best_keep (show rm_cm S j lt kind k = false by unfold rm_cm; simp [q4]), ← hr])
                  · exact absurd rfl q5
                · refine mp_aload_n X 53 d_R_formatOf_52 rfl rfl rfl ?_
                  refine mp_getf (v := .ref (G.1 + 31)) X 56 lk_R_22_R d_R_formatOf_53 rfl (hK.sz (by decide)) hK.ob hK.r_what ?_
                  refine mp_iload X 58 d_R_formatOf_56 rfl rfl ?_
                  refine mp_iald (v := .int (nI ((pq_wh S.2.1 k)))) X 59 (k) d_R_formatOf_58 rfl (hK.sz (by decide)) hK.k_what rfl (by omega) (by decide) t5 ?_
                  refine mp_iconst X 60 (v := nI 2) d_R_formatOf_59 rfl (by decide) ?_
                  refine mp_idiv X 61 d_R_formatOf_60 rfl (by decide) ?_
                  have e6 : (nI ((pq_wh S.2.1 k))) / nI 2 = nI ((pq_wh S.2.1 k) / 2) := pk_div (by omega) (by decide) (by decide)
                  rw [e6]
                  refine mp_iload X 63 d_R_formatOf_61 rfl rfl ?_
                  refine mp_Nne X 70 66 d_R_formatOf_63 (by decide) rfl (by omega) (by omega) (fun q7 => ?_) (fun q7 => ?_)
                  · refine mp_iconst X 71 (v := nI 0) d_R_formatOf_70 rfl (by decide) ?_
                    refine mp_istore X 73 (L' := [.val (.ref (G.1 + 26)), .val (.int (nI j)), .val (.int (nI lt)), .val (.int (nI ((rm_sm S.2.1 (rm_F S j) lt (pq_mk S.2.1 (S.2.2.1 j) (S.2.2.2 j)) kind)))), .val (.int (nI kind)), .val (.int (-1)), .val (.int (nI k)), .val (.int (nI 0))]) d_R_formatOf_71 rfl rfl hz rfl ?_
                    refine mp_iload X 75 d_R_formatOf_73 rfl rfl ?_
                    refine mp_Zeq X 115 78 d_R_formatOf_75 (by decide) rfl (by omega) (fun q8 => ?_) (fun q8 => ?_)
                    · refine mp_iload X 117 d_R_formatOf_115 rfl rfl ?_
                      refine mp_istore X 119 (L' := [.val (.ref (G.1 + 26)), .val (.int (nI j)), .val (.int (nI lt)), .val (.int (nI ((rm_sm S.2.1 (rm_F S j) lt (pq_mk S.2.1 (S.2.2.1 j) (S.2.2.2 j)) kind)))), .val (.int (nI kind)), .val (.int (-1)), .val (.int (nI k)), .val (.int (nI 0))]) d_R_formatOf_117 rfl rfl rfl rfl ?_
                      refine mp_iinc X 122 (L' := [.val (.ref (G.1 + 26)), .val (.int (nI j)), .val (.int (nI lt)), .val (.int (nI ((rm_sm S.2.1 (rm_F S j) lt (pq_mk S.2.1 (S.2.2.1 j) (S.2.2.2 j)) kind)))), .val (.int (nI kind)), .val (.int (-1)), .val (.int (nI (k + 1))), .val (.int (nI 0))]) (v := nI (k + 1)) d_R_formatOf_119 rfl rfl (nI_1 _) rfl ?_
                      refine mp_goto X 17 d_R_formatOf_122 (by decide) ?_
                      exact ihm (k + 1) none _ rfl (by omega) (by rw [pq_best_keep (show rm_cm S j lt kind k = false by unfold rm_cm; simp [q7]), ← hr])
                    · exact absurd rfl q8
                  · refine mp_iconst X 67 (v := nI 1) d_R_formatOf_66 rfl (by decide) ?_
                    refine mp_goto X 71 d_R_formatOf_67 (by decide) ?_
                    refine mp_istore X 73 (L' := [.val (.ref (G.1 + 26)), .val (.int (nI j)), .val (.int (nI lt)), .val (.int (nI ((rm_sm S.2.1 (rm_F S j) lt (pq_mk S.2.1 (S.2.2.1 j) (S.2.2.2 j)) kind)))), .val (.int (nI kind)), .val (.int (-1)), .val (.int (nI k)), .val (.int (nI 1))]) d_R_formatOf_71 rfl rfl hz rfl ?_
                    refine mp_iload X 75 d_R_formatOf_73 rfl rfl ?_
                    refine mp_Zeq X 115 78 d_R_formatOf_75 (by decide) rfl (by omega) (fun q9 => ?_) (fun q9 => ?_)
                    · exact absurd q9 (by decide)
                    · refine mp_aload_n X 79 d_R_formatOf_78 rfl rfl rfl ?_
                      refine mp_iload X 81 d_R_formatOf_79 rfl rfl ?_
                      refine mp_iload_n X 82 d_R_formatOf_81 rfl rfl rfl ?_
                      obtain ⟨cb, cb1, hcb⟩ : ∃ cb : Nat, (cb = 1 ∧ pq_cv S.2.1 (rm_F S j) k lt = true ∨ cb = 0 ∧ pq_cv S.2.1 (rm_F S j) k lt = false) ∧ rm_b (pq_cv S.2.1 (rm_F S j) k lt) = nI cb := by
                        cases hcv : pq_cv S.2.1 (rm_F S j) k lt with
                        | true => exact ⟨1, Or.inl ⟨rfl, rfl⟩, rfl⟩
                        | false => exact ⟨0, Or.inr ⟨rfl, rfl⟩, rfl⟩
                      refine mp_callE X mp_Ts_ok 85 (rest := []) (st2 := [.int (nI cb)]) (k_R_covers (mm := k) (lt := lt) _ hK hS hV hok hj hkM hkw q4 hlt) Y_R_covers in_R (mp_IV X (q := (nR_R, nT_R, 17)) d_R_formatOf_82 Y_R_covers ml_R_72 im_R_covers se_R_covers (by decide) rfl (by decide) (by show _ = some 2; decide) (hK.sz (by decide)) hK.ob) rfl (by decide) (by decide) (by decide) (by decide) rfl (by decide) (by rw [hcb]; rfl) ?_
                      refine mp_Zeq X 115 88 d_R_formatOf_85 (by decide) rfl (by omega) (fun q10 => ?_) (fun q10 => ?_)
                      · have hcv : pq_cv S.2.1 (rm_F S j) k lt = false := by rcases cb1 with ⟨a1, a2⟩ | ⟨a1, a2⟩; omega; exact a2
                        refine mp_iload X 117 d_R_formatOf_115 rfl rfl ?_
                        refine mp_istore X 119 (L' := [.val (.ref (G.1 + 26)), .val (.int (nI j)), .val (.int (nI lt)), .val (.int (nI ((rm_sm S.2.1 (rm_F S j) lt (pq_mk S.2.1 (S.2.2.1 j) (S.2.2.2 j)) kind)))), .val (.int (nI kind)), .val (.int (-1)), .val (.int (nI k)), .val (.int (nI 1))]) d_R_formatOf_117 rfl rfl rfl rfl ?_
                        refine mp_iinc X 122 (L' := [.val (.ref (G.1 + 26)), .val (.int (nI j)), .val (.int (nI lt)), .val (.int (nI ((rm_sm S.2.1 (rm_F S j) lt (pq_mk S.2.1 (S.2.2.1 j) (S.2.2.2 j)) kind)))), .val (.int (nI kind)), .val (.int (-1)), .val (.int (nI (k + 1))), .val (.int (nI 1))]) (v := nI (k + 1)) d_R_formatOf_119 rfl rfl (nI_1 _) rfl ?_
                        refine mp_goto X 17 d_R_formatOf_122 (by decide) ?_
                        exact ihm (k + 1) none _ rfl (by omega) (by rw [pq_best_keep (show rm_cm S j lt kind k = false by unfold rm_cm; rw [hcv]; simp), ← hr])
                      · have hcv : pq_cv S.2.1 (rm_F S j) k lt = true := by rcases cb1 with ⟨a1, a2⟩ | ⟨a1, a2⟩; exact a2; omega
                        refine mp_iload X 90 d_R_formatOf_88 rfl rfl ?_
                        refine mp_if_lt X 110 93 d_R_formatOf_90 (by decide) rfl (fun q11 => ?_) (fun q11 => ?_)
                        · refine mp_iload X 112 d_R_formatOf_110 rfl rfl ?_
                          refine mp_goto X 117 d_R_formatOf_112 (by decide) ?_
                          refine mp_istore X 119 (L' := [.val (.ref (G.1 + 26)), .val (.int (nI j)), .val (.int (nI lt)), .val (.int (nI ((rm_sm S.2.1 (rm_F S j) lt (pq_mk S.2.1 (S.2.2.1 j) (S.2.2.2 j)) kind)))), .val (.int (nI kind)), .val (.int (nI k)), .val (.int (nI k)), .val (.int (nI 1))]) d_R_formatOf_117 rfl rfl rfl rfl ?_
                          refine mp_iinc X 122 (L' := [.val (.ref (G.1 + 26)), .val (.int (nI j)), .val (.int (nI lt)), .val (.int (nI ((rm_sm S.2.1 (rm_F S j) lt (pq_mk S.2.1 (S.2.2.1 j) (S.2.2.2 j)) kind)))), .val (.int (nI kind)), .val (.int (nI k)), .val (.int (nI (k + 1))), .val (.int (nI 1))]) (v := nI (k + 1)) d_R_formatOf_119 rfl rfl (nI_1 _) rfl ?_
                          refine mp_goto X 17 d_R_formatOf_122 (by decide) ?_
                          have hct : rm_cm S j lt kind k = true := by unfold rm_cm; rw [hkw, hcv, q4, q7]; simp
                          exact ihm (k + 1) (some k) _ rfl (by omega) (by rw [pq_best_new hct hr.symm])
                        · exact absurd (by decide) q11
          | some b0 =>
            obtain ⟨hb0, -, -⟩ := (pq_best_spec (pq_id S.2.1) (rm_cm S j lt kind) k).1 b0 hr.symm
            have hidb := pq_id_lt hw hM (show b0 < S.1 by omega)
            have tb := (s2 b0 (by omega)).2.1
            refine mp_eq rfl (L2 := [.val (.ref (G.1 + 26)), .val (.int (nI j)), .val (.int (nI lt)), .val (.int (nI ((rm_sm S.2.1 (rm_F S j) lt (pq_mk S.2.1 (S.2.2.1 j) (S.2.2.2 j)) kind)))), .val (.int (nI kind)), .val (.int (nI b0)), .val (.int (nI k)), z]) rfl rfl ?_
            refine mp_iload X 19 d_R_formatOf_17 rfl rfl ?_
            refine mp_aload_n X 20 d_R_formatOf_19 rfl rfl rfl ?_
            refine mp_getf (v := .int (nI (S.1))) X 23 lk_R_55_R d_R_formatOf_20 rfl (hK.sz (by decide)) hK.ob s1 ?_
            refine mp_Nge X 125 26 d_R_formatOf_23 (by decide) rfl (by omega) (by omega) (fun q1 => ?_) (fun q1 => ?_)
            · omega
            · obtain ⟨kb, kb1, hkb⟩ : ∃ kb : Nat, (kb = 1 ∧ pq_kw (S.2.2.1 j) (S.2.2.2 j) k = true ∨ kb = 0 ∧ pq_kw (S.2.2.1 j) (S.2.2.2 j) k = false) ∧ h.2.1 34 (90 * j + k) = .int (nI kb) := by
                cases hkw : pq_kw (S.2.2.1 j) (S.2.2.2 j) k with
                | true => rw [hkw] at s_kb; exact ⟨1, Or.inl ⟨rfl, rfl⟩, s_kb⟩
                | false => rw [hkw] at s_kb; exact ⟨0, Or.inr ⟨rfl, rfl⟩, s_kb⟩
              have kbb : kb < 2 := by omega
              refine mp_aload_n X 27 d_R_formatOf_26 rfl rfl rfl ?_
              refine mp_getf (v := .ref (G.1 + 34)) X 30 lk_R_32_R d_R_formatOf_27 rfl (hK.sz (by decide)) hK.ob hK.r_knows ?_
              refine mp_bipush X 32 (v := nI 90) d_R_formatOf_30 rfl (by decide) ?_
              refine mp_iload_n X 33 d_R_formatOf_32 rfl rfl rfl ?_
              refine mp_imul X 34 d_R_formatOf_33 rfl ?_
              rw [pk_mul]
              refine mp_iload X 36 d_R_formatOf_34 rfl rfl ?_
              refine mp_iadd X 37 d_R_formatOf_36 rfl ?_
              rw [nI_add]
              refine mp_zald (v := .int (nI kb)) X 38 (90 * j + k) d_R_formatOf_37 rfl (hK.sz (by decide)) hK.k_knows rfl (by omega) (by decide) hkb ?_
              refine mp_Zeq X 70 41 d_R_formatOf_38 (by decide) rfl (by omega) (fun q2 => ?_) (fun q2 => ?_)
              · have hkw : pq_kw (S.2.2.1 j) (S.2.2.2 j) k = false := by rcases kb1 with ⟨h1, h2⟩ | ⟨h1, h2⟩; omega; exact h2
                refine mp_iconst X 71 (v := nI 0) d_R_formatOf_70 rfl (by decide) ?_
                refine mp_istore X 73 (L' := [.val (.ref (G.1 + 26)), .val (.int (nI j)), .val (.int (nI lt)), .val (.int (nI ((rm_sm S.2.1 (rm_F S j) lt (pq_mk S.2.1 (S.2.2.1 j) (S.2.2.2 j)) kind)))), .val (.int (nI kind)), .val (.int (nI b0)), .val (.int (nI k)), .val (.int (nI 0))]) d_R_formatOf_71 rfl rfl hz rfl ?_
                refine mp_iload X 75 d_R_formatOf_73 rfl rfl ?_
                refine mp_Zeq X 115 78 d_R_formatOf_75 (by decide) rfl (by omega) (fun q3 => ?_) (fun q3 => ?_)
                · refine mp_iload X 117 d_R_formatOf_115 rfl rfl ?_
                  refine mp_istore X 119 (L' := [.val (.ref (G.1 + 26)), .val (.int (nI j)), .val (.int (nI lt)), .val (.int (nI ((rm_sm S.2.1 (rm_F S j) lt (pq_mk S.2.1 (S.2.2.1 j) (S.2.2.2 j)) kind)))), .val (.int (nI kind)), .val (.int (nI b0)), .val (.int (nI k)), .val (.int (nI 0))]) d_R_formatOf_117 rfl rfl rfl rfl ?_
                  refine mp_iinc X 122 (L' := [.val (.ref (G.1 + 26)), .val (.int (nI j)), .val (.int (nI lt)), .val (.int (nI ((rm_sm S.2.1 (rm_F S j) lt (pq_mk S.2.1 (S.2.2.1 j) (S.2.2.2 j)) kind)))), .val (.int (nI kind)), .val (.int (nI b0)), .val (.int (nI (k + 1))), .val (.int (nI 0))]) (v := nI (k + 1)) d_R_formatOf_119 rfl rfl (nI_1 _) rfl ?_
                  refine mp_goto X 17 d_R_formatOf_122 (by decide) ?_
                  exact ihm (k + 1) (some b0) _ rfl (by omega) (by rw [pq_best_keep (show rm_cm S j lt kind k = false by unfold rm_cm; rw [hkw]; rfl), ← hr])
                · exact absurd rfl q3
              · have hkw : pq_kw (S.2.2.1 j) (S.2.2.2 j) k = true := by rcases kb1 with ⟨h1, h2⟩ | ⟨h1, h2⟩; exact h2; omega
                refine mp_aload_n X 42 d_R_formatOf_41 rfl rfl rfl ?_
                refine mp_getf (v := .ref (G.1 + 27)) X 45 lk_R_7_R d_R_formatOf_42 rfl (hK.sz (by decide)) hK.ob hK.r_sort ?_
                refine mp_iload X 47 d_R_formatOf_45 rfl rfl ?_
                refine mp_iald (v := .int (nI ((pq_so S.2.1 k)))) X 48 (k) d_R_formatOf_47 rfl (hK.sz (by decide)) hK.k_sort rfl (by omega) (by decide) t1 ?_
                refine mp_iconst X 49 (v := nI 2) d_R_formatOf_48 rfl (by decide) ?_
                refine mp_Nne X 70 52 d_R_formatOf_49 (by decide) rfl (by omega) (by omega) (fun q4 => ?_) (fun q4 => ?_)
                · refine mp_iconst X 71 (v := nI 0) d_R_formatOf_70 rfl (by decide) ?_
                  refine mp_istore X 73 (L' := [.val (.ref (G.1 + 26)), .val (.int (nI j)), .val (.int (nI lt)), .val (.int (nI ((rm_sm S.2.1 (rm_F S j) lt (pq_mk S.2.1 (S.2.2.1 j) (S.2.2.2 j)) kind)))), .val (.int (nI kind)), .val (.int (nI b0)), .val (.int (nI k)), .val (.int (nI 0))]) d_R_formatOf_71 rfl rfl hz rfl ?_
                  refine mp_iload X 75 d_R_formatOf_73 rfl rfl ?_
                  refine mp_Zeq X 115 78 d_R_formatOf_75 (by decide) rfl (by omega) (fun q5 => ?_) (fun q5 => ?_)
                  · refine mp_iload X 117 d_R_formatOf_115 rfl rfl ?_
                    refine mp_istore X 119 (L' := [.val (.ref (G.1 + 26)), .val (.int (nI j)), .val (.int (nI lt)), .val (.int (nI ((rm_sm S.2.1 (rm_F S j) lt (pq_mk S.2.1 (S.2.2.1 j) (S.2.2.2 j)) kind)))), .val (.int (nI kind)), .val (.int (nI b0)), .val (.int (nI k)), .val (.int (nI 0))]) d_R_formatOf_117 rfl rfl rfl rfl ?_
                    refine mp_iinc X 122 (L' := [.val (.ref (G.1 + 26)), .val (.int (nI j)), .val (.int (nI lt)), .val (.int (nI ((rm_sm S.2.1 (rm_F S j) lt (pq_mk S.2.1 (S.2.2.1 j) (S.2.2.2 j)) kind)))), .val (.int (nI kind)), .val (.int (nI b0)), .val (.int (nI (k + 1))), .val (.int (nI 0))]) (v := nI (k + 1)) d_R_formatOf_119 rfl rfl (nI_1 _) rfl ?_
                    refine mp_goto X 17 d_R_formatOf_122 (by decide) ?_
                    exact ihm (k + 1) (some b0) _ rfl (by omega) (by rw [pq_best_keep (show rm_cm S j lt kind k = false by unfold rm_cm; simp [q4]), ← hr])
                  · exact absurd rfl q5
                · refine mp_aload_n X 53 d_R_formatOf_52 rfl rfl rfl ?_
                  refine mp_getf (v := .ref (G.1 + 31)) X 56 lk_R_22_R d_R_formatOf_53 rfl (hK.sz (by decide)) hK.ob hK.r_what ?_
                  refine mp_iload X 58 d_R_formatOf_56 rfl rfl ?_
                  refine mp_iald (v := .int (nI ((pq_wh S.2.1 k)))) X 59 (k) d_R_formatOf_58 rfl (hK.sz (by decide)) hK.k_what rfl (by omega) (by decide) t5 ?_
                  refine mp_iconst X 60 (v := nI 2) d_R_formatOf_59 rfl (by decide) ?_
                  refine mp_idiv X 61 d_R_formatOf_60 rfl (by decide) ?_
                  have e6 : (nI ((pq_wh S.2.1 k))) / nI 2 = nI ((pq_wh S.2.1 k) / 2) := pk_div (by omega) (by decide) (by decide)
                  rw [e6]
                  refine mp_iload X 63 d_R_formatOf_61 rfl rfl ?_
                  refine mp_Nne X 70 66 d_R_formatOf_63 (by decide) rfl (by omega) (by omega) (fun q7 => ?_) (fun q7 => ?_)
                  · refine mp_iconst X 71 (v := nI 0) d_R_formatOf_70 rfl (by decide) ?_
                    refine mp_istore X 73 (L' := [.val (.ref (G.1 + 26)), .val (.int (nI j)), .val (.int (nI lt)), .val (.int (nI ((rm_sm S.2.1 (rm_F S j) lt (pq_mk S.2.1 (S.2.2.1 j) (S.2.2.2 j)) kind)))), .val (.int (nI kind)), .val (.int (nI b0)), .val (.int (nI k)), .val (.int (nI 0))]) d_R_formatOf_71 rfl rfl hz rfl ?_
                    refine mp_iload X 75 d_R_formatOf_73 rfl rfl ?_
                    refine mp_Zeq X 115 78 d_R_formatOf_75 (by decide) rfl (by omega) (fun q8 => ?_) (fun q8 => ?_)
                    · refine mp_iload X 117 d_R_formatOf_115 rfl rfl ?_
                      refine mp_istore X 119 (L' := [.val (.ref (G.1 + 26)), .val (.int (nI j)), .val (.int (nI lt)), .val (.int (nI ((rm_sm S.2.1 (rm_F S j) lt (pq_mk S.2.1 (S.2.2.1 j) (S.2.2.2 j)) kind)))), .val (.int (nI kind)), .val (.int (nI b0)), .val (.int (nI k)), .val (.int (nI 0))]) d_R_formatOf_117 rfl rfl rfl rfl ?_
                      refine mp_iinc X 122 (L' := [.val (.ref (G.1 + 26)), .val (.int (nI j)), .val (.int (nI lt)), .val (.int (nI ((rm_sm S.2.1 (rm_F S j) lt (pq_mk S.2.1 (S.2.2.1 j) (S.2.2.2 j)) kind)))), .val (.int (nI kind)), .val (.int (nI b0)), .val (.int (nI (k + 1))), .val (.int (nI 0))]) (v := nI (k + 1)) d_R_formatOf_119 rfl rfl (nI_1 _) rfl ?_
                      refine mp_goto X 17 d_R_formatOf_122 (by decide) ?_
                      exact ihm (k + 1) (some b0) _ rfl (by omega) (by rw [pq_best_keep (show rm_cm S j lt kind k = false by unfold rm_cm; simp [q7]), ← hr])
                    · exact absurd rfl q8
                  · refine mp_iconst X 67 (v := nI 1) d_R_formatOf_66 rfl (by decide) ?_
                    refine mp_goto X 71 d_R_formatOf_67 (by decide) ?_
                    refine mp_istore X 73 (L' := [.val (.ref (G.1 + 26)), .val (.int (nI j)), .val (.int (nI lt)), .val (.int (nI ((rm_sm S.2.1 (rm_F S j) lt (pq_mk S.2.1 (S.2.2.1 j) (S.2.2.2 j)) kind)))), .val (.int (nI kind)), .val (.int (nI b0)), .val (.int (nI k)), .val (.int (nI 1))]) d_R_formatOf_71 rfl rfl hz rfl ?_
                    refine mp_iload X 75 d_R_formatOf_73 rfl rfl ?_
                    refine mp_Zeq X 115 78 d_R_formatOf_75 (by decide) rfl (by omega) (fun q9 => ?_) (fun q9 => ?_)
                    · exact absurd q9 (by decide)
                    · refine mp_aload_n X 79 d_R_formatOf_78 rfl rfl rfl ?_
                      refine mp_iload X 81 d_R_formatOf_79 rfl rfl ?_
                      refine mp_iload_n X 82 d_R_formatOf_81 rfl rfl rfl ?_
                      obtain ⟨cb, cb1, hcb⟩ : ∃ cb : Nat, (cb = 1 ∧ pq_cv S.2.1 (rm_F S j) k lt = true ∨ cb = 0 ∧ pq_cv S.2.1 (rm_F S j) k lt = false) ∧ rm_b (pq_cv S.2.1 (rm_F S j) k lt) = nI cb := by
                        cases hcv : pq_cv S.2.1 (rm_F S j) k lt with
                        | true => exact ⟨1, Or.inl ⟨rfl, rfl⟩, rfl⟩
                        | false => exact ⟨0, Or.inr ⟨rfl, rfl⟩, rfl⟩
                      refine mp_callE X mp_Ts_ok 85 (rest := []) (st2 := [.int (nI cb)]) (k_R_covers (mm := k) (lt := lt) _ hK hS hV hok hj hkM hkw q4 hlt) Y_R_covers in_R (mp_IV X (q := (nR_R, nT_R, 17)) d_R_formatOf_82 Y_R_covers ml_R_72 im_R_covers se_R_covers (by decide) rfl (by decide) (by show _ = some 2; decide) (hK.sz (by decide)) hK.ob) rfl (by decide) (by decide) (by decide) (by decide) rfl (by decide) (by rw [hcb]; rfl) ?_
                      refine mp_Zeq X 115 88 d_R_formatOf_85 (by decide) rfl (by omega) (fun q10 => ?_) (fun q10 => ?_)
                      · have hcv : pq_cv S.2.1 (rm_F S j) k lt = false := by rcases cb1 with ⟨a1, a2⟩ | ⟨a1, a2⟩; omega; exact a2
                        refine mp_iload X 117 d_R_formatOf_115 rfl rfl ?_
                        refine mp_istore X 119 (L' := [.val (.ref (G.1 + 26)), .val (.int (nI j)), .val (.int (nI lt)), .val (.int (nI ((rm_sm S.2.1 (rm_F S j) lt (pq_mk S.2.1 (S.2.2.1 j) (S.2.2.2 j)) kind)))), .val (.int (nI kind)), .val (.int (nI b0)), .val (.int (nI k)), .val (.int (nI 1))]) d_R_formatOf_117 rfl rfl rfl rfl ?_
                        refine mp_iinc X 122 (L' := [.val (.ref (G.1 + 26)), .val (.int (nI j)), .val (.int (nI lt)), .val (.int (nI ((rm_sm S.2.1 (rm_F S j) lt (pq_mk S.2.1 (S.2.2.1 j) (S.2.2.2 j)) kind)))), .val (.int (nI kind)), .val (.int (nI b0)), .val (.int (nI (k + 1))), .val (.int (nI 1))]) (v := nI (k + 1)) d_R_formatOf_119 rfl rfl (nI_1 _) rfl ?_
                        refine mp_goto X 17 d_R_formatOf_122 (by decide) ?_
                        exact ihm (k + 1) (some b0) _ rfl (by omega) (by rw [pq_best_keep (show rm_cm S j lt kind k = false by unfold rm_cm; rw [hcv]; simp), ← hr])
                      · have hcv : pq_cv S.2.1 (rm_F S j) k lt = true := by rcases cb1 with ⟨a1, a2⟩ | ⟨a1, a2⟩; exact a2; omega
                        refine mp_iload X 90 d_R_formatOf_88 rfl rfl ?_
                        refine mp_Zlt X 110 93 d_R_formatOf_90 (by decide) rfl (by omega) (fun q11 => ?_) (fun q11 => ?_)
                        · exact q11.elim
                        · refine mp_aload_n X 94 d_R_formatOf_93 rfl rfl rfl ?_
                          refine mp_getf (v := .ref (G.1 + 28)) X 97 lk_R_13_R d_R_formatOf_94 rfl (hK.sz (by decide)) hK.ob hK.r_ids ?_
                          refine mp_iload X 99 d_R_formatOf_97 rfl rfl ?_
                          refine mp_iald (v := .int (nI ((pq_id S.2.1 k)))) X 100 (k) d_R_formatOf_99 rfl (hK.sz (by decide)) hK.k_ids rfl (by omega) (by decide) t2 ?_
                          refine mp_aload_n X 101 d_R_formatOf_100 rfl rfl rfl ?_
                          refine mp_getf (v := .ref (G.1 + 28)) X 104 lk_R_13_R d_R_formatOf_101 rfl (hK.sz (by decide)) hK.ob hK.r_ids ?_
                          refine mp_iload X 106 d_R_formatOf_104 rfl rfl ?_
                          refine mp_iald (v := .int (nI ((pq_id S.2.1 b0)))) X 107 (b0) d_R_formatOf_106 rfl (hK.sz (by decide)) hK.k_ids rfl (by omega) (by decide) tb ?_
                          refine mp_Nle X 115 110 d_R_formatOf_107 (by decide) rfl (by omega) (by omega) (fun q12 => ?_) (fun q12 => ?_)
                          · refine mp_iload X 117 d_R_formatOf_115 rfl rfl ?_
                            refine mp_istore X 119 (L' := [.val (.ref (G.1 + 26)), .val (.int (nI j)), .val (.int (nI lt)), .val (.int (nI ((rm_sm S.2.1 (rm_F S j) lt (pq_mk S.2.1 (S.2.2.1 j) (S.2.2.2 j)) kind)))), .val (.int (nI kind)), .val (.int (nI b0)), .val (.int (nI k)), .val (.int (nI 1))]) d_R_formatOf_117 rfl rfl rfl rfl ?_
                            refine mp_iinc X 122 (L' := [.val (.ref (G.1 + 26)), .val (.int (nI j)), .val (.int (nI lt)), .val (.int (nI ((rm_sm S.2.1 (rm_F S j) lt (pq_mk S.2.1 (S.2.2.1 j) (S.2.2.2 j)) kind)))), .val (.int (nI kind)), .val (.int (nI b0)), .val (.int (nI (k + 1))), .val (.int (nI 1))]) (v := nI (k + 1)) d_R_formatOf_119 rfl rfl (nI_1 _) rfl ?_
                            refine mp_goto X 17 d_R_formatOf_122 (by decide) ?_
                            have hct : rm_cm S j lt kind k = true := by unfold rm_cm; rw [hkw, hcv, q4, q7]; simp
                            exact ihm (k + 1) (some b0) _ rfl (by omega) (by rw [pq_best_no hr.symm q12])
                          · refine mp_iload X 112 d_R_formatOf_110 rfl rfl ?_
                            refine mp_goto X 117 d_R_formatOf_112 (by decide) ?_
                            refine mp_istore X 119 (L' := [.val (.ref (G.1 + 26)), .val (.int (nI j)), .val (.int (nI lt)), .val (.int (nI ((rm_sm S.2.1 (rm_F S j) lt (pq_mk S.2.1 (S.2.2.1 j) (S.2.2.2 j)) kind)))), .val (.int (nI kind)), .val (.int (nI k)), .val (.int (nI k)), .val (.int (nI 1))]) d_R_formatOf_117 rfl rfl rfl rfl ?_
                            refine mp_iinc X 122 (L' := [.val (.ref (G.1 + 26)), .val (.int (nI j)), .val (.int (nI lt)), .val (.int (nI ((rm_sm S.2.1 (rm_F S j) lt (pq_mk S.2.1 (S.2.2.1 j) (S.2.2.2 j)) kind)))), .val (.int (nI kind)), .val (.int (nI k)), .val (.int (nI (k + 1))), .val (.int (nI 1))]) (v := nI (k + 1)) d_R_formatOf_119 rfl rfl (nI_1 _) rfl ?_
                            refine mp_goto X 17 d_R_formatOf_122 (by decide) ?_
                            have hct : rm_cm S j lt kind k = true := by unfold rm_cm; rw [hkw, hcv, q4, q7]; simp
                            exact ihm (k + 1) (some k) _ rfl (by omega) (by rw [pq_best_up hct hr.symm q12])
      refine mp_iload X 7 d_R_formatOf_5 rfl rfl ?_
      refine mp_iconst X 8 (v := nI 4) d_R_formatOf_7 rfl (by decide) ?_
      refine mp_Nge X 160 11 d_R_formatOf_8 (by decide) rfl (by omega) (by omega) (fun q1 => ?_) (fun q1 => ?_)
      · omega
      · refine mp_iconst X 12 (v := -1) d_R_formatOf_11 rfl (by decide) ?_
        refine mp_istore X 14 (L' := [.val (.ref (G.1 + 26)), .val (.int (nI j)), .val (.int (nI lt)), .val (.int (nI ((rm_sm S.2.1 (rm_F S j) lt (pq_mk S.2.1 (S.2.2.1 j) (S.2.2.2 j)) kind)))), .val (.int (nI kind)), .val (.int (-1)), z6, z7]) d_R_formatOf_12 rfl rfl hz5 rfl ?_
        refine mp_iconst X 15 (v := nI 0) d_R_formatOf_14 rfl (by decide) ?_
        refine mp_istore X 17 (L' := [.val (.ref (G.1 + 26)), .val (.int (nI j)), .val (.int (nI lt)), .val (.int (nI ((rm_sm S.2.1 (rm_F S j) lt (pq_mk S.2.1 (S.2.2.1 j) (S.2.2.2 j)) kind)))), .val (.int (nI kind)), .val (.int (-1)), .val (.int (nI 0)), z7]) d_R_formatOf_15 rfl rfl hz6 rfl ?_
        exact hin S.1 0 none z7 hz7 (by omega) rfl
  refine mp_eq rfl (L2 := [.val (.ref (G.1 + 26)), .val (.int (nI j)), .val (.int (nI lt)), .unset, .unset, .unset, .unset, .unset]) rfl rfl ?_
  refine mp_iconst X 1 (v := nI 0) d_R_formatOf_0 rfl (by decide) ?_
  refine mp_istore_n X 2 (L' := [.val (.ref (G.1 + 26)), .val (.int (nI j)), .val (.int (nI lt)), .val (.int (nI 0)), .unset, .unset, .unset, .unset]) d_R_formatOf_1 rfl rfl rfl rfl rfl ?_
  refine mp_iconst X 3 (v := nI 0) d_R_formatOf_2 rfl (by decide) ?_
  refine mp_istore X 5 (L' := [.val (.ref (G.1 + 26)), .val (.int (nI j)), .val (.int (nI lt)), .val (.int (nI 0)), .val (.int (nI 0)), .unset, .unset, .unset]) d_R_formatOf_3 rfl rfl rfl rfl ?_
  exact hout 4 0 .unset .unset .unset rfl rfl rfl (by omega)
end
section
/-! The reference: greatest, learn, make (rows laid by program). -/
theorem rm_tm {M : Nat} {O : pq_O} (hw : pq_wf M O) {k : Nat} (hk : k < M) : pq_id O k / 4 = pq_tm O k := by
  have := hw.2.2.2.1 k hk
  unfold pq_id
  omega
theorem rm_gm_bd {M : Nat} {O : pq_O} {kn : Nat → Nat} {c : Nat} (hw : pq_wf M O) (hM : M ≤ 90) (hk : ∀ i, i < c → kn i < M) (n : Nat) : rm_gm O kn c n ≤ 90 := by
  refine Nat.le_trans (rm_gm_le O kn c n) (pq_mx_le c fun i hi => ?_)
  have := hw.2.2.2.1 (kn i) (hk i hi)
  have := hk i hi
  omega
set_option maxRecDepth 100000 in
set_option maxHeartbeats 4000000 in
theorem k_R_greatest (l : Launch) {G : mp_G} {h : mp_H} {S : pq_S} {j : Nat} (hK : rm_K G h) (hS : rm_S h S) (hok : pq_ok S) (hj : j < 3) :
    mp_M G mp_Ts l y_R_greatest 0 0 0 [.ref (G.1 + 26), .int (nI j)] h (fun v h' => h' = h ∧ v = some (.int (nI (pq_mx S.2.1 (S.2.2.1 j) (S.2.2.2 j))))) (fun _ _ => False) := by
  have hM : S.1 ≤ 90 := hok.1
  have hw := hok.2.1
  have s1 := hS.1
  have s2 := hS.2.1
  obtain ⟨-, -, s6⟩ := hS.2.2 j hj
  refine mp_enter (by decide) Y_R_greatest fun E hl X => ?_
  have hloop : ∀ (n k : Nat), k + n = S.1 → mp_W G E h 0 0 (mp_Q G E 0 0 (fun v h' => h' = h ∧ v = some (.int (nI (pq_mx S.2.1 (S.2.2.1 j) (S.2.2.2 j))))) (fun _ _ => False)) 4 [.val (.ref (G.1 + 26)), .val (.int (nI j)), .val (.int (nI (rm_gm S.2.1 (S.2.2.1 j) (S.2.2.2 j) k))), .val (.int (nI k))] [] := by
    intro n
    induction n with
    | zero =>
      intro k hkn
      have hk : k = S.1 := by omega
      subst hk
      refine mp_iload_n X 5 d_R_greatest_4 rfl rfl rfl ?_
      refine mp_aload_n X 6 d_R_greatest_5 rfl rfl rfl ?_
      refine mp_getf (v := .int (nI (S.1))) X 9 lk_R_55_R d_R_greatest_6 rfl (hK.sz (by decide)) hK.ob s1 ?_
      refine mp_Nge X 57 12 d_R_greatest_9 (by decide) rfl (by omega) (by omega) (fun q1 => ?_) (fun q1 => ?_)
      · refine mp_iload_n X 58 d_R_greatest_57 rfl rfl rfl ?_
        exact mp_iret X d_R_greatest_58 rfl rfl (by decide) (by decide) ⟨rfl, by rw [rm_gm_eq (hok.2.2.1 j hj).1]⟩
      · omega
    | succ n ih =>
      intro k hkn
      have hkM : k < S.1 := by omega
      obtain ⟨t1, t2, t3, t4, t5, t6⟩ := s2 k hkM
      have hidk := pq_id_lt hw hM hkM
      have htm := rm_tm hw hkM
      have hgb := rm_gm_bd hw hM (hok.2.2.1 j hj).1 k
      have htk := (hw.2.2.2.1 k hkM).2.1
      have s_kb := s6 k (by omega)
      refine mp_iload_n X 5 d_R_greatest_4 rfl rfl rfl ?_
      refine mp_aload_n X 6 d_R_greatest_5 rfl rfl rfl ?_
      refine mp_getf (v := .int (nI (S.1))) X 9 lk_R_55_R d_R_greatest_6 rfl (hK.sz (by decide)) hK.ob s1 ?_
      refine mp_Nge X 57 12 d_R_greatest_9 (by decide) rfl (by omega) (by omega) (fun q1 => ?_) (fun q1 => ?_)
      · omega
      · obtain ⟨kb, kb1, hkb⟩ : ∃ kb : Nat, (kb = 1 ∧ pq_kw (S.2.2.1 j) (S.2.2.2 j) k = true ∨ kb = 0 ∧ pq_kw (S.2.2.1 j) (S.2.2.2 j) k = false) ∧ h.2.1 34 (90 * j + k) = .int (nI kb) := by
          cases hkw : pq_kw (S.2.2.1 j) (S.2.2.2 j) k with
          | true => rw [hkw] at s_kb; exact ⟨1, Or.inl ⟨rfl, rfl⟩, s_kb⟩
          | false => rw [hkw] at s_kb; exact ⟨0, Or.inr ⟨rfl, rfl⟩, s_kb⟩
        have kbb : kb < 2 := by omega
        refine mp_aload_n X 13 d_R_greatest_12 rfl rfl rfl ?_
        refine mp_getf (v := .ref (G.1 + 34)) X 16 lk_R_32_R d_R_greatest_13 rfl (hK.sz (by decide)) hK.ob hK.r_knows ?_
        refine mp_bipush X 18 (v := nI 90) d_R_greatest_16 rfl (by decide) ?_
        refine mp_iload_n X 19 d_R_greatest_18 rfl rfl rfl ?_
        refine mp_imul X 20 d_R_greatest_19 rfl ?_
        rw [pk_mul]
        refine mp_iload_n X 21 d_R_greatest_20 rfl rfl rfl ?_
        refine mp_iadd X 22 d_R_greatest_21 rfl ?_
        rw [nI_add]
        refine mp_zald (v := .int (nI kb)) X 23 (90 * j + k) d_R_greatest_22 rfl (hK.sz (by decide)) hK.k_knows rfl (by omega) (by decide) hkb ?_
        refine mp_Zeq X 49 26 d_R_greatest_23 (by decide) rfl (by omega) (fun q2 => ?_) (fun q2 => ?_)
        · have hkw : pq_kw (S.2.2.1 j) (S.2.2.2 j) k = false := by rcases kb1 with ⟨h1, h2⟩ | ⟨h1, h2⟩; omega; exact h2
          refine mp_iload_n X 50 d_R_greatest_49 rfl rfl rfl ?_
          refine mp_istore_n X 51 (L' := [.val (.ref (G.1 + 26)), .val (.int (nI j)), .val (.int (nI ((rm_gm S.2.1 (S.2.2.1 j) (S.2.2.2 j) k)))), .val (.int (nI k))]) d_R_greatest_50 rfl rfl rfl rfl rfl ?_
          refine mp_iinc X 54 (L' := [.val (.ref (G.1 + 26)), .val (.int (nI j)), .val (.int (nI ((rm_gm S.2.1 (S.2.2.1 j) (S.2.2.2 j) k)))), .val (.int (nI (k + 1)))]) (v := nI (k + 1)) d_R_greatest_51 rfl rfl (nI_1 _) rfl ?_
          refine mp_goto X 4 d_R_greatest_54 (by decide) ?_
          have eg : (rm_gm S.2.1 (S.2.2.1 j) (S.2.2.2 j) (k + 1)) = (rm_gm S.2.1 (S.2.2.1 j) (S.2.2.2 j) k) := by
            show (if _ then _ else _) = _
            rw [if_neg (fun z => by rw [hkw] at z; cases z.1)]
          have hg := ih (k + 1) (by omega)
          rw [eg] at hg
          exact hg
        · have hkw : pq_kw (S.2.2.1 j) (S.2.2.2 j) k = true := by rcases kb1 with ⟨h1, h2⟩ | ⟨h1, h2⟩; exact h2; omega
          refine mp_aload_n X 27 d_R_greatest_26 rfl rfl rfl ?_
          refine mp_getf (v := .ref (G.1 + 28)) X 30 lk_R_13_R d_R_greatest_27 rfl (hK.sz (by decide)) hK.ob hK.r_ids ?_
          refine mp_iload_n X 31 d_R_greatest_30 rfl rfl rfl ?_
          refine mp_iald (v := .int (nI ((pq_id S.2.1 k)))) X 32 (k) d_R_greatest_31 rfl (hK.sz (by decide)) hK.k_ids rfl (by omega) (by decide) t2 ?_
          refine mp_iconst X 33 (v := nI 4) d_R_greatest_32 rfl (by decide) ?_
          refine mp_idiv X 34 d_R_greatest_33 rfl (by decide) ?_
          have e3 : (nI ((pq_id S.2.1 k))) / nI 4 = nI (pq_tm S.2.1 k) := by rw [pk_div (by omega) (by decide) (by decide), htm]
          rw [e3]
          refine mp_iload_n X 35 d_R_greatest_34 rfl rfl rfl ?_
          refine mp_Nle X 49 38 d_R_greatest_35 (by decide) rfl (by omega) (by omega) (fun q4 => ?_) (fun q4 => ?_)
          · refine mp_iload_n X 50 d_R_greatest_49 rfl rfl rfl ?_
            refine mp_istore_n X 51 (L' := [.val (.ref (G.1 + 26)), .val (.int (nI j)), .val (.int (nI ((rm_gm S.2.1 (S.2.2.1 j) (S.2.2.2 j) k)))), .val (.int (nI k))]) d_R_greatest_50 rfl rfl rfl rfl rfl ?_
            refine mp_iinc X 54 (L' := [.val (.ref (G.1 + 26)), .val (.int (nI j)), .val (.int (nI ((rm_gm S.2.1 (S.2.2.1 j) (S.2.2.2 j) k)))), .val (.int (nI (k + 1)))]) (v := nI (k + 1)) d_R_greatest_51 rfl rfl (nI_1 _) rfl ?_
            refine mp_goto X 4 d_R_greatest_54 (by decide) ?_
            have eg : (rm_gm S.2.1 (S.2.2.1 j) (S.2.2.2 j) (k + 1)) = (rm_gm S.2.1 (S.2.2.1 j) (S.2.2.2 j) k) := by
              show (if _ then _ else _) = _
              rw [if_neg (fun z => by have := z.2; omega)]
            have hg := ih (k + 1) (by omega)
            rw [eg] at hg
            exact hg
          · refine mp_aload_n X 39 d_R_greatest_38 rfl rfl rfl ?_
            refine mp_getf (v := .ref (G.1 + 28)) X 42 lk_R_13_R d_R_greatest_39 rfl (hK.sz (by decide)) hK.ob hK.r_ids ?_
            refine mp_iload_n X 43 d_R_greatest_42 rfl rfl rfl ?_
            refine mp_iald (v := .int (nI ((pq_id S.2.1 k)))) X 44 (k) d_R_greatest_43 rfl (hK.sz (by decide)) hK.k_ids rfl (by omega) (by decide) t2 ?_
            refine mp_iconst X 45 (v := nI 4) d_R_greatest_44 rfl (by decide) ?_
            refine mp_idiv X 46 d_R_greatest_45 rfl (by decide) ?_
            have e5 : (nI ((pq_id S.2.1 k))) / nI 4 = nI (pq_tm S.2.1 k) := by rw [pk_div (by omega) (by decide) (by decide), htm]
            rw [e5]
            refine mp_goto X 50 d_R_greatest_46 (by decide) ?_
            refine mp_istore_n X 51 (L' := [.val (.ref (G.1 + 26)), .val (.int (nI j)), .val (.int (nI (pq_tm S.2.1 k))), .val (.int (nI k))]) d_R_greatest_50 rfl rfl rfl rfl rfl ?_
            refine mp_iinc X 54 (L' := [.val (.ref (G.1 + 26)), .val (.int (nI j)), .val (.int (nI (pq_tm S.2.1 k))), .val (.int (nI (k + 1)))]) (v := nI (k + 1)) d_R_greatest_51 rfl rfl (nI_1 _) rfl ?_
            refine mp_goto X 4 d_R_greatest_54 (by decide) ?_
            have eg : (rm_gm S.2.1 (S.2.2.1 j) (S.2.2.2 j) (k + 1)) = pq_tm S.2.1 k := by
              show (if _ then _ else _) = _
              rw [if_pos ⟨hkw, q4⟩]
            have hg := ih (k + 1) (by omega)
            rw [eg] at hg
            exact hg
  refine mp_eq rfl (L2 := [.val (.ref (G.1 + 26)), .val (.int (nI j)), .unset, .unset]) rfl rfl ?_
  refine mp_iconst X 1 (v := nI 0) d_R_greatest_0 rfl (by decide) ?_
  refine mp_istore_n X 2 (L' := [.val (.ref (G.1 + 26)), .val (.int (nI j)), .val (.int (nI 0)), .unset]) d_R_greatest_1 rfl rfl rfl rfl rfl ?_
  refine mp_iconst X 3 (v := nI 0) d_R_greatest_2 rfl (by decide) ?_
  refine mp_istore_n X 4 (L' := [.val (.ref (G.1 + 26)), .val (.int (nI j)), .val (.int (nI 0)), .val (.int (nI 0))]) d_R_greatest_3 rfl rfl rfl rfl rfl ?_
  exact hloop S.1 0 (by omega)
def rm_L (o i : Nat) : Prop := o = 33 ∨ o = 34 ∨ o = 35
set_option maxRecDepth 100000 in
set_option maxHeartbeats 4000000 in
theorem k_R_learn (l : Launch) {G : mp_G} {h : mp_H} {S : pq_S} {j k : Nat} (hK : rm_K G h) (hS : rm_S h S) (hj : j < 3) (hk : k < 90) (hc : S.2.2.2 j < 90) (hc3 : ∀ a, a < 3 → S.2.2.2 a ≤ 90) :
    mp_M G mp_Ts l y_R_learn 0 0 0 [.ref (G.1 + 26), .int (nI j), .int (nI k)] h (fun v h' => v = none ∧ rm_S h' (pq_lrn S j k) ∧ mp_fr rm_L h h') (fun _ _ => False) := by
  have sc := (hS.2.2 j hj).1
  refine mp_enter (by decide) Y_R_learn fun E hl X => ?_
  refine mp_eq rfl (L2 := [.val (.ref (G.1 + 26)), .val (.int (nI j)), .val (.int (nI k))]) rfl rfl ?_
  refine mp_aload_n X 1 d_R_learn_0 rfl rfl rfl ?_
  refine mp_getf (v := .ref (G.1 + 33)) X 4 lk_R_29_R d_R_learn_1 rfl (hK.sz (by decide)) hK.ob hK.r_known ?_
  refine mp_bipush X 6 (v := nI 90) d_R_learn_4 rfl (by decide) ?_
  refine mp_iload_n X 7 d_R_learn_6 rfl rfl rfl ?_
  refine mp_imul X 8 d_R_learn_7 rfl ?_
  rw [pk_mul]
  refine mp_aload_n X 9 d_R_learn_8 rfl rfl rfl ?_
  refine mp_getf (v := .ref (G.1 + 35)) X 12 lk_R_36_R d_R_learn_9 rfl (hK.sz (by decide)) hK.ob hK.r_count ?_
  refine mp_iload_n X 13 d_R_learn_12 rfl rfl rfl ?_
  refine mp_iald (v := .int (nI ((S.2.2.2 j)))) X 14 (j) d_R_learn_13 rfl (hK.sz (by decide)) hK.k_count rfl (by omega) (by decide) sc ?_
  refine mp_iadd X 15 d_R_learn_14 rfl ?_
  rw [nI_add]
  refine mp_iload_n X 16 d_R_learn_15 rfl rfl rfl ?_
  refine mp_iast X 17 (90 * j + S.2.2.2 j) d_R_learn_16 rfl (hK.sz (by decide)) hK.k_known rfl (by omega) (by decide) ?_
  obtain ⟨h2, eh2⟩ : ∃ z, z = mp_set h 33 (90 * j + S.2.2.2 j) (.int (nI k)) := ⟨_, rfl⟩
  rw [← eh2]
  have rh2 : ∀ a b, h2.2.1 a b = if a = 33 ∧ b = 90 * j + S.2.2.2 j then .int (nI k) else h.2.1 a b := by intro a b; rw [eh2]; rfl
  have hK2 : rm_K G h2 := by rw [eh2]; exact hK.st (Or.inl (by decide))
  have hf2 : mp_fr rm_L h h2 := by rw [eh2]; exact mp_fr.rf.set (by unfold rm_L; omega)
  refine mp_aload_n X 18 d_R_learn_17 rfl rfl rfl ?_
  refine mp_getf (v := .ref (G.1 + 35)) X 21 lk_R_36_R d_R_learn_18 rfl (hK2.sz (by decide)) hK2.ob hK2.r_count ?_
  refine mp_iload_n X 22 d_R_learn_21 rfl rfl rfl ?_
  refine mp_dup2 X 23 d_R_learn_22 rfl rfl rfl ?_
  refine mp_iald (v := .int (nI ((S.2.2.2 j)))) X 24 (j) d_R_learn_23 rfl (hK2.sz (by decide)) hK2.k_count rfl (by omega) (by decide) (by rw [rh2, if_neg (by omega)]; exact sc) ?_
  refine mp_iconst X 25 (v := nI 1) d_R_learn_24 rfl (by decide) ?_
  refine mp_iadd X 26 d_R_learn_25 rfl ?_
  rw [nI_add]
  refine mp_iast X 27 (j) d_R_learn_26 rfl (hK2.sz (by decide)) hK2.k_count rfl (by omega) (by decide) ?_
  obtain ⟨h3, eh3⟩ : ∃ z, z = mp_set h2 35 (j) (.int (nI (S.2.2.2 j + 1))) := ⟨_, rfl⟩
  rw [← eh3]
  have rh3 : ∀ a b, h3.2.1 a b = if a = 35 ∧ b = j then .int (nI (S.2.2.2 j + 1)) else h2.2.1 a b := by intro a b; rw [eh3]; rfl
  have hK3 : rm_K G h3 := by rw [eh3]; exact hK2.st (Or.inl (by decide))
  have hf3 : mp_fr rm_L h h3 := by rw [eh3]; exact hf2.set (by unfold rm_L; omega)
  refine mp_aload_n X 28 d_R_learn_27 rfl rfl rfl ?_
  refine mp_getf (v := .ref (G.1 + 34)) X 31 lk_R_32_R d_R_learn_28 rfl (hK3.sz (by decide)) hK3.ob hK3.r_knows ?_
  refine mp_bipush X 33 (v := nI 90) d_R_learn_31 rfl (by decide) ?_
  refine mp_iload_n X 34 d_R_learn_33 rfl rfl rfl ?_
  refine mp_imul X 35 d_R_learn_34 rfl ?_
  rw [pk_mul]
  refine mp_iload_n X 36 d_R_learn_35 rfl rfl rfl ?_
  refine mp_iadd X 37 d_R_learn_36 rfl ?_
  rw [nI_add]
  refine mp_iconst X 38 (v := nI 1) d_R_learn_37 rfl (by decide) ?_
  refine mp_zast X 39 (90 * j + k) d_R_learn_38 rfl (hK3.sz (by decide)) hK3.k_knows rfl (by omega) (by decide) rfl ?_
  obtain ⟨h4, eh4⟩ : ∃ z, z = mp_set h3 34 (90 * j + k) (.int (nI 1)) := ⟨_, rfl⟩
  rw [← eh4]
  have rh4 : ∀ a b, h4.2.1 a b = if a = 34 ∧ b = 90 * j + k then .int (nI 1) else h3.2.1 a b := by intro a b; rw [eh4]; rfl
  have hK4 : rm_K G h4 := by rw [eh4]; exact hK3.st (Or.inl (by decide))
  have hf4 : mp_fr rm_L h h4 := by rw [eh4]; exact hf3.set (by unfold rm_L; omega)
  exact mp_vret X d_R_learn_39 rfl (by decide) (by decide) ⟨rfl, rm_S_lrn hj hk hc hc3 hS (fun a b => by rw [rh4, rh3, rh2]), hf4⟩
def rm_W (o i : Nat) : Prop := (o = 26 ∧ i = 1) ∨ (27 ≤ o ∧ o ≤ 31) ∨ o = 33 ∨ o = 34 ∨ o = 35
set_option maxRecDepth 100000 in
set_option maxHeartbeats 4000000 in
theorem k_R_make (l : Launch) {G : mp_G} {h : mp_H} {S : pq_S} {j so wh : Nat} {fi en : Option Nat} {le : Int32} (hK : rm_K G h) (hS : rm_S h S) (hok : pq_ok S) (hj : j < 3) (hM : S.1 < 90) (hle : so = 0 → h.2.1 32 S.1 = .int le) :
    mp_M G mp_Ts l y_R_make 1 0 0 [.ref (G.1 + 26), .int (nI j), .int (nI so), .int (rm_i fi), .int (rm_i en), .int (nI wh)] h (fun v h' => v = some (.int (nI (1 + pq_mx S.2.1 (S.2.2.1 j) (S.2.2.2 j)))) ∧ rm_S h' (pq_lrn (pq_add S (so, 1 + pq_mx S.2.1 (S.2.2.1 j) (S.2.2.2 j), j, fi, en, wh, le)) j S.1) ∧ mp_fr rm_W h h') (fun _ _ => False) := by
  have hw := hok.2.1
  have s1 := hS.1
  have hcn := pq_kn_le (hok.2.2.1 j hj)
  have hcn3 : ∀ a, a < 3 → S.2.2.2 a ≤ 90 := fun a ha => by have := pq_kn_le (hok.2.2.1 a ha); omega
  refine mp_enter (by decide) Y_R_make fun E hl X => ?_
  refine mp_eq rfl (L2 := [.val (.ref (G.1 + 26)), .val (.int (nI j)), .val (.int (nI so)), .val (.int (rm_i fi)), .val (.int (rm_i en)), .val (.int (nI wh)), .unset]) rfl rfl ?_
  refine mp_iconst X 1 (v := nI 1) d_R_make_0 rfl (by decide) ?_
  refine mp_aload_n X 2 d_R_make_1 rfl rfl rfl ?_
  refine mp_iload_n X 3 d_R_make_2 rfl rfl rfl ?_
  refine mp_callE X mp_Ts_ok 6 (rest := [.int (nI 1)]) (k_R_greatest _ hK hS hok hj) Y_R_greatest in_R (mp_IV X (q := (nR_R, nT_R, 17)) d_R_make_3 Y_R_greatest ml_R_75 im_R_greatest se_R_greatest (by decide) rfl (by decide) (by show _ = some 1; decide) (hK.sz (by decide)) hK.ob) rfl (by decide) (by decide) (by decide) (by decide) rfl (by decide) rfl ?_
  refine mp_iadd X 7 d_R_make_6 rfl ?_
  rw [nI_add]
  refine mp_istore X 9 (L' := [.val (.ref (G.1 + 26)), .val (.int (nI j)), .val (.int (nI so)), .val (.int (rm_i fi)), .val (.int (rm_i en)), .val (.int (nI wh)), .val (.int (nI (1 + (pq_mx S.2.1 (S.2.2.1 j) (S.2.2.2 j)))))]) d_R_make_7 rfl rfl rfl rfl ?_
  refine mp_aload_n X 10 d_R_make_9 rfl rfl rfl ?_
  refine mp_getf (v := .ref (G.1 + 27)) X 13 lk_R_7_R d_R_make_10 rfl (hK.sz (by decide)) hK.ob hK.r_sort ?_
  refine mp_aload_n X 14 d_R_make_13 rfl rfl rfl ?_
  refine mp_getf (v := .int (nI (S.1))) X 17 lk_R_55_R d_R_make_14 rfl (hK.sz (by decide)) hK.ob s1 ?_
  refine mp_iload_n X 18 d_R_make_17 rfl rfl rfl ?_
  refine mp_iast X 19 (S.1) d_R_make_18 rfl (hK.sz (by decide)) hK.k_sort rfl (by omega) (by decide) ?_
  obtain ⟨h2, eh2⟩ : ∃ z, z = mp_set h 27 (S.1) (.int (nI so)) := ⟨_, rfl⟩
  rw [← eh2]
  have rh2 : ∀ a b, h2.2.1 a b = if a = 27 ∧ b = S.1 then .int (nI so) else h.2.1 a b := by intro a b; rw [eh2]; rfl
  have hK2 : rm_K G h2 := by rw [eh2]; exact hK.st (Or.inl (by decide))
  have hf2 : mp_fr rm_W h h2 := by rw [eh2]; exact mp_fr.rf.set (by unfold rm_W; omega)
  refine mp_aload_n X 20 d_R_make_19 rfl rfl rfl ?_
  refine mp_getf (v := .ref (G.1 + 28)) X 23 lk_R_13_R d_R_make_20 rfl (hK2.sz (by decide)) hK2.ob hK2.r_ids ?_
  refine mp_aload_n X 24 d_R_make_23 rfl rfl rfl ?_
  refine mp_getf (v := .int (nI (S.1))) X 27 lk_R_55_R d_R_make_24 rfl (hK2.sz (by decide)) hK2.ob (by rw [rh2, if_neg (by omega)]; exact s1) ?_
  refine mp_iconst X 28 (v := nI 4) d_R_make_27 rfl (by decide) ?_
  refine mp_iload X 30 d_R_make_28 rfl rfl ?_
  refine mp_imul X 31 d_R_make_30 rfl ?_
  rw [pk_mul]
  refine mp_iload_n X 32 d_R_make_31 rfl rfl rfl ?_
  refine mp_iadd X 33 d_R_make_32 rfl ?_
  rw [nI_add]
  refine mp_iast X 34 (S.1) d_R_make_33 rfl (hK2.sz (by decide)) hK2.k_ids rfl (by omega) (by decide) ?_
  obtain ⟨h3, eh3⟩ : ∃ z, z = mp_set h2 28 (S.1) (.int (nI (4 * (1 + (pq_mx S.2.1 (S.2.2.1 j) (S.2.2.2 j))) + j))) := ⟨_, rfl⟩
  rw [← eh3]
  have rh3 : ∀ a b, h3.2.1 a b = if a = 28 ∧ b = S.1 then .int (nI (4 * (1 + (pq_mx S.2.1 (S.2.2.1 j) (S.2.2.2 j))) + j)) else h2.2.1 a b := by intro a b; rw [eh3]; rfl
  have hK3 : rm_K G h3 := by rw [eh3]; exact hK2.st (Or.inl (by decide))
  have hf3 : mp_fr rm_W h h3 := by rw [eh3]; exact hf2.set (by unfold rm_W; omega)
  refine mp_aload_n X 35 d_R_make_34 rfl rfl rfl ?_
  refine mp_getf (v := .ref (G.1 + 29)) X 38 lk_R_16_R d_R_make_35 rfl (hK3.sz (by decide)) hK3.ob hK3.r_first ?_
  refine mp_aload_n X 39 d_R_make_38 rfl rfl rfl ?_
  refine mp_getf (v := .int (nI (S.1))) X 42 lk_R_55_R d_R_make_39 rfl (hK3.sz (by decide)) hK3.ob (by rw [rh3, if_neg (by omega), rh2, if_neg (by omega)]; exact s1) ?_
  refine mp_iload_n X 43 d_R_make_42 rfl rfl rfl ?_
  refine mp_iast X 44 (S.1) d_R_make_43 rfl (hK3.sz (by decide)) hK3.k_first rfl (by omega) (by decide) ?_
  obtain ⟨h4, eh4⟩ : ∃ z, z = mp_set h3 29 (S.1) (.int (rm_i fi)) := ⟨_, rfl⟩
  rw [← eh4]
  have rh4 : ∀ a b, h4.2.1 a b = if a = 29 ∧ b = S.1 then .int (rm_i fi) else h3.2.1 a b := by intro a b; rw [eh4]; rfl
  have hK4 : rm_K G h4 := by rw [eh4]; exact hK3.st (Or.inl (by decide))
  have hf4 : mp_fr rm_W h h4 := by rw [eh4]; exact hf3.set (by unfold rm_W; omega)
  refine mp_aload_n X 45 d_R_make_44 rfl rfl rfl ?_
  refine mp_getf (v := .ref (G.1 + 30)) X 48 lk_R_19_R d_R_make_45 rfl (hK4.sz (by decide)) hK4.ob hK4.r_end ?_
  refine mp_aload_n X 49 d_R_make_48 rfl rfl rfl ?_
  refine mp_getf (v := .int (nI (S.1))) X 52 lk_R_55_R d_R_make_49 rfl (hK4.sz (by decide)) hK4.ob (by rw [rh4, if_neg (by omega), rh3, if_neg (by omega), rh2, if_neg (by omega)]; exact s1) ?_
  refine mp_iload X 54 d_R_make_52 rfl rfl ?_
  refine mp_iast X 55 (S.1) d_R_make_54 rfl (hK4.sz (by decide)) hK4.k_end rfl (by omega) (by decide) ?_
  obtain ⟨h5, eh5⟩ : ∃ z, z = mp_set h4 30 (S.1) (.int (rm_i en)) := ⟨_, rfl⟩
  rw [← eh5]
  have rh5 : ∀ a b, h5.2.1 a b = if a = 30 ∧ b = S.1 then .int (rm_i en) else h4.2.1 a b := by intro a b; rw [eh5]; rfl
  have hK5 : rm_K G h5 := by rw [eh5]; exact hK4.st (Or.inl (by decide))
  have hf5 : mp_fr rm_W h h5 := by rw [eh5]; exact hf4.set (by unfold rm_W; omega)
  refine mp_aload_n X 56 d_R_make_55 rfl rfl rfl ?_
  refine mp_getf (v := .ref (G.1 + 31)) X 59 lk_R_22_R d_R_make_56 rfl (hK5.sz (by decide)) hK5.ob hK5.r_what ?_
  refine mp_aload_n X 60 d_R_make_59 rfl rfl rfl ?_
  refine mp_getf (v := .int (nI (S.1))) X 63 lk_R_55_R d_R_make_60 rfl (hK5.sz (by decide)) hK5.ob (by rw [rh5, if_neg (by omega), rh4, if_neg (by omega), rh3, if_neg (by omega), rh2, if_neg (by omega)]; exact s1) ?_
  refine mp_iload X 65 d_R_make_63 rfl rfl ?_
  refine mp_iast X 66 (S.1) d_R_make_65 rfl (hK5.sz (by decide)) hK5.k_what rfl (by omega) (by decide) ?_
  obtain ⟨h6, eh6⟩ : ∃ z, z = mp_set h5 31 (S.1) (.int (nI wh)) := ⟨_, rfl⟩
  rw [← eh6]
  have rh6 : ∀ a b, h6.2.1 a b = if a = 31 ∧ b = S.1 then .int (nI wh) else h5.2.1 a b := by intro a b; rw [eh6]; rfl
  have hK6 : rm_K G h6 := by rw [eh6]; exact hK5.st (Or.inl (by decide))
  have hf6 : mp_fr rm_W h h6 := by rw [eh6]; exact hf5.set (by unfold rm_W; omega)
  refine mp_aload_n X 67 d_R_make_66 rfl rfl rfl ?_
  refine mp_dup X 68 d_R_make_67 rfl rfl ?_
  refine mp_getf (v := .int (nI (S.1))) X 71 lk_R_55_R d_R_make_68 rfl (hK6.sz (by decide)) hK6.ob (by rw [rh6, if_neg (by omega), rh5, if_neg (by omega), rh4, if_neg (by omega), rh3, if_neg (by omega), rh2, if_neg (by omega)]; exact s1) ?_
  refine mp_iconst X 72 (v := nI 1) d_R_make_71 rfl (by decide) ?_
  refine mp_iadd X 73 d_R_make_72 rfl ?_
  rw [nI_add]
  refine mp_putf X 76 ls_R_55_R d_R_make_73 rfl (Or.inl rfl) (hK6.sz (by decide)) hK6.ob rfl rfl ?_
  obtain ⟨h7, eh7⟩ : ∃ z, z = mp_set h6 26 (1) (.int (nI (S.1 + 1))) := ⟨_, rfl⟩
  rw [← eh7]
  have rh7 : ∀ a b, h7.2.1 a b = if a = 26 ∧ b = 1 then .int (nI (S.1 + 1)) else h6.2.1 a b := by intro a b; rw [eh7]; rfl
  have hK7 : rm_K G h7 := by rw [eh7]; exact hK6.st (Or.inr (Or.inr (Or.inl rfl)))
  have hf7 : mp_fr rm_W h h7 := by rw [eh7]; exact hf6.set (by unfold rm_W; omega)
  have hS7 : rm_S h7 (pq_add S (so, 1 + pq_mx S.2.1 (S.2.2.1 j) (S.2.2.2 j), j, fi, en, wh, le)) := rm_S_add hS hle (fun a b => by rw [rh7, rh6, rh5, rh4, rh3, rh2])
  refine mp_aload_n X 77 d_R_make_76 rfl rfl rfl ?_
  refine mp_iload_n X 78 d_R_make_77 rfl rfl rfl ?_
  refine mp_aload_n X 79 d_R_make_78 rfl rfl rfl ?_
  refine mp_getf (v := .int (nI ((S.1 + 1)))) X 82 lk_R_55_R d_R_make_79 rfl (hK7.sz (by decide)) hK7.ob (by rw [rh7, if_pos ⟨rfl, rfl⟩]) ?_
  refine mp_iconst X 83 (v := nI 1) d_R_make_82 rfl (by decide) ?_
  refine mp_isub X 84 d_R_make_83 rfl ?_
  have e1 : (nI ((S.1 + 1))) - nI 1 = nI (S.1) := by rw [pk_sub (by omega)]; rfl
  rw [e1]
  refine mp_call X mp_Ts_ok 87 (rest := []) (k_R_learn (k := S.1) _ hK7 hS7 hj (by omega) (show S.2.2.2 j < 90 by omega) hcn3) Y_R_learn in_R (mp_IV X (q := (nR_R, nT_R, 17)) d_R_make_84 Y_R_learn ml_R_79 im_R_learn se_R_learn (by decide) rfl (by decide) (by show _ = some 2; decide) (hK7.sz (by decide)) hK7.ob) rfl (by decide) (by decide) (by decide) (by decide) rfl (by decide) (fun v h8 hp => ?_) (fun x h8 q hp => hp.elim)
  obtain ⟨rfl, hS8, hf8⟩ := hp
  refine mp_eq rfl rfl (st2 := []) rfl ?_
  refine mp_iload X 89 d_R_make_87 rfl rfl ?_
  exact mp_iret X d_R_make_89 rfl rfl (by decide) (by decide) ⟨rfl, hS8, hf7.tr (hf8.mono fun o i z => by unfold rm_L at z; unfold rm_W; omega)⟩
end
section
/-! What each call answers and does: code (0: it returns), answer, state. -/
def sp_ix (n : Nat) (x : Int32) : Option Nat := if 0 ≤ x.toInt ∧ x.toInt < (n : Int) then some x.toInt.toNat else none
theorem sp_ix_of {n j : Nat} (hj : j < n) (hn : n < 2 ^ 31) : sp_ix n (nI j) = some j := by
  unfold sp_ix
  rw [nI_toInt (by omega), if_pos (by omega)]
  simp
theorem sp_ix_some {n j : Nat} {x : Int32} (h : sp_ix n x = some j) (hn : n < 2 ^ 31) : j < n ∧ x = nI j := by
  unfold sp_ix at h
  split at h
  · rename_i hc
    cases h
    refine ⟨by omega, ?_⟩
    apply Int32.toInt_inj.mp
    rw [nI_toInt (by omega)]
    omega
  · cases h
theorem sp_ix_none {n : Nat} {x : Int32} (hn : n < 2 ^ 31) (h : ∀ j, j < n → x ≠ nI j) : sp_ix n x = none := by
  cases hx : sp_ix n x with
  | none => rfl
  | some j => obtain ⟨h1, h2⟩ := sp_ix_some hx hn; exact absurd h2 (h j h1)
theorem sp_ix_neg {n : Nat} {x : Int32} (h : x < 0) : sp_ix n x = none := by
  unfold sp_ix
  rw [if_neg]
  intro hc
  have := Int32.lt_iff_toInt_lt.mp h
  have e : (0 : Int32).toInt = 0 := by decide
  omega
theorem sp_ix_big {n j : Nat} (h : n ≤ j) (hj : j < 2 ^ 31) : sp_ix n (nI j) = none := by
  unfold sp_ix
  rw [nI_toInt hj, if_neg (by omega)]
abbrev sp_R : Type := Nat × Int32 × pq_S
abbrev sp_mx (S : pq_S) (j : Nat) : Nat := pq_mx S.2.1 (S.2.2.1 j) (S.2.2.2 j)
abbrev sp_mk (S : pq_S) (j : Nat) : List Nat := pq_mk S.2.1 (S.2.2.1 j) (S.2.2.2 j)
def sp_new (S : pq_S) (j so : Nat) (fi en : Option Nat) (wh : Nat) (le : Int32) : pq_S := pq_lrn (pq_add S (so, 1 + sp_mx S j, j, fi, en, wh, le)) j S.1
abbrev sp_t (S : pq_S) (j q : Nat) : Nat := (rm_T S j).getD q 0
def sp_fm (S : pq_S) (j q : Nat) : Nat := pq_fm S.2.1 (rm_F S j) (sp_t S j q) (sp_mk S j)
def sp_write (S : pq_S) (x p c : Int32) : sp_R := match sp_ix 3 x with
  | none => (1, 0, S)
  | some j => match sp_ix ((rm_T S j).length + 1) p with
    | none => (2, 0, S)
    | some q => if S.1 = 90 then (3, 0, S) else (0, nI (1 + sp_mx S j), sp_new S j 0 (if q = 0 then none else some (sp_t S j (q - 1))) none 0 c)
def sp_erase (S : pq_S) (x p : Int32) : sp_R := match sp_ix 3 x with
  | none => (1, 0, S)
  | some j => match sp_ix (rm_T S j).length p with
    | none => (2, 0, S)
    | some q => if S.1 = 90 then (3, 0, S) else (0, pq_le S.2.1 (sp_t S j q), sp_new S j 1 (some (sp_t S j q)) none 0 0)
def sp_mark (S : pq_S) (x f t w : Int32) : sp_R := match sp_ix 3 x, sp_ix 8 w with
  | none, _ => (1, 0, S)
  | some _, none => (1, 0, S)
  | some j, some k => match sp_ix (rm_T S j).length f, sp_ix ((rm_T S j).length + 1) t with
    | none, _ => (2, 0, S)
    | some _, none => (2, 0, S)
    | some a, some b => if b ≤ a then (2, 0, S) else if S.1 = 90 then (3, 0, S) else
      (0, nI (1 + sp_mx S j), sp_new S j 2 (some (sp_t S j a)) (if 3 < k then some (sp_t S j (b - 1)) else if b < (rm_T S j).length then some (sp_t S j b) else none) k 0)
def sp_tl (S : pq_S) (a b n : Nat) : Nat → pq_S × Nat
  | 0 => (S, 0)
  | i + 1 => if (sp_tl S a b n i).2 < n ∧ pq_kw ((sp_tl S a b n i).1.2.2.1 b) ((sp_tl S a b n i).1.2.2.2 b) (S.2.2.1 a i) = false then (pq_lrn (sp_tl S a b n i).1 b (S.2.2.1 a i), (sp_tl S a b n i).2 + 1) else sp_tl S a b n i
def sp_tell (S : pq_S) (x y n : Int32) : sp_R := match sp_ix 3 x, sp_ix 3 y with
  | none, _ => (1, 0, S)
  | some _, none => (1, 0, S)
  | some a, some b => if n < 0 then (1, 0, S) else (0, nI (sp_tl S a b n.toInt.toNat (S.2.2.2 a)).2, (sp_tl S a b n.toInt.toNat (S.2.2.2 a)).1)
def sp_length (S : pq_S) (x : Int32) : sp_R := match sp_ix 3 x with
  | none => (1, 0, S)
  | some j => (0, nI (rm_T S j).length, S)
def sp_get (g : Nat → Nat → Int32) (S : pq_S) (x p : Int32) : sp_R := match sp_ix 3 x with
  | none => (1, 0, S)
  | some j => match sp_ix (rm_T S j).length p with
    | none => (2, 0, S)
    | some q => (0, g j q, S)
def sp_at (S : pq_S) : Int32 → Int32 → sp_R := sp_get (fun j q => pq_le S.2.1 (sp_t S j q)) S
def sp_format (S : pq_S) : Int32 → Int32 → sp_R := sp_get (fun j q => nI (sp_fm S j q)) S
def sp_id (S : pq_S) : Int32 → Int32 → sp_R := sp_get (fun j q => nI (pq_id S.2.1 (sp_t S j q))) S
def sp_runs (S : pq_S) (x : Int32) : sp_R := match sp_ix 3 x with
  | none => (1, 0, S)
  | some j => (0, nI (pq_ru (sp_fm S j) (rm_T S j).length), S)
def sp_run (S : pq_S) (x k w : Int32) : sp_R := match sp_ix 3 x, sp_ix 3 w with
  | none, _ => (1, 0, S)
  | some _, none => (1, 0, S)
  | some j, some v => match sp_ix (pq_ru (sp_fm S j) (rm_T S j).length) k with
    | none => (2, 0, S)
    | some r => (0, nI (if v = 0 then pq_sr (sp_fm S j) r (rm_T S j).length else if v = 1 then pq_sr (sp_fm S j) (r + 1) (rm_T S j).length - pq_sr (sp_fm S j) r (rm_T S j).length else sp_fm S j (pq_sr (sp_fm S j) r (rm_T S j).length)), S)
def sp_count (S : pq_S) (x w : Int32) : sp_R := match sp_ix 3 x, sp_ix 4 w with
  | none, _ => (1, 0, S)
  | some _, none => (1, 0, S)
  | some j, some v => (0, nI (if v = 0 then S.2.2.2 j else if v = 1 then sp_mx S j else if v = 2 then (rm_F S j).length else (sp_mk S j).length), S)
def sp_ak (S : pq_S) (a b : Nat) : Nat → Bool
  | 0 => true
  | n + 1 => sp_ak S a b n && (pq_kw (S.2.2.1 a) (S.2.2.2 a) n == pq_kw (S.2.2.1 b) (S.2.2.2 b) n)
def sp_alike (S : pq_S) (x y : Int32) : sp_R := match sp_ix 3 x, sp_ix 3 y with
  | none, _ => (1, 0, S)
  | some _, none => (1, 0, S)
  | some a, some b => (0, rm_b (sp_ak S a b S.1), S)
/-- all that the reference may write -/
def rm_A (o i : Nat) : Prop := (27 ≤ o ∧ o ≤ 39) ∨ (o = 26 ∧ (i = 0 ∨ i = 1 ∨ i = 11 ∨ i = 14))
/-- what a call of the reference comes to -/
def rm_Z (h : mp_H) (r : sp_R) (v : Option Value) (h' : mp_H) : Prop := h'.2.1 26 0 = .int (nI r.1) ∧ rm_S h' r.2.2 ∧ (∃ z, v = some (.int z) ∧ (r.1 = 0 → z = r.2.1)) ∧ mp_fr rm_A h h'
theorem rm_PA' {o i : Nat} (h : rm_P o i) : rm_A o i := by unfold rm_P at h; unfold rm_A; omega
theorem rm_QA {o i : Nat} (h : rm_Q o i) : rm_A o i := rm_PA' (rm_QP h)
theorem rm_WA {o i : Nat} (h : rm_W o i) : rm_A o i := by unfold rm_W at h; unfold rm_A; omega
theorem sp_t_mem {S : pq_S} {j q : Nat} (hq : q < (rm_T S j).length) : (rm_T S j)[q]? = some (sp_t S j q) := by
  unfold sp_t
  rw [List.getD_eq_getElem?_getD, List.getElem?_eq_getElem hq]
  rfl
theorem sp_t_row {S : pq_S} {j q : Nat} (hq : q < (rm_T S j).length) : sp_t S j q ∈ rm_F S j := by
  have h := List.mem_of_getElem? (sp_t_mem hq)
  exact (List.mem_filter.mp h).1
theorem sp_T_len {S : pq_S} {j : Nat} (hok : pq_ok S) (hj : j < 3) : (rm_T S j).length ≤ 90 := by
  have h1 : (rm_T S j).length ≤ S.2.2.2 j := pq_tx_len _ _ _
  have h2 := pq_kn_le (hok.2.2.1 j hj)
  have h3 := hok.1
  omega
theorem rm_K.frA {G : mp_G} {h h' : mp_H} (hK : rm_K G h) (hf : mp_fr rm_A h h') : rm_K G h' := hK.fr rm_A (by intro i a b c d; unfold rm_A; omega) hf
end
section
theorem mp_M.imp {G : mp_G} {Ts : List Cond} {l : Launch} {y : MethodName} {d mc ms : Nat} {as : List Value} {h : mp_H} {Pr Pr' : Option Value → mp_H → Prop} {Pt Pt' : Nat → mp_H → Prop} (hM : mp_M G Ts l y d mc ms as h Pr Pt) (h1 : ∀ v h', Pr v h' → Pr' v h') (h2 : ∀ x h', Pt x h' → Pt' x h') : mp_M G Ts l y d mc ms as h Pr' Pt' := by
  intro p e ha hc hk s m args below hf happ hP hK
  obtain ⟨n, o, b1, b2, b3, b4, h', b5, b6⟩ := hM p e ha hc hk s m args below hf happ hP hK
  refine ⟨n, o, b1, b2, b3, b4, h', b5, ?_⟩
  cases o with
  | returned v => exact h1 v h' b6
  | threw a =>
    obtain ⟨q, x, c1, c2, c3, c4, c5⟩ := b6
    exact ⟨q, x, c1, c2, c3, c4, h2 x h' c5⟩
theorem k_R_isPageT (l : Launch) {G : mp_G} {h : mp_H} {j : Nat} (hj : j < 3) : mp_M G mp_Ts l y_R_isPage 0 0 0 [.int (nI j)] h (fun v h' => h' = h ∧ v = some (.int (nI 1))) (fun _ _ => False) := by
  refine (k_R_isPage l (nI j)).imp (fun v h' hp => ⟨hp.1, ?_⟩) (fun _ _ hp => hp)
  rcases hp.2 with ⟨i, hi, h1, h2⟩ | ⟨h1, h2⟩
  · exact h2
  · exact absurd rfl (h1 j hj)
theorem k_R_isPageF (l : Launch) {G : mp_G} {h : mp_H} {x : Int32} (hx : sp_ix 3 x = none) : mp_M G mp_Ts l y_R_isPage 0 0 0 [.int x] h (fun v h' => h' = h ∧ v = some (.int (nI 0))) (fun _ _ => False) := by
  refine (k_R_isPage l x).imp (fun v h' hp => ⟨hp.1, ?_⟩) (fun _ _ hp => hp)
  rcases hp.2 with ⟨i, hi, h1, h2⟩ | ⟨h1, h2⟩
  · rw [h1, sp_ix_of hi (by decide)] at hx; cases hx
  · exact h2
theorem rm_V.st {h : mp_H} {S : pq_S} {j o i : Nat} {v : Value} (hV : rm_V h S j) (ho : o ≠ 37 ∧ o ≠ 38 ∧ (o ≠ 26 ∨ i ≠ 14)) : rm_V (mp_set h o i v) S j := by
  obtain ⟨a, b, c⟩ := hV
  exact ⟨by rw [mp_set_ne _ _ (by omega)]; exact a, fun q x hx => by rw [mp_set_ne _ _ (by omega)]; exact b q x hx, fun q x hx => by rw [mp_set_ne _ _ (by omega)]; exact c q x hx⟩
theorem rm_S.cd {h : mp_H} {S : pq_S} {v : Value} (hS : rm_S h S) : rm_S (mp_set h 26 0 v) S := hS.fr (mp_fr.rf.set (by unfold rm_P; omega))
theorem rm_S.lt {h : mp_H} {S : pq_S} {v : Value} (hS : rm_S h S) : rm_S (mp_set h 32 S.1 v) S := by
  obtain ⟨s1, s2, s3⟩ := hS
  have e0 : ∀ a b, a ≠ 32 → (mp_set h 32 S.1 v).2.1 a b = h.2.1 a b := fun a b ha => mp_set_ne _ _ (fun z => ha z.1)
  refine ⟨by rw [e0 _ _ (by decide)]; exact s1, fun k hk => ?_, fun j hj => ?_⟩
  · rw [e0 27 k (by decide), e0 28 k (by decide), e0 29 k (by decide), e0 30 k (by decide), e0 31 k (by decide), mp_set_ne _ _ (by omega)]
    exact s2 k hk
  · obtain ⟨a, b, c⟩ := s3 j hj
    exact ⟨by rw [e0 _ _ (by decide)]; exact a, fun i hi => by rw [e0 _ _ (by decide)]; exact b i hi, fun k hk => by rw [e0 _ _ (by decide)]; exact c k hk⟩
theorem rm_Z.code {h h' : mp_H} {S : pq_S} {n : Nat} {r z : Int32} (h1 : h'.2.1 26 0 = .int (nI n)) (hn : n ≠ 0) (hS : rm_S h' S) (hf : mp_fr rm_A h h') : rm_Z h (n, r, S) (some (.int z)) h' := ⟨h1, hS, ⟨z, rfl, fun e => absurd e hn⟩, hf⟩
end
section
/-! The reference: write, erase, mark (rows laid by program). -/
set_option maxRecDepth 100000 in
set_option maxHeartbeats 4000000 in
theorem k_R_write (l : Launch) {G : mp_G} {h : mp_H} {S : pq_S} {x p c : Int32} (hK1 : rm_K G h) (hS1 : rm_S h S) (hok : pq_ok S) (hcc : narrow .char (.int c) = .int c) :
    mp_M G mp_Ts l y_R_write 2 0 0 [.ref (G.1 + 26), .int x, .int p, .int c] h (rm_Z h (sp_write S x p c)) (fun _ _ => False) := by
  have hM : S.1 ≤ 90 := hok.1
  have hw := hok.2.1
  have hf1 : mp_fr rm_A h h := mp_fr.rf
  refine mp_enter (by decide) Y_R_write fun E hl X => ?_
  refine mp_eq rfl (L2 := [.val (.ref (G.1 + 26)), .val (.int x), .val (.int p), .val (.int c)]) rfl rfl ?_
  cases hx : sp_ix 3 x with
  | none =>
    have hz : sp_write S x p c = (1, 0, S) := by unfold sp_write; rw [hx]
    rw [hz]
    refine mp_aload_n X 1 d_R_write_0 rfl rfl rfl ?_
    refine mp_iload_n X 2 d_R_write_1 rfl rfl rfl ?_
    refine mp_callE X mp_Ts_ok 5 (rest := [.ref (G.1 + 26)]) (k_R_isPageF _ hx) Y_R_isPage in_R (mp_IS X d_R_write_2 Y_R_isPage ml_R_83 st_R_isPage in_R (by decide) (by show _ = some 1; decide)) rfl (by decide) (by decide) (by decide) (by decide) rfl (Nat.le_of_ble_eq_true rfl) rfl ?_
    refine mp_Zeq X 12 8 d_R_write_5 (by decide) rfl (by omega) (fun q1 => ?_) (fun q1 => ?_)
    · refine mp_iconst X 13 (v := nI 1) d_R_write_12 rfl (by decide) ?_
      refine mp_putf X 16 ls_R_51_R d_R_write_13 rfl (Or.inl rfl) (hK1.sz (by decide)) hK1.ob rfl rfl ?_
      obtain ⟨h2, eh2⟩ : ∃ z, z = mp_set h 26 (0) (.int (nI 1)) := ⟨_, rfl⟩
      rw [← eh2]
      have rh2 : ∀ a b, h2.2.1 a b = if a = 26 ∧ b = 0 then .int (nI 1) else h.2.1 a b := by intro a b; rw [eh2]; rfl
      have hK2 : rm_K G h2 := by rw [eh2]; exact hK1.st (Or.inr (Or.inl rfl))
      have hf2 : mp_fr rm_A h h2 := by rw [eh2]; exact hf1.set (by unfold rm_A; omega)
      have hS2 : rm_S h2 S := by rw [eh2]; exact hS1.cd
      have hc2 : h2.2.1 26 0 = .int (nI 1) := by rw [rh2, if_pos ⟨rfl, rfl⟩]
      refine mp_aload_n X 17 d_R_write_16 rfl rfl rfl ?_
      refine mp_getf (v := .int (nI 1)) X 20 lk_R_51_R d_R_write_17 rfl (hK2.sz (by decide)) hK2.ob hc2 ?_
      refine mp_Zle X 25 23 d_R_write_20 (by decide) rfl (by omega) (fun q2 => ?_) (fun q2 => ?_)
      · omega
      · refine mp_iconst X 24 (v := nI 0) d_R_write_23 rfl (by decide) ?_
        exact mp_iret X d_R_write_24 rfl rfl (by decide) (by decide) (rm_Z.code hc2 (by decide) hS2 hf2)
    · exact absurd rfl q1
  | some j =>
    obtain ⟨hj, rfl⟩ := sp_ix_some hx (by decide)
    have hTl := sp_T_len hok hj
    cases hp0 : sp_ix ((rm_T S j).length + 1) p with
    | none =>
      have hz : sp_write S (nI j) p c = (2, 0, S) := by unfold sp_write; rw [hx]; simp only []; rw [hp0]
      rw [hz]
      refine mp_aload_n X 1 d_R_write_0 rfl rfl rfl ?_
      refine mp_iload_n X 2 d_R_write_1 rfl rfl rfl ?_
      refine mp_callE X mp_Ts_ok 5 (rest := [.ref (G.1 + 26)]) (k_R_isPageT _ hj) Y_R_isPage in_R (mp_IS X d_R_write_2 Y_R_isPage ml_R_83 st_R_isPage in_R (by decide) (by show _ = some 1; decide)) rfl (by decide) (by decide) (by decide) (by decide) rfl (Nat.le_of_ble_eq_true rfl) rfl ?_
      refine mp_Zeq X 12 8 d_R_write_5 (by decide) rfl (by omega) (fun q1 => ?_) (fun q1 => ?_)
      · exact absurd q1 (by decide)
      · refine mp_iconst X 9 (v := nI 0) d_R_write_8 rfl (by decide) ?_
        refine mp_goto X 13 d_R_write_9 (by decide) ?_
        refine mp_putf X 16 ls_R_51_R d_R_write_13 rfl (Or.inl rfl) (hK1.sz (by decide)) hK1.ob rfl rfl ?_
        obtain ⟨h2, eh2⟩ : ∃ z, z = mp_set h 26 (0) (.int (nI 0)) := ⟨_, rfl⟩
        rw [← eh2]
        have rh2 : ∀ a b, h2.2.1 a b = if a = 26 ∧ b = 0 then .int (nI 0) else h.2.1 a b := by intro a b; rw [eh2]; rfl
        have hK2 : rm_K G h2 := by rw [eh2]; exact hK1.st (Or.inr (Or.inl rfl))
        have hf2 : mp_fr rm_A h h2 := by rw [eh2]; exact hf1.set (by unfold rm_A; omega)
        have hS2 : rm_S h2 S := by rw [eh2]; exact hS1.cd
        have hc2 : h2.2.1 26 0 = .int (nI 0) := by rw [rh2, if_pos ⟨rfl, rfl⟩]
        refine mp_aload_n X 17 d_R_write_16 rfl rfl rfl ?_
        refine mp_getf (v := .int (nI 0)) X 20 lk_R_51_R d_R_write_17 rfl (hK2.sz (by decide)) hK2.ob hc2 ?_
        refine mp_Zle X 25 23 d_R_write_20 (by decide) rfl (by omega) (fun q2 => ?_) (fun q2 => ?_)
        · refine mp_aload_n X 26 d_R_write_25 rfl rfl rfl ?_
          refine mp_iload_n X 27 d_R_write_26 rfl rfl rfl ?_
          refine mp_call X mp_Ts_ok 30 (rest := []) (k_R_look _ hK2 hS2 hok hj) Y_R_look in_R (mp_IV X (q := (nR_R, nT_R, 17)) d_R_write_27 Y_R_look ml_R_87 im_R_look se_R_look (by decide) rfl (by decide) (by show _ = some 1; decide) (hK2.sz (by decide)) hK2.ob) rfl (by decide) (by decide) (by decide) (by decide) rfl (by decide) (fun v h3 hp => ?_) (fun x h3 q hp => hp.elim)
          obtain ⟨rfl, hq3, hV3⟩ := hp
          have hK3 : rm_K G h3 := hK2.fr rm_Q (by intro i a b c d; unfold rm_Q; omega) hq3
          have hS3 : rm_S h3 S := hS2.fr (hq3.mono fun o i => rm_QP)
          have hf3 : mp_fr rm_A h h3 := hf2.tr (hq3.mono fun o i => rm_QA)
          refine mp_eq rfl rfl (st2 := []) rfl ?_
          refine mp_aload_n X 31 d_R_write_30 rfl rfl rfl ?_
          refine mp_iload_n X 32 d_R_write_31 rfl rfl rfl ?_
          refine mp_if_lt X 43 35 d_R_write_32 (by decide) rfl (fun q3 => ?_) (fun q3 => ?_)
          · refine mp_iconst X 44 (v := nI 2) d_R_write_43 rfl (by decide) ?_
            refine mp_goto X 61 d_R_write_44 (by decide) ?_
            refine mp_putf X 64 ls_R_51_R d_R_write_61 rfl (Or.inl rfl) (hK3.sz (by decide)) hK3.ob rfl rfl ?_
            obtain ⟨h4, eh4⟩ : ∃ z, z = mp_set h3 26 (0) (.int (nI 2)) := ⟨_, rfl⟩
            rw [← eh4]
            have rh4 : ∀ a b, h4.2.1 a b = if a = 26 ∧ b = 0 then .int (nI 2) else h3.2.1 a b := by intro a b; rw [eh4]; rfl
            have hK4 : rm_K G h4 := by rw [eh4]; exact hK3.st (Or.inr (Or.inl rfl))
            have hf4 : mp_fr rm_A h h4 := by rw [eh4]; exact hf3.set (by unfold rm_A; omega)
            have hS4 : rm_S h4 S := by rw [eh4]; exact hS3.cd
            have hV4 : rm_V h4 S j := by rw [eh4]; exact hV3.st (by omega)
            have hc4 : h4.2.1 26 0 = .int (nI 2) := by rw [rh4, if_pos ⟨rfl, rfl⟩]
            refine mp_aload_n X 65 d_R_write_64 rfl rfl rfl ?_
            refine mp_getf (v := .int (nI 2)) X 68 lk_R_51_R d_R_write_65 rfl (hK4.sz (by decide)) hK4.ob hc4 ?_
            refine mp_Zle X 73 71 d_R_write_68 (by decide) rfl (by omega) (fun q4 => ?_) (fun q4 => ?_)
            · omega
            · refine mp_iconst X 72 (v := nI 0) d_R_write_71 rfl (by decide) ?_
              exact mp_iret X d_R_write_72 rfl rfl (by decide) (by decide) (rm_Z.code hc4 (by decide) hS4 hf4)
          · refine mp_iload_n X 36 d_R_write_35 rfl rfl rfl ?_
            refine mp_aload_n X 37 d_R_write_36 rfl rfl rfl ?_
            refine mp_getf (v := .int (nI ((rm_T S j).length))) X 40 lk_R_61_R d_R_write_37 rfl (hK3.sz (by decide)) hK3.ob hV3.1 ?_
            refine mp_icmp_le X 47 43 d_R_write_40 (by decide) rfl (fun q5 => ?_) (fun q5 => ?_)
            · exfalso; obtain ⟨q0, hq0, rfl⟩ := nI_of q3; have := (nI_leI hq0 (by omega)).mp q5; rw [sp_ix_of (by omega) (by omega)] at hp0; cases hp0
            · refine mp_iconst X 44 (v := nI 2) d_R_write_43 rfl (by decide) ?_
              refine mp_goto X 61 d_R_write_44 (by decide) ?_
              refine mp_putf X 64 ls_R_51_R d_R_write_61 rfl (Or.inl rfl) (hK3.sz (by decide)) hK3.ob rfl rfl ?_
              obtain ⟨h4, eh4⟩ : ∃ z, z = mp_set h3 26 (0) (.int (nI 2)) := ⟨_, rfl⟩
              rw [← eh4]
              have rh4 : ∀ a b, h4.2.1 a b = if a = 26 ∧ b = 0 then .int (nI 2) else h3.2.1 a b := by intro a b; rw [eh4]; rfl
              have hK4 : rm_K G h4 := by rw [eh4]; exact hK3.st (Or.inr (Or.inl rfl))
              have hf4 : mp_fr rm_A h h4 := by rw [eh4]; exact hf3.set (by unfold rm_A; omega)
              have hS4 : rm_S h4 S := by rw [eh4]; exact hS3.cd
              have hV4 : rm_V h4 S j := by rw [eh4]; exact hV3.st (by omega)
              have hc4 : h4.2.1 26 0 = .int (nI 2) := by rw [rh4, if_pos ⟨rfl, rfl⟩]
              refine mp_aload_n X 65 d_R_write_64 rfl rfl rfl ?_
              refine mp_getf (v := .int (nI 2)) X 68 lk_R_51_R d_R_write_65 rfl (hK4.sz (by decide)) hK4.ob hc4 ?_
              refine mp_Zle X 73 71 d_R_write_68 (by decide) rfl (by omega) (fun q6 => ?_) (fun q6 => ?_)
              · omega
              · refine mp_iconst X 72 (v := nI 0) d_R_write_71 rfl (by decide) ?_
                exact mp_iret X d_R_write_72 rfl rfl (by decide) (by decide) (rm_Z.code hc4 (by decide) hS4 hf4)
        · omega
    | some q =>
      obtain ⟨hq, rfl⟩ := sp_ix_some hp0 (by omega)
      have hz : sp_write S (nI j) (nI q) c = if S.1 = 90 then (3, 0, S) else (0, nI (1 + sp_mx S j), sp_new S j 0 (if q = 0 then none else some (sp_t S j (q - 1))) none 0 c) := by unfold sp_write; rw [hx]; simp only []; rw [hp0]
      rw [hz]
      refine mp_aload_n X 1 d_R_write_0 rfl rfl rfl ?_
      refine mp_iload_n X 2 d_R_write_1 rfl rfl rfl ?_
      refine mp_callE X mp_Ts_ok 5 (rest := [.ref (G.1 + 26)]) (k_R_isPageT _ hj) Y_R_isPage in_R (mp_IS X d_R_write_2 Y_R_isPage ml_R_83 st_R_isPage in_R (by decide) (by show _ = some 1; decide)) rfl (by decide) (by decide) (by decide) (by decide) rfl (Nat.le_of_ble_eq_true rfl) rfl ?_
      refine mp_Zeq X 12 8 d_R_write_5 (by decide) rfl (by omega) (fun q1 => ?_) (fun q1 => ?_)
      · exact absurd q1 (by decide)
      · refine mp_iconst X 9 (v := nI 0) d_R_write_8 rfl (by decide) ?_
        refine mp_goto X 13 d_R_write_9 (by decide) ?_
        refine mp_putf X 16 ls_R_51_R d_R_write_13 rfl (Or.inl rfl) (hK1.sz (by decide)) hK1.ob rfl rfl ?_
        obtain ⟨h2, eh2⟩ : ∃ z, z = mp_set h 26 (0) (.int (nI 0)) := ⟨_, rfl⟩
        rw [← eh2]
        have rh2 : ∀ a b, h2.2.1 a b = if a = 26 ∧ b = 0 then .int (nI 0) else h.2.1 a b := by intro a b; rw [eh2]; rfl
        have hK2 : rm_K G h2 := by rw [eh2]; exact hK1.st (Or.inr (Or.inl rfl))
        have hf2 : mp_fr rm_A h h2 := by rw [eh2]; exact hf1.set (by unfold rm_A; omega)
        have hS2 : rm_S h2 S := by rw [eh2]; exact hS1.cd
        have hc2 : h2.2.1 26 0 = .int (nI 0) := by rw [rh2, if_pos ⟨rfl, rfl⟩]
        refine mp_aload_n X 17 d_R_write_16 rfl rfl rfl ?_
        refine mp_getf (v := .int (nI 0)) X 20 lk_R_51_R d_R_write_17 rfl (hK2.sz (by decide)) hK2.ob hc2 ?_
        refine mp_Zle X 25 23 d_R_write_20 (by decide) rfl (by omega) (fun q2 => ?_) (fun q2 => ?_)
        · refine mp_aload_n X 26 d_R_write_25 rfl rfl rfl ?_
          refine mp_iload_n X 27 d_R_write_26 rfl rfl rfl ?_
          refine mp_call X mp_Ts_ok 30 (rest := []) (k_R_look _ hK2 hS2 hok hj) Y_R_look in_R (mp_IV X (q := (nR_R, nT_R, 17)) d_R_write_27 Y_R_look ml_R_87 im_R_look se_R_look (by decide) rfl (by decide) (by show _ = some 1; decide) (hK2.sz (by decide)) hK2.ob) rfl (by decide) (by decide) (by decide) (by decide) rfl (by decide) (fun v h3 hp => ?_) (fun x h3 q hp => hp.elim)
          obtain ⟨rfl, hq3, hV3⟩ := hp
          have hK3 : rm_K G h3 := hK2.fr rm_Q (by intro i a b c d; unfold rm_Q; omega) hq3
          have hS3 : rm_S h3 S := hS2.fr (hq3.mono fun o i => rm_QP)
          have hf3 : mp_fr rm_A h h3 := hf2.tr (hq3.mono fun o i => rm_QA)
          refine mp_eq rfl rfl (st2 := []) rfl ?_
          refine mp_aload_n X 31 d_R_write_30 rfl rfl rfl ?_
          refine mp_iload_n X 32 d_R_write_31 rfl rfl rfl ?_
          refine mp_Zlt X 43 35 d_R_write_32 (by decide) rfl (by omega) (fun q3 => ?_) (fun q3 => ?_)
          · exact q3.elim
          · refine mp_iload_n X 36 d_R_write_35 rfl rfl rfl ?_
            refine mp_aload_n X 37 d_R_write_36 rfl rfl rfl ?_
            refine mp_getf (v := .int (nI ((rm_T S j).length))) X 40 lk_R_61_R d_R_write_37 rfl (hK3.sz (by decide)) hK3.ob hV3.1 ?_
            refine mp_Nle X 47 43 d_R_write_40 (by decide) rfl (by omega) (by omega) (fun q4 => ?_) (fun q4 => ?_)
            · refine mp_aload_n X 48 d_R_write_47 rfl rfl rfl ?_
              refine mp_getf (v := .int (nI (S.1))) X 51 lk_R_55_R d_R_write_48 rfl (hK3.sz (by decide)) hK3.ob hS3.1 ?_
              refine mp_bipush X 53 (v := nI 90) d_R_write_51 rfl (by decide) ?_
              refine mp_Nne X 60 56 d_R_write_53 (by decide) rfl (by omega) (by omega) (fun q5 => ?_) (fun q5 => ?_)
              · refine mp_iconst X 61 (v := nI 0) d_R_write_60 rfl (by decide) ?_
                refine mp_putf X 64 ls_R_51_R d_R_write_61 rfl (Or.inl rfl) (hK3.sz (by decide)) hK3.ob rfl rfl ?_
                obtain ⟨h4, eh4⟩ : ∃ z, z = mp_set h3 26 (0) (.int (nI 0)) := ⟨_, rfl⟩
                rw [← eh4]
                have rh4 : ∀ a b, h4.2.1 a b = if a = 26 ∧ b = 0 then .int (nI 0) else h3.2.1 a b := by intro a b; rw [eh4]; rfl
                have hK4 : rm_K G h4 := by rw [eh4]; exact hK3.st (Or.inr (Or.inl rfl))
                have hf4 : mp_fr rm_A h h4 := by rw [eh4]; exact hf3.set (by unfold rm_A; omega)
                have hS4 : rm_S h4 S := by rw [eh4]; exact hS3.cd
                have hV4 : rm_V h4 S j := by rw [eh4]; exact hV3.st (by omega)
                have hc4 : h4.2.1 26 0 = .int (nI 0) := by rw [rh4, if_pos ⟨rfl, rfl⟩]
                refine mp_aload_n X 65 d_R_write_64 rfl rfl rfl ?_
                refine mp_getf (v := .int (nI 0)) X 68 lk_R_51_R d_R_write_65 rfl (hK4.sz (by decide)) hK4.ob hc4 ?_
                refine mp_Zle X 73 71 d_R_write_68 (by decide) rfl (by omega) (fun q6 => ?_) (fun q6 => ?_)
                · refine mp_aload_n X 74 d_R_write_73 rfl rfl rfl ?_
                  refine mp_getf (v := .ref (G.1 + 32)) X 77 lk_R_25_R d_R_write_74 rfl (hK4.sz (by decide)) hK4.ob hK4.r_letters ?_
                  refine mp_aload_n X 78 d_R_write_77 rfl rfl rfl ?_
                  refine mp_getf (v := .int (nI (S.1))) X 81 lk_R_55_R d_R_write_78 rfl (hK4.sz (by decide)) hK4.ob hS4.1 ?_
                  refine mp_iload_n X 82 d_R_write_81 rfl rfl rfl ?_
                  refine mp_cast X 83 (S.1) d_R_write_82 rfl (hK4.sz (by decide)) hK4.k_letters rfl (by omega) (by decide) hcc ?_
                  obtain ⟨h5, eh5⟩ : ∃ z, z = mp_set h4 32 (S.1) (.int c) := ⟨_, rfl⟩
                  rw [← eh5]
                  have rh5 : ∀ a b, h5.2.1 a b = if a = 32 ∧ b = S.1 then .int c else h4.2.1 a b := by intro a b; rw [eh5]; rfl
                  have hK5 : rm_K G h5 := by rw [eh5]; exact hK4.st (Or.inl (by decide))
                  have hf5 : mp_fr rm_A h h5 := by rw [eh5]; exact hf4.set (by unfold rm_A; omega)
                  have hS5 : rm_S h5 S := by rw [eh5]; exact hS4.lt
                  have hV5 : rm_V h5 S j := by rw [eh5]; exact hV4.st (by omega)
                  refine mp_aload_n X 84 d_R_write_83 rfl rfl rfl ?_
                  refine mp_iload_n X 85 d_R_write_84 rfl rfl rfl ?_
                  refine mp_iconst X 86 (v := nI 0) d_R_write_85 rfl (by decide) ?_
                  refine mp_iload_n X 87 d_R_write_86 rfl rfl rfl ?_
                  refine mp_Zne X 94 90 d_R_write_87 (by decide) rfl (by omega) (fun q7 => ?_) (fun q7 => ?_)
                  · refine mp_aload_n X 95 d_R_write_94 rfl rfl rfl ?_
                    refine mp_getf (v := .ref (G.1 + 38)) X 98 lk_R_45_R d_R_write_95 rfl (hK5.sz (by decide)) hK5.ob hK5.r_text ?_
                    refine mp_iload_n X 99 d_R_write_98 rfl rfl rfl ?_
                    refine mp_iconst X 100 (v := nI 1) d_R_write_99 rfl (by decide) ?_
                    refine mp_isub X 101 d_R_write_100 rfl ?_
                    have e8 : nI q - nI 1 = nI (q - 1) := pk_sub (by omega)
                    rw [e8]
                    refine mp_iald (v := .int (nI ((sp_t S j (q - 1))))) X 102 (q - 1) d_R_write_101 rfl (hK5.sz (by decide)) hK5.k_text rfl (by omega) (by decide) (hV5.2.1 _ _ (sp_t_mem (by omega))) ?_
                    refine mp_iconst X 103 (v := -1) d_R_write_102 rfl (by decide) ?_
                    refine mp_iconst X 104 (v := nI 0) d_R_write_103 rfl (by decide) ?_
                    refine mp_call X mp_Ts_ok 107 (rest := []) (k_R_make (j := j) (so := 0) (wh := 0) (fi := some (sp_t S j (q - 1))) (en := none) (le := c) _ hK5 hS5 hok hj (by omega) (fun _ => by rw [rh5, if_pos ⟨rfl, rfl⟩])) Y_R_make in_R (mp_IV X (q := (nR_R, nT_R, 17)) d_R_write_104 Y_R_make ml_R_91 im_R_make se_R_make (by decide) rfl (by decide) (by show _ = some 5; decide) (hK5.sz (by decide)) hK5.ob) rfl (by decide) (by decide) (by decide) (by decide) rfl (by decide) (fun v h9 hp => ?_) (fun x h9 q hp => hp.elim)
                    obtain ⟨rfl, hS9, hf9⟩ := hp
                    refine mp_eq rfl rfl (st2 := [.int (nI (1 + sp_mx S j))]) rfl ?_
                    rw [if_neg q5]
                    rw [if_neg q7]
                    refine mp_iret X d_R_write_107 rfl rfl (by decide) (by decide) ⟨?_, hS9, ⟨_, rfl, fun _ => rfl⟩, hf5.tr (hf9.mono fun o i => rm_WA)⟩
                    rw [hf9.2.2 26 0 (by unfold rm_W; omega), rh5, if_neg (by omega)]
                    exact hc4
                  · refine mp_iconst X 91 (v := -1) d_R_write_90 rfl (by decide) ?_
                    refine mp_goto X 102 d_R_write_91 (by decide) ?_
                    refine mp_iconst X 103 (v := -1) d_R_write_102 rfl (by decide) ?_
                    refine mp_iconst X 104 (v := nI 0) d_R_write_103 rfl (by decide) ?_
                    refine mp_call X mp_Ts_ok 107 (rest := []) (k_R_make (j := j) (so := 0) (wh := 0) (fi := none) (en := none) (le := c) _ hK5 hS5 hok hj (by omega) (fun _ => by rw [rh5, if_pos ⟨rfl, rfl⟩])) Y_R_make in_R (mp_IV X (q := (nR_R, nT_R, 17)) d_R_write_104 Y_R_make ml_R_91 im_R_make se_R_make (by decide) rfl (by decide) (by show _ = some 5; decide) (hK5.sz (by decide)) hK5.ob) rfl (by decide) (by decide) (by decide) (by decide) rfl (by decide) (fun v h9 hp => ?_) (fun x h9 q hp => hp.elim)
                    obtain ⟨rfl, hS9, hf9⟩ := hp
                    refine mp_eq rfl rfl (st2 := [.int (nI (1 + sp_mx S j))]) rfl ?_
                    rw [if_neg q5]
                    rw [if_pos q7]
                    refine mp_iret X d_R_write_107 rfl rfl (by decide) (by decide) ⟨?_, hS9, ⟨_, rfl, fun _ => rfl⟩, hf5.tr (hf9.mono fun o i => rm_WA)⟩
                    rw [hf9.2.2 26 0 (by unfold rm_W; omega), rh5, if_neg (by omega)]
                    exact hc4
                · omega
              · refine mp_iconst X 57 (v := nI 3) d_R_write_56 rfl (by decide) ?_
                refine mp_goto X 61 d_R_write_57 (by decide) ?_
                refine mp_putf X 64 ls_R_51_R d_R_write_61 rfl (Or.inl rfl) (hK3.sz (by decide)) hK3.ob rfl rfl ?_
                obtain ⟨h4, eh4⟩ : ∃ z, z = mp_set h3 26 (0) (.int (nI 3)) := ⟨_, rfl⟩
                rw [← eh4]
                have rh4 : ∀ a b, h4.2.1 a b = if a = 26 ∧ b = 0 then .int (nI 3) else h3.2.1 a b := by intro a b; rw [eh4]; rfl
                have hK4 : rm_K G h4 := by rw [eh4]; exact hK3.st (Or.inr (Or.inl rfl))
                have hf4 : mp_fr rm_A h h4 := by rw [eh4]; exact hf3.set (by unfold rm_A; omega)
                have hS4 : rm_S h4 S := by rw [eh4]; exact hS3.cd
                have hV4 : rm_V h4 S j := by rw [eh4]; exact hV3.st (by omega)
                have hc4 : h4.2.1 26 0 = .int (nI 3) := by rw [rh4, if_pos ⟨rfl, rfl⟩]
                refine mp_aload_n X 65 d_R_write_64 rfl rfl rfl ?_
                refine mp_getf (v := .int (nI 3)) X 68 lk_R_51_R d_R_write_65 rfl (hK4.sz (by decide)) hK4.ob hc4 ?_
                refine mp_Zle X 73 71 d_R_write_68 (by decide) rfl (by omega) (fun q9 => ?_) (fun q9 => ?_)
                · omega
                · refine mp_iconst X 72 (v := nI 0) d_R_write_71 rfl (by decide) ?_
                  rw [if_pos q5]
                  exact mp_iret X d_R_write_72 rfl rfl (by decide) (by decide) (rm_Z.code hc4 (by decide) hS4 hf4)
            · omega
        · omega
set_option maxRecDepth 100000 in
set_option maxHeartbeats 4000000 in
theorem k_R_erase (l : Launch) {G : mp_G} {h : mp_H} {S : pq_S} {x p : Int32} (hK1 : rm_K G h) (hS1 : rm_S h S) (hok : pq_ok S) (hcl : ∀ k, k < S.1 → pq_so S.2.1 k = 0 → narrow .char (.int (pq_le S.2.1 k)) = .int (pq_le S.2.1 k)) :
    mp_M G mp_Ts l y_R_erase 2 0 0 [.ref (G.1 + 26), .int x, .int p] h (rm_Z h (sp_erase S x p)) (fun _ _ => False) := by
  have hM : S.1 ≤ 90 := hok.1
  have hw := hok.2.1
  have hf1 : mp_fr rm_A h h := mp_fr.rf
  refine mp_enter (by decide) Y_R_erase fun E hl X => ?_
  refine mp_eq rfl (L2 := [.val (.ref (G.1 + 26)), .val (.int x), .val (.int p), .unset]) rfl rfl ?_
  cases hx : sp_ix 3 x with
  | none =>
    have hz : sp_erase S x p = (1, 0, S) := by unfold sp_erase; rw [hx]
    rw [hz]
    refine mp_aload_n X 1 d_R_erase_0 rfl rfl rfl ?_
    refine mp_iload_n X 2 d_R_erase_1 rfl rfl rfl ?_
    refine mp_callE X mp_Ts_ok 5 (rest := [.ref (G.1 + 26)]) (k_R_isPageF _ hx) Y_R_isPage in_R (mp_IS X d_R_erase_2 Y_R_isPage ml_R_83 st_R_isPage in_R (by decide) (by show _ = some 1; decide)) rfl (by decide) (by decide) (by decide) (by decide) rfl (Nat.le_of_ble_eq_true rfl) rfl ?_
    refine mp_Zeq X 12 8 d_R_erase_5 (by decide) rfl (by omega) (fun q1 => ?_) (fun q1 => ?_)
    · refine mp_iconst X 13 (v := nI 1) d_R_erase_12 rfl (by decide) ?_
      refine mp_putf X 16 ls_R_51_R d_R_erase_13 rfl (Or.inl rfl) (hK1.sz (by decide)) hK1.ob rfl rfl ?_
      obtain ⟨h2, eh2⟩ : ∃ z, z = mp_set h 26 (0) (.int (nI 1)) := ⟨_, rfl⟩
      rw [← eh2]
      have rh2 : ∀ a b, h2.2.1 a b = if a = 26 ∧ b = 0 then .int (nI 1) else h.2.1 a b := by intro a b; rw [eh2]; rfl
      have hK2 : rm_K G h2 := by rw [eh2]; exact hK1.st (Or.inr (Or.inl rfl))
      have hf2 : mp_fr rm_A h h2 := by rw [eh2]; exact hf1.set (by unfold rm_A; omega)
      have hS2 : rm_S h2 S := by rw [eh2]; exact hS1.cd
      have hc2 : h2.2.1 26 0 = .int (nI 1) := by rw [rh2, if_pos ⟨rfl, rfl⟩]
      refine mp_aload_n X 17 d_R_erase_16 rfl rfl rfl ?_
      refine mp_getf (v := .int (nI 1)) X 20 lk_R_51_R d_R_erase_17 rfl (hK2.sz (by decide)) hK2.ob hc2 ?_
      refine mp_Zle X 25 23 d_R_erase_20 (by decide) rfl (by omega) (fun q2 => ?_) (fun q2 => ?_)
      · omega
      · refine mp_iconst X 24 (v := nI 0) d_R_erase_23 rfl (by decide) ?_
        exact mp_iret X d_R_erase_24 rfl rfl (by decide) (by decide) (rm_Z.code hc2 (by decide) hS2 hf2)
    · exact absurd rfl q1
  | some j =>
    obtain ⟨hj, rfl⟩ := sp_ix_some hx (by decide)
    have hTl := sp_T_len hok hj
    cases hp0 : sp_ix (rm_T S j).length p with
    | none =>
      have hz : sp_erase S (nI j) p = (2, 0, S) := by unfold sp_erase; rw [hx]; simp only []; rw [hp0]
      rw [hz]
      refine mp_aload_n X 1 d_R_erase_0 rfl rfl rfl ?_
      refine mp_iload_n X 2 d_R_erase_1 rfl rfl rfl ?_
      refine mp_callE X mp_Ts_ok 5 (rest := [.ref (G.1 + 26)]) (k_R_isPageT _ hj) Y_R_isPage in_R (mp_IS X d_R_erase_2 Y_R_isPage ml_R_83 st_R_isPage in_R (by decide) (by show _ = some 1; decide)) rfl (by decide) (by decide) (by decide) (by decide) rfl (Nat.le_of_ble_eq_true rfl) rfl ?_
      refine mp_Zeq X 12 8 d_R_erase_5 (by decide) rfl (by omega) (fun q1 => ?_) (fun q1 => ?_)
      · exact absurd q1 (by decide)
      · refine mp_iconst X 9 (v := nI 0) d_R_erase_8 rfl (by decide) ?_
        refine mp_goto X 13 d_R_erase_9 (by decide) ?_
        refine mp_putf X 16 ls_R_51_R d_R_erase_13 rfl (Or.inl rfl) (hK1.sz (by decide)) hK1.ob rfl rfl ?_
        obtain ⟨h2, eh2⟩ : ∃ z, z = mp_set h 26 (0) (.int (nI 0)) := ⟨_, rfl⟩
        rw [← eh2]
        have rh2 : ∀ a b, h2.2.1 a b = if a = 26 ∧ b = 0 then .int (nI 0) else h.2.1 a b := by intro a b; rw [eh2]; rfl
        have hK2 : rm_K G h2 := by rw [eh2]; exact hK1.st (Or.inr (Or.inl rfl))
        have hf2 : mp_fr rm_A h h2 := by rw [eh2]; exact hf1.set (by unfold rm_A; omega)
        have hS2 : rm_S h2 S := by rw [eh2]; exact hS1.cd
        have hc2 : h2.2.1 26 0 = .int (nI 0) := by rw [rh2, if_pos ⟨rfl, rfl⟩]
        refine mp_aload_n X 17 d_R_erase_16 rfl rfl rfl ?_
        refine mp_getf (v := .int (nI 0)) X 20 lk_R_51_R d_R_erase_17 rfl (hK2.sz (by decide)) hK2.ob hc2 ?_
        refine mp_Zle X 25 23 d_R_erase_20 (by decide) rfl (by omega) (fun q2 => ?_) (fun q2 => ?_)
        · refine mp_aload_n X 26 d_R_erase_25 rfl rfl rfl ?_
          refine mp_iload_n X 27 d_R_erase_26 rfl rfl rfl ?_
          refine mp_call X mp_Ts_ok 30 (rest := []) (k_R_look _ hK2 hS2 hok hj) Y_R_look in_R (mp_IV X (q := (nR_R, nT_R, 17)) d_R_erase_27 Y_R_look ml_R_87 im_R_look se_R_look (by decide) rfl (by decide) (by show _ = some 1; decide) (hK2.sz (by decide)) hK2.ob) rfl (by decide) (by decide) (by decide) (by decide) rfl (by decide) (fun v h3 hp => ?_) (fun x h3 q hp => hp.elim)
          obtain ⟨rfl, hq3, hV3⟩ := hp
          have hK3 : rm_K G h3 := hK2.fr rm_Q (by intro i a b c d; unfold rm_Q; omega) hq3
          have hS3 : rm_S h3 S := hS2.fr (hq3.mono fun o i => rm_QP)
          have hf3 : mp_fr rm_A h h3 := hf2.tr (hq3.mono fun o i => rm_QA)
          refine mp_eq rfl rfl (st2 := []) rfl ?_
          refine mp_aload_n X 31 d_R_erase_30 rfl rfl rfl ?_
          refine mp_iload_n X 32 d_R_erase_31 rfl rfl rfl ?_
          refine mp_if_lt X 43 35 d_R_erase_32 (by decide) rfl (fun q3 => ?_) (fun q3 => ?_)
          · refine mp_iconst X 44 (v := nI 2) d_R_erase_43 rfl (by decide) ?_
            refine mp_goto X 61 d_R_erase_44 (by decide) ?_
            refine mp_putf X 64 ls_R_51_R d_R_erase_61 rfl (Or.inl rfl) (hK3.sz (by decide)) hK3.ob rfl rfl ?_
            obtain ⟨h4, eh4⟩ : ∃ z, z = mp_set h3 26 (0) (.int (nI 2)) := ⟨_, rfl⟩
            rw [← eh4]
            have rh4 : ∀ a b, h4.2.1 a b = if a = 26 ∧ b = 0 then .int (nI 2) else h3.2.1 a b := by intro a b; rw [eh4]; rfl
            have hK4 : rm_K G h4 := by rw [eh4]; exact hK3.st (Or.inr (Or.inl rfl))
            have hf4 : mp_fr rm_A h h4 := by rw [eh4]; exact hf3.set (by unfold rm_A; omega)
            have hS4 : rm_S h4 S := by rw [eh4]; exact hS3.cd
            have hV4 : rm_V h4 S j := by rw [eh4]; exact hV3.st (by omega)
            have hc4 : h4.2.1 26 0 = .int (nI 2) := by rw [rh4, if_pos ⟨rfl, rfl⟩]
            refine mp_aload_n X 65 d_R_erase_64 rfl rfl rfl ?_
            refine mp_getf (v := .int (nI 2)) X 68 lk_R_51_R d_R_erase_65 rfl (hK4.sz (by decide)) hK4.ob hc4 ?_
            refine mp_Zle X 73 71 d_R_erase_68 (by decide) rfl (by omega) (fun q4 => ?_) (fun q4 => ?_)
            · omega
            · refine mp_iconst X 72 (v := nI 0) d_R_erase_71 rfl (by decide) ?_
              exact mp_iret X d_R_erase_72 rfl rfl (by decide) (by decide) (rm_Z.code hc4 (by decide) hS4 hf4)
          · refine mp_iload_n X 36 d_R_erase_35 rfl rfl rfl ?_
            refine mp_aload_n X 37 d_R_erase_36 rfl rfl rfl ?_
            refine mp_getf (v := .int (nI ((rm_T S j).length))) X 40 lk_R_61_R d_R_erase_37 rfl (hK3.sz (by decide)) hK3.ob hV3.1 ?_
            refine mp_icmp_lt X 47 43 d_R_erase_40 (by decide) rfl (fun q5 => ?_) (fun q5 => ?_)
            · exfalso; obtain ⟨q0, hq0, rfl⟩ := nI_of q3; have := (nI_ltI hq0 (by omega)).mp q5; rw [sp_ix_of (by omega) (by omega)] at hp0; cases hp0
            · refine mp_iconst X 44 (v := nI 2) d_R_erase_43 rfl (by decide) ?_
              refine mp_goto X 61 d_R_erase_44 (by decide) ?_
              refine mp_putf X 64 ls_R_51_R d_R_erase_61 rfl (Or.inl rfl) (hK3.sz (by decide)) hK3.ob rfl rfl ?_
              obtain ⟨h4, eh4⟩ : ∃ z, z = mp_set h3 26 (0) (.int (nI 2)) := ⟨_, rfl⟩
              rw [← eh4]
              have rh4 : ∀ a b, h4.2.1 a b = if a = 26 ∧ b = 0 then .int (nI 2) else h3.2.1 a b := by intro a b; rw [eh4]; rfl
              have hK4 : rm_K G h4 := by rw [eh4]; exact hK3.st (Or.inr (Or.inl rfl))
              have hf4 : mp_fr rm_A h h4 := by rw [eh4]; exact hf3.set (by unfold rm_A; omega)
              have hS4 : rm_S h4 S := by rw [eh4]; exact hS3.cd
              have hV4 : rm_V h4 S j := by rw [eh4]; exact hV3.st (by omega)
              have hc4 : h4.2.1 26 0 = .int (nI 2) := by rw [rh4, if_pos ⟨rfl, rfl⟩]
              refine mp_aload_n X 65 d_R_erase_64 rfl rfl rfl ?_
              refine mp_getf (v := .int (nI 2)) X 68 lk_R_51_R d_R_erase_65 rfl (hK4.sz (by decide)) hK4.ob hc4 ?_
              refine mp_Zle X 73 71 d_R_erase_68 (by decide) rfl (by omega) (fun q6 => ?_) (fun q6 => ?_)
              · omega
              · refine mp_iconst X 72 (v := nI 0) d_R_erase_71 rfl (by decide) ?_
                exact mp_iret X d_R_erase_72 rfl rfl (by decide) (by decide) (rm_Z.code hc4 (by decide) hS4 hf4)
        · omega
    | some q =>
      obtain ⟨hq, rfl⟩ := sp_ix_some hp0 (by omega)
      have hz : sp_erase S (nI j) (nI q) = if S.1 = 90 then (3, 0, S) else (0, pq_le S.2.1 (sp_t S j q), sp_new S j 1 (some (sp_t S j q)) none 0 0) := by unfold sp_erase; rw [hx]; simp only []; rw [hp0]
      rw [hz]
      have htr := sp_t_row hq
      obtain ⟨htM, htso, -, -⟩ := rm_row_lt hw (hok.2.2.1 j hj) htr
      refine mp_aload_n X 1 d_R_erase_0 rfl rfl rfl ?_
      refine mp_iload_n X 2 d_R_erase_1 rfl rfl rfl ?_
      refine mp_callE X mp_Ts_ok 5 (rest := [.ref (G.1 + 26)]) (k_R_isPageT _ hj) Y_R_isPage in_R (mp_IS X d_R_erase_2 Y_R_isPage ml_R_83 st_R_isPage in_R (by decide) (by show _ = some 1; decide)) rfl (by decide) (by decide) (by decide) (by decide) rfl (Nat.le_of_ble_eq_true rfl) rfl ?_
      refine mp_Zeq X 12 8 d_R_erase_5 (by decide) rfl (by omega) (fun q1 => ?_) (fun q1 => ?_)
      · exact absurd q1 (by decide)
      · refine mp_iconst X 9 (v := nI 0) d_R_erase_8 rfl (by decide) ?_
        refine mp_goto X 13 d_R_erase_9 (by decide) ?_
        refine mp_putf X 16 ls_R_51_R d_R_erase_13 rfl (Or.inl rfl) (hK1.sz (by decide)) hK1.ob rfl rfl ?_
        obtain ⟨h2, eh2⟩ : ∃ z, z = mp_set h 26 (0) (.int (nI 0)) := ⟨_, rfl⟩
        rw [← eh2]
        have rh2 : ∀ a b, h2.2.1 a b = if a = 26 ∧ b = 0 then .int (nI 0) else h.2.1 a b := by intro a b; rw [eh2]; rfl
        have hK2 : rm_K G h2 := by rw [eh2]; exact hK1.st (Or.inr (Or.inl rfl))
        have hf2 : mp_fr rm_A h h2 := by rw [eh2]; exact hf1.set (by unfold rm_A; omega)
        have hS2 : rm_S h2 S := by rw [eh2]; exact hS1.cd
        have hc2 : h2.2.1 26 0 = .int (nI 0) := by rw [rh2, if_pos ⟨rfl, rfl⟩]
        refine mp_aload_n X 17 d_R_erase_16 rfl rfl rfl ?_
        refine mp_getf (v := .int (nI 0)) X 20 lk_R_51_R d_R_erase_17 rfl (hK2.sz (by decide)) hK2.ob hc2 ?_
        refine mp_Zle X 25 23 d_R_erase_20 (by decide) rfl (by omega) (fun q2 => ?_) (fun q2 => ?_)
        · refine mp_aload_n X 26 d_R_erase_25 rfl rfl rfl ?_
          refine mp_iload_n X 27 d_R_erase_26 rfl rfl rfl ?_
          refine mp_call X mp_Ts_ok 30 (rest := []) (k_R_look _ hK2 hS2 hok hj) Y_R_look in_R (mp_IV X (q := (nR_R, nT_R, 17)) d_R_erase_27 Y_R_look ml_R_87 im_R_look se_R_look (by decide) rfl (by decide) (by show _ = some 1; decide) (hK2.sz (by decide)) hK2.ob) rfl (by decide) (by decide) (by decide) (by decide) rfl (by decide) (fun v h3 hp => ?_) (fun x h3 q hp => hp.elim)
          obtain ⟨rfl, hq3, hV3⟩ := hp
          have hK3 : rm_K G h3 := hK2.fr rm_Q (by intro i a b c d; unfold rm_Q; omega) hq3
          have hS3 : rm_S h3 S := hS2.fr (hq3.mono fun o i => rm_QP)
          have hf3 : mp_fr rm_A h h3 := hf2.tr (hq3.mono fun o i => rm_QA)
          refine mp_eq rfl rfl (st2 := []) rfl ?_
          refine mp_aload_n X 31 d_R_erase_30 rfl rfl rfl ?_
          refine mp_iload_n X 32 d_R_erase_31 rfl rfl rfl ?_
          refine mp_Zlt X 43 35 d_R_erase_32 (by decide) rfl (by omega) (fun q3 => ?_) (fun q3 => ?_)
          · exact q3.elim
          · refine mp_iload_n X 36 d_R_erase_35 rfl rfl rfl ?_
            refine mp_aload_n X 37 d_R_erase_36 rfl rfl rfl ?_
            refine mp_getf (v := .int (nI ((rm_T S j).length))) X 40 lk_R_61_R d_R_erase_37 rfl (hK3.sz (by decide)) hK3.ob hV3.1 ?_
            refine mp_Nlt X 47 43 d_R_erase_40 (by decide) rfl (by omega) (by omega) (fun q4 => ?_) (fun q4 => ?_)
            · refine mp_aload_n X 48 d_R_erase_47 rfl rfl rfl ?_
              refine mp_getf (v := .int (nI (S.1))) X 51 lk_R_55_R d_R_erase_48 rfl (hK3.sz (by decide)) hK3.ob hS3.1 ?_
              refine mp_bipush X 53 (v := nI 90) d_R_erase_51 rfl (by decide) ?_
              refine mp_Nne X 60 56 d_R_erase_53 (by decide) rfl (by omega) (by omega) (fun q5 => ?_) (fun q5 => ?_)
              · refine mp_iconst X 61 (v := nI 0) d_R_erase_60 rfl (by decide) ?_
                refine mp_putf X 64 ls_R_51_R d_R_erase_61 rfl (Or.inl rfl) (hK3.sz (by decide)) hK3.ob rfl rfl ?_
                obtain ⟨h4, eh4⟩ : ∃ z, z = mp_set h3 26 (0) (.int (nI 0)) := ⟨_, rfl⟩
                rw [← eh4]
                have rh4 : ∀ a b, h4.2.1 a b = if a = 26 ∧ b = 0 then .int (nI 0) else h3.2.1 a b := by intro a b; rw [eh4]; rfl
                have hK4 : rm_K G h4 := by rw [eh4]; exact hK3.st (Or.inr (Or.inl rfl))
                have hf4 : mp_fr rm_A h h4 := by rw [eh4]; exact hf3.set (by unfold rm_A; omega)
                have hS4 : rm_S h4 S := by rw [eh4]; exact hS3.cd
                have hV4 : rm_V h4 S j := by rw [eh4]; exact hV3.st (by omega)
                have hc4 : h4.2.1 26 0 = .int (nI 0) := by rw [rh4, if_pos ⟨rfl, rfl⟩]
                refine mp_aload_n X 65 d_R_erase_64 rfl rfl rfl ?_
                refine mp_getf (v := .int (nI 0)) X 68 lk_R_51_R d_R_erase_65 rfl (hK4.sz (by decide)) hK4.ob hc4 ?_
                refine mp_Zle X 73 71 d_R_erase_68 (by decide) rfl (by omega) (fun q6 => ?_) (fun q6 => ?_)
                · refine mp_aload_n X 74 d_R_erase_73 rfl rfl rfl ?_
                  refine mp_getf (v := .ref (G.1 + 38)) X 77 lk_R_45_R d_R_erase_74 rfl (hK4.sz (by decide)) hK4.ob hK4.r_text ?_
                  refine mp_iload_n X 78 d_R_erase_77 rfl rfl rfl ?_
                  refine mp_iald (v := .int (nI ((sp_t S j q)))) X 79 (q) d_R_erase_78 rfl (hK4.sz (by decide)) hK4.k_text rfl (by omega) (by decide) (hV4.2.1 _ _ (sp_t_mem hq)) ?_
                  refine mp_istore_n X 80 (L' := [.val (.ref (G.1 + 26)), .val (.int (nI j)), .val (.int (nI q)), .val (.int (nI ((sp_t S j q))))]) d_R_erase_79 rfl rfl rfl rfl rfl ?_
                  refine mp_aload_n X 81 d_R_erase_80 rfl rfl rfl ?_
                  refine mp_iload_n X 82 d_R_erase_81 rfl rfl rfl ?_
                  refine mp_iconst X 83 (v := nI 1) d_R_erase_82 rfl (by decide) ?_
                  refine mp_iload_n X 84 d_R_erase_83 rfl rfl rfl ?_
                  refine mp_iconst X 85 (v := -1) d_R_erase_84 rfl (by decide) ?_
                  refine mp_iconst X 86 (v := nI 0) d_R_erase_85 rfl (by decide) ?_
                  refine mp_call X mp_Ts_ok 89 (rest := []) (k_R_make (j := j) (so := 1) (wh := 0) (fi := some (sp_t S j q)) (en := none) (le := 0) _ hK4 hS4 hok hj (by omega) (fun z => by cases z)) Y_R_make in_R (mp_IV X (q := (nR_R, nT_R, 17)) d_R_erase_86 Y_R_make ml_R_91 im_R_make se_R_make (by decide) rfl (by decide) (by show _ = some 5; decide) (hK4.sz (by decide)) hK4.ob) rfl (by decide) (by decide) (by decide) (by decide) rfl (by decide) (fun v h9 hp => ?_) (fun x h9 q hp => hp.elim)
                  obtain ⟨rfl, hS9, hf9⟩ := hp
                  refine mp_eq rfl rfl (st2 := [.int (nI (1 + sp_mx S j))]) rfl ?_
                  have hK9 : rm_K G h9 := hK4.fr rm_W (by intro i a b c d; unfold rm_W; omega) hf9
                  have hl9 : h9.2.1 32 (sp_t S j q) = .int (pq_le S.2.1 (sp_t S j q)) := by rw [hf9.2.2 32 _ (by unfold rm_W; omega)]; exact (hS4.2.1 _ htM).2.2.2.2.2 htso
                  refine mp_pop X 90 d_R_erase_89 rfl rfl ?_
                  refine mp_aload_n X 91 d_R_erase_90 rfl rfl rfl ?_
                  refine mp_getf (v := .ref (G.1 + 32)) X 94 lk_R_25_R d_R_erase_91 rfl (hK9.sz (by decide)) hK9.ob hK9.r_letters ?_
                  refine mp_iload_n X 95 d_R_erase_94 rfl rfl rfl ?_
                  refine mp_cald (v := .int (pq_le S.2.1 (sp_t S j q))) X 96 ((sp_t S j q)) d_R_erase_95 rfl (hK9.sz (by decide)) hK9.k_letters rfl (by omega) (by decide) hl9 ?_
                  rw [if_neg q5]
                  refine mp_iret X d_R_erase_96 rfl (hcl _ htM htso) (by decide) (by decide) ⟨?_, hS9, ⟨_, rfl, fun _ => rfl⟩, hf4.tr (hf9.mono fun o i => rm_WA)⟩
                  rw [hf9.2.2 26 0 (by unfold rm_W; omega)]
                  exact hc4
                · omega
              · refine mp_iconst X 57 (v := nI 3) d_R_erase_56 rfl (by decide) ?_
                refine mp_goto X 61 d_R_erase_57 (by decide) ?_
                refine mp_putf X 64 ls_R_51_R d_R_erase_61 rfl (Or.inl rfl) (hK3.sz (by decide)) hK3.ob rfl rfl ?_
                obtain ⟨h4, eh4⟩ : ∃ z, z = mp_set h3 26 (0) (.int (nI 3)) := ⟨_, rfl⟩
                rw [← eh4]
                have rh4 : ∀ a b, h4.2.1 a b = if a = 26 ∧ b = 0 then .int (nI 3) else h3.2.1 a b := by intro a b; rw [eh4]; rfl
                have hK4 : rm_K G h4 := by rw [eh4]; exact hK3.st (Or.inr (Or.inl rfl))
                have hf4 : mp_fr rm_A h h4 := by rw [eh4]; exact hf3.set (by unfold rm_A; omega)
                have hS4 : rm_S h4 S := by rw [eh4]; exact hS3.cd
                have hV4 : rm_V h4 S j := by rw [eh4]; exact hV3.st (by omega)
                have hc4 : h4.2.1 26 0 = .int (nI 3) := by rw [rh4, if_pos ⟨rfl, rfl⟩]
                refine mp_aload_n X 65 d_R_erase_64 rfl rfl rfl ?_
                refine mp_getf (v := .int (nI 3)) X 68 lk_R_51_R d_R_erase_65 rfl (hK4.sz (by decide)) hK4.ob hc4 ?_
                refine mp_Zle X 73 71 d_R_erase_68 (by decide) rfl (by omega) (fun q7 => ?_) (fun q7 => ?_)
                · omega
                · refine mp_iconst X 72 (v := nI 0) d_R_erase_71 rfl (by decide) ?_
                  rw [if_pos q5]
                  exact mp_iret X d_R_erase_72 rfl rfl (by decide) (by decide) (rm_Z.code hc4 (by decide) hS4 hf4)
            · omega
        · omega
end
section
/-! The reference: mark, length, finds, at, format, id (rows laid by program). -/
set_option maxRecDepth 100000 in
set_option maxHeartbeats 4000000 in
theorem k_R_mark (l : Launch) {G : mp_G} {h : mp_H} {S : pq_S} {x f t w : Int32} (hK1 : rm_K G h) (hS1 : rm_S h S) (hok : pq_ok S) :
    mp_M G mp_Ts l y_R_mark 2 0 0 [.ref (G.1 + 26), .int x, .int f, .int t, .int w] h (rm_Z h (sp_mark S x f t w)) (fun _ _ => False) := by
  have hM : S.1 ≤ 90 := hok.1
  have hw := hok.2.1
  have hf1 : mp_fr rm_A h h := mp_fr.rf
  refine mp_enter (by decide) Y_R_mark fun E hl X => ?_
  refine mp_eq rfl (L2 := [.val (.ref (G.1 + 26)), .val (.int x), .val (.int f), .val (.int t), .val (.int w), .unset]) rfl rfl ?_
  cases hx : sp_ix 3 x with
  | none =>
    have hz : sp_mark S x f t w = (1, 0, S) := by unfold sp_mark; rw [hx]
    rw [hz]
    refine mp_aload_n X 1 d_R_mark_0 rfl rfl rfl ?_
    refine mp_iload_n X 2 d_R_mark_1 rfl rfl rfl ?_
    refine mp_callE X mp_Ts_ok 5 (rest := [.ref (G.1 + 26)]) (k_R_isPageF _ hx) Y_R_isPage in_R (mp_IS X d_R_mark_2 Y_R_isPage ml_R_83 st_R_isPage in_R (by decide) (by show _ = some 1; decide)) rfl (by decide) (by decide) (by decide) (by decide) rfl (Nat.le_of_ble_eq_true rfl) rfl ?_
    refine mp_Zeq X 24 8 d_R_mark_5 (by decide) rfl (by omega) (fun q1 => ?_) (fun q1 => ?_)
    · refine mp_iconst X 25 (v := nI 1) d_R_mark_24 rfl (by decide) ?_
      refine mp_putf X 28 ls_R_51_R d_R_mark_25 rfl (Or.inl rfl) (hK1.sz (by decide)) hK1.ob rfl rfl ?_
      obtain ⟨h2, eh2⟩ : ∃ z, z = mp_set h 26 (0) (.int (nI 1)) := ⟨_, rfl⟩
      rw [← eh2]
      have rh2 : ∀ a b, h2.2.1 a b = if a = 26 ∧ b = 0 then .int (nI 1) else h.2.1 a b := by intro a b; rw [eh2]; rfl
      have hK2 : rm_K G h2 := by rw [eh2]; exact hK1.st (Or.inr (Or.inl rfl))
      have hf2 : mp_fr rm_A h h2 := by rw [eh2]; exact hf1.set (by unfold rm_A; omega)
      have hS2 : rm_S h2 S := by rw [eh2]; exact hS1.cd
      have hc2 : h2.2.1 26 0 = .int (nI 1) := by rw [rh2, if_pos ⟨rfl, rfl⟩]
      refine mp_aload_n X 29 d_R_mark_28 rfl rfl rfl ?_
      refine mp_getf (v := .int (nI 1)) X 32 lk_R_51_R d_R_mark_29 rfl (hK2.sz (by decide)) hK2.ob hc2 ?_
      refine mp_Zle X 37 35 d_R_mark_32 (by decide) rfl (by omega) (fun q2 => ?_) (fun q2 => ?_)
      · omega
      · refine mp_iconst X 36 (v := nI 0) d_R_mark_35 rfl (by decide) ?_
        exact mp_iret X d_R_mark_36 rfl rfl (by decide) (by decide) (rm_Z.code hc2 (by decide) hS2 hf2)
    · exact absurd rfl q1
  | some j =>
    obtain ⟨hj, rfl⟩ := sp_ix_some hx (by decide)
    have hTl := sp_T_len hok hj
    cases hw8 : sp_ix 8 w with
    | none =>
      have hz : sp_mark S (nI j) f t w = (1, 0, S) := by unfold sp_mark; rw [hx, hw8]
      rw [hz]
      refine mp_aload_n X 1 d_R_mark_0 rfl rfl rfl ?_
      refine mp_iload_n X 2 d_R_mark_1 rfl rfl rfl ?_
      refine mp_callE X mp_Ts_ok 5 (rest := [.ref (G.1 + 26)]) (k_R_isPageT _ hj) Y_R_isPage in_R (mp_IS X d_R_mark_2 Y_R_isPage ml_R_83 st_R_isPage in_R (by decide) (by show _ = some 1; decide)) rfl (by decide) (by decide) (by decide) (by decide) rfl (Nat.le_of_ble_eq_true rfl) rfl ?_
      refine mp_Zeq X 24 8 d_R_mark_5 (by decide) rfl (by omega) (fun q1 => ?_) (fun q1 => ?_)
      · exact absurd q1 (by decide)
      · refine mp_iload X 10 d_R_mark_8 rfl rfl ?_
        refine mp_if_lt X 24 13 d_R_mark_10 (by decide) rfl (fun q2 => ?_) (fun q2 => ?_)
        · refine mp_iconst X 25 (v := nI 1) d_R_mark_24 rfl (by decide) ?_
          refine mp_putf X 28 ls_R_51_R d_R_mark_25 rfl (Or.inl rfl) (hK1.sz (by decide)) hK1.ob rfl rfl ?_
          obtain ⟨h2, eh2⟩ : ∃ z, z = mp_set h 26 (0) (.int (nI 1)) := ⟨_, rfl⟩
          rw [← eh2]
          have rh2 : ∀ a b, h2.2.1 a b = if a = 26 ∧ b = 0 then .int (nI 1) else h.2.1 a b := by intro a b; rw [eh2]; rfl
          have hK2 : rm_K G h2 := by rw [eh2]; exact hK1.st (Or.inr (Or.inl rfl))
          have hf2 : mp_fr rm_A h h2 := by rw [eh2]; exact hf1.set (by unfold rm_A; omega)
          have hS2 : rm_S h2 S := by rw [eh2]; exact hS1.cd
          have hc2 : h2.2.1 26 0 = .int (nI 1) := by rw [rh2, if_pos ⟨rfl, rfl⟩]
          refine mp_aload_n X 29 d_R_mark_28 rfl rfl rfl ?_
          refine mp_getf (v := .int (nI 1)) X 32 lk_R_51_R d_R_mark_29 rfl (hK2.sz (by decide)) hK2.ob hc2 ?_
          refine mp_Zle X 37 35 d_R_mark_32 (by decide) rfl (by omega) (fun q3 => ?_) (fun q3 => ?_)
          · omega
          · refine mp_iconst X 36 (v := nI 0) d_R_mark_35 rfl (by decide) ?_
            exact mp_iret X d_R_mark_36 rfl rfl (by decide) (by decide) (rm_Z.code hc2 (by decide) hS2 hf2)
        · refine mp_iload X 15 d_R_mark_13 rfl rfl ?_
          refine mp_bipush X 17 (v := nI 7) d_R_mark_15 rfl (by decide) ?_
          refine mp_icmp_gt X 24 20 d_R_mark_17 (by decide) rfl (fun q4 => ?_) (fun q4 => ?_)
          · refine mp_iconst X 25 (v := nI 1) d_R_mark_24 rfl (by decide) ?_
            refine mp_putf X 28 ls_R_51_R d_R_mark_25 rfl (Or.inl rfl) (hK1.sz (by decide)) hK1.ob rfl rfl ?_
            obtain ⟨h2, eh2⟩ : ∃ z, z = mp_set h 26 (0) (.int (nI 1)) := ⟨_, rfl⟩
            rw [← eh2]
            have rh2 : ∀ a b, h2.2.1 a b = if a = 26 ∧ b = 0 then .int (nI 1) else h.2.1 a b := by intro a b; rw [eh2]; rfl
            have hK2 : rm_K G h2 := by rw [eh2]; exact hK1.st (Or.inr (Or.inl rfl))
            have hf2 : mp_fr rm_A h h2 := by rw [eh2]; exact hf1.set (by unfold rm_A; omega)
            have hS2 : rm_S h2 S := by rw [eh2]; exact hS1.cd
            have hc2 : h2.2.1 26 0 = .int (nI 1) := by rw [rh2, if_pos ⟨rfl, rfl⟩]
            refine mp_aload_n X 29 d_R_mark_28 rfl rfl rfl ?_
            refine mp_getf (v := .int (nI 1)) X 32 lk_R_51_R d_R_mark_29 rfl (hK2.sz (by decide)) hK2.ob hc2 ?_
            refine mp_Zle X 37 35 d_R_mark_32 (by decide) rfl (by omega) (fun q5 => ?_) (fun q5 => ?_)
            · omega
            · refine mp_iconst X 36 (v := nI 0) d_R_mark_35 rfl (by decide) ?_
              exact mp_iret X d_R_mark_36 rfl rfl (by decide) (by decide) (rm_Z.code hc2 (by decide) hS2 hf2)
          · exfalso; obtain ⟨q0, hq0, rfl⟩ := nI_of q2; have := Nat.not_lt.mp fun z => q4 ((nI_ltI (by decide) hq0).mpr z); rw [sp_ix_of (by omega) (by decide)] at hw8; cases hw8
    | some k =>
      obtain ⟨hk, rfl⟩ := sp_ix_some hw8 (by decide)
      cases hf0 : sp_ix (rm_T S j).length f with
      | none =>
        have hz : sp_mark S (nI j) f t (nI k) = (2, 0, S) := by unfold sp_mark; rw [hx, hw8]; simp only []; rw [hf0]
        rw [hz]
        refine mp_aload_n X 1 d_R_mark_0 rfl rfl rfl ?_
        refine mp_iload_n X 2 d_R_mark_1 rfl rfl rfl ?_
        refine mp_callE X mp_Ts_ok 5 (rest := [.ref (G.1 + 26)]) (k_R_isPageT _ hj) Y_R_isPage in_R (mp_IS X d_R_mark_2 Y_R_isPage ml_R_83 st_R_isPage in_R (by decide) (by show _ = some 1; decide)) rfl (by decide) (by decide) (by decide) (by decide) rfl (Nat.le_of_ble_eq_true rfl) rfl ?_
        refine mp_Zeq X 24 8 d_R_mark_5 (by decide) rfl (by omega) (fun q1 => ?_) (fun q1 => ?_)
        · exact absurd q1 (by decide)
        · refine mp_iload X 10 d_R_mark_8 rfl rfl ?_
          refine mp_Zlt X 24 13 d_R_mark_10 (by decide) rfl (by omega) (fun q2 => ?_) (fun q2 => ?_)
          · exact q2.elim
          · refine mp_iload X 15 d_R_mark_13 rfl rfl ?_
            refine mp_bipush X 17 (v := nI 7) d_R_mark_15 rfl (by decide) ?_
            refine mp_Ngt X 24 20 d_R_mark_17 (by decide) rfl (by omega) (by omega) (fun q3 => ?_) (fun q3 => ?_)
            · omega
            · refine mp_iconst X 21 (v := nI 0) d_R_mark_20 rfl (by decide) ?_
              refine mp_goto X 25 d_R_mark_21 (by decide) ?_
              refine mp_putf X 28 ls_R_51_R d_R_mark_25 rfl (Or.inl rfl) (hK1.sz (by decide)) hK1.ob rfl rfl ?_
              obtain ⟨h2, eh2⟩ : ∃ z, z = mp_set h 26 (0) (.int (nI 0)) := ⟨_, rfl⟩
              rw [← eh2]
              have rh2 : ∀ a b, h2.2.1 a b = if a = 26 ∧ b = 0 then .int (nI 0) else h.2.1 a b := by intro a b; rw [eh2]; rfl
              have hK2 : rm_K G h2 := by rw [eh2]; exact hK1.st (Or.inr (Or.inl rfl))
              have hf2 : mp_fr rm_A h h2 := by rw [eh2]; exact hf1.set (by unfold rm_A; omega)
              have hS2 : rm_S h2 S := by rw [eh2]; exact hS1.cd
              have hc2 : h2.2.1 26 0 = .int (nI 0) := by rw [rh2, if_pos ⟨rfl, rfl⟩]
              refine mp_aload_n X 29 d_R_mark_28 rfl rfl rfl ?_
              refine mp_getf (v := .int (nI 0)) X 32 lk_R_51_R d_R_mark_29 rfl (hK2.sz (by decide)) hK2.ob hc2 ?_
              refine mp_Zle X 37 35 d_R_mark_32 (by decide) rfl (by omega) (fun q4 => ?_) (fun q4 => ?_)
              · refine mp_aload_n X 38 d_R_mark_37 rfl rfl rfl ?_
                refine mp_iload_n X 39 d_R_mark_38 rfl rfl rfl ?_
                refine mp_call X mp_Ts_ok 42 (rest := []) (k_R_look _ hK2 hS2 hok hj) Y_R_look in_R (mp_IV X (q := (nR_R, nT_R, 17)) d_R_mark_39 Y_R_look ml_R_87 im_R_look se_R_look (by decide) rfl (by decide) (by show _ = some 1; decide) (hK2.sz (by decide)) hK2.ob) rfl (by decide) (by decide) (by decide) (by decide) rfl (by decide) (fun v h3 hp => ?_) (fun x h3 q hp => hp.elim)
                obtain ⟨rfl, hq3, hV3⟩ := hp
                have hK3 : rm_K G h3 := hK2.fr rm_Q (by intro i a b c d; unfold rm_Q; omega) hq3
                have hS3 : rm_S h3 S := hS2.fr (hq3.mono fun o i => rm_QP)
                have hf3 : mp_fr rm_A h h3 := hf2.tr (hq3.mono fun o i => rm_QA)
                refine mp_eq rfl rfl (st2 := []) rfl ?_
                refine mp_aload_n X 43 d_R_mark_42 rfl rfl rfl ?_
                refine mp_iload_n X 44 d_R_mark_43 rfl rfl rfl ?_
                refine mp_if_lt X 60 47 d_R_mark_44 (by decide) rfl (fun q5 => ?_) (fun q5 => ?_)
                · refine mp_iconst X 61 (v := nI 2) d_R_mark_60 rfl (by decide) ?_
                  refine mp_goto X 78 d_R_mark_61 (by decide) ?_
                  refine mp_putf X 81 ls_R_51_R d_R_mark_78 rfl (Or.inl rfl) (hK3.sz (by decide)) hK3.ob rfl rfl ?_
                  obtain ⟨h4, eh4⟩ : ∃ z, z = mp_set h3 26 (0) (.int (nI 2)) := ⟨_, rfl⟩
                  rw [← eh4]
                  have rh4 : ∀ a b, h4.2.1 a b = if a = 26 ∧ b = 0 then .int (nI 2) else h3.2.1 a b := by intro a b; rw [eh4]; rfl
                  have hK4 : rm_K G h4 := by rw [eh4]; exact hK3.st (Or.inr (Or.inl rfl))
                  have hf4 : mp_fr rm_A h h4 := by rw [eh4]; exact hf3.set (by unfold rm_A; omega)
                  have hS4 : rm_S h4 S := by rw [eh4]; exact hS3.cd
                  have hV4 : rm_V h4 S j := by rw [eh4]; exact hV3.st (by omega)
                  have hc4 : h4.2.1 26 0 = .int (nI 2) := by rw [rh4, if_pos ⟨rfl, rfl⟩]
                  refine mp_aload_n X 82 d_R_mark_81 rfl rfl rfl ?_
                  refine mp_getf (v := .int (nI 2)) X 85 lk_R_51_R d_R_mark_82 rfl (hK4.sz (by decide)) hK4.ob hc4 ?_
                  refine mp_Zle X 90 88 d_R_mark_85 (by decide) rfl (by omega) (fun q6 => ?_) (fun q6 => ?_)
                  · omega
                  · refine mp_iconst X 89 (v := nI 0) d_R_mark_88 rfl (by decide) ?_
                    exact mp_iret X d_R_mark_89 rfl rfl (by decide) (by decide) (rm_Z.code hc4 (by decide) hS4 hf4)
                · refine mp_iload_n X 48 d_R_mark_47 rfl rfl rfl ?_
                  refine mp_iload_n X 49 d_R_mark_48 rfl rfl rfl ?_
                  refine mp_icmp_ge X 60 52 d_R_mark_49 (by decide) rfl (fun q7 => ?_) (fun q7 => ?_)
                  · refine mp_iconst X 61 (v := nI 2) d_R_mark_60 rfl (by decide) ?_
                    refine mp_goto X 78 d_R_mark_61 (by decide) ?_
                    refine mp_putf X 81 ls_R_51_R d_R_mark_78 rfl (Or.inl rfl) (hK3.sz (by decide)) hK3.ob rfl rfl ?_
                    obtain ⟨h4, eh4⟩ : ∃ z, z = mp_set h3 26 (0) (.int (nI 2)) := ⟨_, rfl⟩
                    rw [← eh4]
                    have rh4 : ∀ a b, h4.2.1 a b = if a = 26 ∧ b = 0 then .int (nI 2) else h3.2.1 a b := by intro a b; rw [eh4]; rfl
                    have hK4 : rm_K G h4 := by rw [eh4]; exact hK3.st (Or.inr (Or.inl rfl))
                    have hf4 : mp_fr rm_A h h4 := by rw [eh4]; exact hf3.set (by unfold rm_A; omega)
                    have hS4 : rm_S h4 S := by rw [eh4]; exact hS3.cd
                    have hV4 : rm_V h4 S j := by rw [eh4]; exact hV3.st (by omega)
                    have hc4 : h4.2.1 26 0 = .int (nI 2) := by rw [rh4, if_pos ⟨rfl, rfl⟩]
                    refine mp_aload_n X 82 d_R_mark_81 rfl rfl rfl ?_
                    refine mp_getf (v := .int (nI 2)) X 85 lk_R_51_R d_R_mark_82 rfl (hK4.sz (by decide)) hK4.ob hc4 ?_
                    refine mp_Zle X 90 88 d_R_mark_85 (by decide) rfl (by omega) (fun q8 => ?_) (fun q8 => ?_)
                    · omega
                    · refine mp_iconst X 89 (v := nI 0) d_R_mark_88 rfl (by decide) ?_
                      exact mp_iret X d_R_mark_89 rfl rfl (by decide) (by decide) (rm_Z.code hc4 (by decide) hS4 hf4)
                  · refine mp_iload_n X 53 d_R_mark_52 rfl rfl rfl ?_
                    refine mp_aload_n X 54 d_R_mark_53 rfl rfl rfl ?_
                    refine mp_getf (v := .int (nI ((rm_T S j).length))) X 57 lk_R_61_R d_R_mark_54 rfl (hK3.sz (by decide)) hK3.ob hV3.1 ?_
                    refine mp_icmp_le X 64 60 d_R_mark_57 (by decide) rfl (fun q9 => ?_) (fun q9 => ?_)
                    · exfalso; obtain ⟨q0, hq0, rfl⟩ := nI_of q5; have h49 : nI q0 < t := Int32.not_le.mp q7; obtain ⟨q1, hq1, rfl⟩ := nI_of (fun z => q5 (Int32.lt_trans h49 z)); have a1 := (nI_ltI hq0 hq1).mp h49; have a2 := (nI_leI hq1 (by omega)).mp q9; rw [sp_ix_of (by omega) (by omega)] at hf0; cases hf0
                    · refine mp_iconst X 61 (v := nI 2) d_R_mark_60 rfl (by decide) ?_
                      refine mp_goto X 78 d_R_mark_61 (by decide) ?_
                      refine mp_putf X 81 ls_R_51_R d_R_mark_78 rfl (Or.inl rfl) (hK3.sz (by decide)) hK3.ob rfl rfl ?_
                      obtain ⟨h4, eh4⟩ : ∃ z, z = mp_set h3 26 (0) (.int (nI 2)) := ⟨_, rfl⟩
                      rw [← eh4]
                      have rh4 : ∀ a b, h4.2.1 a b = if a = 26 ∧ b = 0 then .int (nI 2) else h3.2.1 a b := by intro a b; rw [eh4]; rfl
                      have hK4 : rm_K G h4 := by rw [eh4]; exact hK3.st (Or.inr (Or.inl rfl))
                      have hf4 : mp_fr rm_A h h4 := by rw [eh4]; exact hf3.set (by unfold rm_A; omega)
                      have hS4 : rm_S h4 S := by rw [eh4]; exact hS3.cd
                      have hV4 : rm_V h4 S j := by rw [eh4]; exact hV3.st (by omega)
                      have hc4 : h4.2.1 26 0 = .int (nI 2) := by rw [rh4, if_pos ⟨rfl, rfl⟩]
                      refine mp_aload_n X 82 d_R_mark_81 rfl rfl rfl ?_
                      refine mp_getf (v := .int (nI 2)) X 85 lk_R_51_R d_R_mark_82 rfl (hK4.sz (by decide)) hK4.ob hc4 ?_
                      refine mp_Zle X 90 88 d_R_mark_85 (by decide) rfl (by omega) (fun q10 => ?_) (fun q10 => ?_)
                      · omega
                      · refine mp_iconst X 89 (v := nI 0) d_R_mark_88 rfl (by decide) ?_
                        exact mp_iret X d_R_mark_89 rfl rfl (by decide) (by decide) (rm_Z.code hc4 (by decide) hS4 hf4)
              · omega
      | some a =>
        obtain ⟨ha, rfl⟩ := sp_ix_some hf0 (by omega)
        cases ht0 : sp_ix ((rm_T S j).length + 1) t with
        | none =>
          have hz : sp_mark S (nI j) (nI a) t (nI k) = (2, 0, S) := by unfold sp_mark; rw [hx, hw8]; simp only []; rw [hf0, ht0]
          rw [hz]
          refine mp_aload_n X 1 d_R_mark_0 rfl rfl rfl ?_
          refine mp_iload_n X 2 d_R_mark_1 rfl rfl rfl ?_
          refine mp_callE X mp_Ts_ok 5 (rest := [.ref (G.1 + 26)]) (k_R_isPageT _ hj) Y_R_isPage in_R (mp_IS X d_R_mark_2 Y_R_isPage ml_R_83 st_R_isPage in_R (by decide) (by show _ = some 1; decide)) rfl (by decide) (by decide) (by decide) (by decide) rfl (Nat.le_of_ble_eq_true rfl) rfl ?_
          refine mp_Zeq X 24 8 d_R_mark_5 (by decide) rfl (by omega) (fun q1 => ?_) (fun q1 => ?_)
          · exact absurd q1 (by decide)
          · refine mp_iload X 10 d_R_mark_8 rfl rfl ?_
            refine mp_Zlt X 24 13 d_R_mark_10 (by decide) rfl (by omega) (fun q2 => ?_) (fun q2 => ?_)
            · exact q2.elim
            · refine mp_iload X 15 d_R_mark_13 rfl rfl ?_
              refine mp_bipush X 17 (v := nI 7) d_R_mark_15 rfl (by decide) ?_
              refine mp_Ngt X 24 20 d_R_mark_17 (by decide) rfl (by omega) (by omega) (fun q3 => ?_) (fun q3 => ?_)
              · omega
              · refine mp_iconst X 21 (v := nI 0) d_R_mark_20 rfl (by decide) ?_
                refine mp_goto X 25 d_R_mark_21 (by decide) ?_
                refine mp_putf X 28 ls_R_51_R d_R_mark_25 rfl (Or.inl rfl) (hK1.sz (by decide)) hK1.ob rfl rfl ?_
                obtain ⟨h2, eh2⟩ : ∃ z, z = mp_set h 26 (0) (.int (nI 0)) := ⟨_, rfl⟩
                rw [← eh2]
                have rh2 : ∀ a b, h2.2.1 a b = if a = 26 ∧ b = 0 then .int (nI 0) else h.2.1 a b := by intro a b; rw [eh2]; rfl
                have hK2 : rm_K G h2 := by rw [eh2]; exact hK1.st (Or.inr (Or.inl rfl))
                have hf2 : mp_fr rm_A h h2 := by rw [eh2]; exact hf1.set (by unfold rm_A; omega)
                have hS2 : rm_S h2 S := by rw [eh2]; exact hS1.cd
                have hc2 : h2.2.1 26 0 = .int (nI 0) := by rw [rh2, if_pos ⟨rfl, rfl⟩]
                refine mp_aload_n X 29 d_R_mark_28 rfl rfl rfl ?_
                refine mp_getf (v := .int (nI 0)) X 32 lk_R_51_R d_R_mark_29 rfl (hK2.sz (by decide)) hK2.ob hc2 ?_
                refine mp_Zle X 37 35 d_R_mark_32 (by decide) rfl (by omega) (fun q4 => ?_) (fun q4 => ?_)
                · refine mp_aload_n X 38 d_R_mark_37 rfl rfl rfl ?_
                  refine mp_iload_n X 39 d_R_mark_38 rfl rfl rfl ?_
                  refine mp_call X mp_Ts_ok 42 (rest := []) (k_R_look _ hK2 hS2 hok hj) Y_R_look in_R (mp_IV X (q := (nR_R, nT_R, 17)) d_R_mark_39 Y_R_look ml_R_87 im_R_look se_R_look (by decide) rfl (by decide) (by show _ = some 1; decide) (hK2.sz (by decide)) hK2.ob) rfl (by decide) (by decide) (by decide) (by decide) rfl (by decide) (fun v h3 hp => ?_) (fun x h3 q hp => hp.elim)
                  obtain ⟨rfl, hq3, hV3⟩ := hp
                  have hK3 : rm_K G h3 := hK2.fr rm_Q (by intro i a b c d; unfold rm_Q; omega) hq3
                  have hS3 : rm_S h3 S := hS2.fr (hq3.mono fun o i => rm_QP)
                  have hf3 : mp_fr rm_A h h3 := hf2.tr (hq3.mono fun o i => rm_QA)
                  refine mp_eq rfl rfl (st2 := []) rfl ?_
                  refine mp_aload_n X 43 d_R_mark_42 rfl rfl rfl ?_
                  refine mp_iload_n X 44 d_R_mark_43 rfl rfl rfl ?_
                  refine mp_Zlt X 60 47 d_R_mark_44 (by decide) rfl (by omega) (fun q5 => ?_) (fun q5 => ?_)
                  · exact q5.elim
                  · refine mp_iload_n X 48 d_R_mark_47 rfl rfl rfl ?_
                    refine mp_iload_n X 49 d_R_mark_48 rfl rfl rfl ?_
                    refine mp_icmp_ge X 60 52 d_R_mark_49 (by decide) rfl (fun q6 => ?_) (fun q6 => ?_)
                    · refine mp_iconst X 61 (v := nI 2) d_R_mark_60 rfl (by decide) ?_
                      refine mp_goto X 78 d_R_mark_61 (by decide) ?_
                      refine mp_putf X 81 ls_R_51_R d_R_mark_78 rfl (Or.inl rfl) (hK3.sz (by decide)) hK3.ob rfl rfl ?_
                      obtain ⟨h4, eh4⟩ : ∃ z, z = mp_set h3 26 (0) (.int (nI 2)) := ⟨_, rfl⟩
                      rw [← eh4]
                      have rh4 : ∀ a b, h4.2.1 a b = if a = 26 ∧ b = 0 then .int (nI 2) else h3.2.1 a b := by intro a b; rw [eh4]; rfl
                      have hK4 : rm_K G h4 := by rw [eh4]; exact hK3.st (Or.inr (Or.inl rfl))
                      have hf4 : mp_fr rm_A h h4 := by rw [eh4]; exact hf3.set (by unfold rm_A; omega)
                      have hS4 : rm_S h4 S := by rw [eh4]; exact hS3.cd
                      have hV4 : rm_V h4 S j := by rw [eh4]; exact hV3.st (by omega)
                      have hc4 : h4.2.1 26 0 = .int (nI 2) := by rw [rh4, if_pos ⟨rfl, rfl⟩]
                      refine mp_aload_n X 82 d_R_mark_81 rfl rfl rfl ?_
                      refine mp_getf (v := .int (nI 2)) X 85 lk_R_51_R d_R_mark_82 rfl (hK4.sz (by decide)) hK4.ob hc4 ?_
                      refine mp_Zle X 90 88 d_R_mark_85 (by decide) rfl (by omega) (fun q7 => ?_) (fun q7 => ?_)
                      · omega
                      · refine mp_iconst X 89 (v := nI 0) d_R_mark_88 rfl (by decide) ?_
                        exact mp_iret X d_R_mark_89 rfl rfl (by decide) (by decide) (rm_Z.code hc4 (by decide) hS4 hf4)
                    · refine mp_iload_n X 53 d_R_mark_52 rfl rfl rfl ?_
                      refine mp_aload_n X 54 d_R_mark_53 rfl rfl rfl ?_
                      refine mp_getf (v := .int (nI ((rm_T S j).length))) X 57 lk_R_61_R d_R_mark_54 rfl (hK3.sz (by decide)) hK3.ob hV3.1 ?_
                      refine mp_icmp_le X 64 60 d_R_mark_57 (by decide) rfl (fun q8 => ?_) (fun q8 => ?_)
                      · exfalso; have h49 : nI a < t := Int32.not_le.mp q6; obtain ⟨q1, hq1, rfl⟩ := nI_of (fun z => nI_pos (n := a) (by omega) (Int32.lt_trans h49 z)); have a2 := (nI_leI hq1 (by omega)).mp q8; rw [sp_ix_of (by omega) (by omega)] at ht0; cases ht0
                      · refine mp_iconst X 61 (v := nI 2) d_R_mark_60 rfl (by decide) ?_
                        refine mp_goto X 78 d_R_mark_61 (by decide) ?_
                        refine mp_putf X 81 ls_R_51_R d_R_mark_78 rfl (Or.inl rfl) (hK3.sz (by decide)) hK3.ob rfl rfl ?_
                        obtain ⟨h4, eh4⟩ : ∃ z, z = mp_set h3 26 (0) (.int (nI 2)) := ⟨_, rfl⟩
                        rw [← eh4]
                        have rh4 : ∀ a b, h4.2.1 a b = if a = 26 ∧ b = 0 then .int (nI 2) else h3.2.1 a b := by intro a b; rw [eh4]; rfl
                        have hK4 : rm_K G h4 := by rw [eh4]; exact hK3.st (Or.inr (Or.inl rfl))
                        have hf4 : mp_fr rm_A h h4 := by rw [eh4]; exact hf3.set (by unfold rm_A; omega)
                        have hS4 : rm_S h4 S := by rw [eh4]; exact hS3.cd
                        have hV4 : rm_V h4 S j := by rw [eh4]; exact hV3.st (by omega)
                        have hc4 : h4.2.1 26 0 = .int (nI 2) := by rw [rh4, if_pos ⟨rfl, rfl⟩]
                        refine mp_aload_n X 82 d_R_mark_81 rfl rfl rfl ?_
                        refine mp_getf (v := .int (nI 2)) X 85 lk_R_51_R d_R_mark_82 rfl (hK4.sz (by decide)) hK4.ob hc4 ?_
                        refine mp_Zle X 90 88 d_R_mark_85 (by decide) rfl (by omega) (fun q9 => ?_) (fun q9 => ?_)
                        · omega
                        · refine mp_iconst X 89 (v := nI 0) d_R_mark_88 rfl (by decide) ?_
                          exact mp_iret X d_R_mark_89 rfl rfl (by decide) (by decide) (rm_Z.code hc4 (by decide) hS4 hf4)
                · omega
        | some b =>
          obtain ⟨hb, rfl⟩ := sp_ix_some ht0 (by omega)
          have hz : sp_mark S (nI j) (nI a) (nI b) (nI k) = if b ≤ a then (2, 0, S) else if S.1 = 90 then (3, 0, S) else (0, nI (1 + sp_mx S j), sp_new S j 2 (some (sp_t S j a)) (if 3 < k then some (sp_t S j (b - 1)) else if b < (rm_T S j).length then some (sp_t S j b) else none) k 0) := by unfold sp_mark; rw [hx, hw8]; simp only []; rw [hf0, ht0]
          rw [hz]
          refine mp_aload_n X 1 d_R_mark_0 rfl rfl rfl ?_
          refine mp_iload_n X 2 d_R_mark_1 rfl rfl rfl ?_
          refine mp_callE X mp_Ts_ok 5 (rest := [.ref (G.1 + 26)]) (k_R_isPageT _ hj) Y_R_isPage in_R (mp_IS X d_R_mark_2 Y_R_isPage ml_R_83 st_R_isPage in_R (by decide) (by show _ = some 1; decide)) rfl (by decide) (by decide) (by decide) (by decide) rfl (Nat.le_of_ble_eq_true rfl) rfl ?_
          refine mp_Zeq X 24 8 d_R_mark_5 (by decide) rfl (by omega) (fun q1 => ?_) (fun q1 => ?_)
          · exact absurd q1 (by decide)
          · refine mp_iload X 10 d_R_mark_8 rfl rfl ?_
            refine mp_Zlt X 24 13 d_R_mark_10 (by decide) rfl (by omega) (fun q2 => ?_) (fun q2 => ?_)
            · exact q2.elim
            · refine mp_iload X 15 d_R_mark_13 rfl rfl ?_
              refine mp_bipush X 17 (v := nI 7) d_R_mark_15 rfl (by decide) ?_
              refine mp_Ngt X 24 20 d_R_mark_17 (by decide) rfl (by omega) (by omega) (fun q3 => ?_) (fun q3 => ?_)
              · omega
              · refine mp_iconst X 21 (v := nI 0) d_R_mark_20 rfl (by decide) ?_
                refine mp_goto X 25 d_R_mark_21 (by decide) ?_
                refine mp_putf X 28 ls_R_51_R d_R_mark_25 rfl (Or.inl rfl) (hK1.sz (by decide)) hK1.ob rfl rfl ?_
                obtain ⟨h2, eh2⟩ : ∃ z, z = mp_set h 26 (0) (.int (nI 0)) := ⟨_, rfl⟩
                rw [← eh2]
                have rh2 : ∀ a b, h2.2.1 a b = if a = 26 ∧ b = 0 then .int (nI 0) else h.2.1 a b := by intro a b; rw [eh2]; rfl
                have hK2 : rm_K G h2 := by rw [eh2]; exact hK1.st (Or.inr (Or.inl rfl))
                have hf2 : mp_fr rm_A h h2 := by rw [eh2]; exact hf1.set (by unfold rm_A; omega)
                have hS2 : rm_S h2 S := by rw [eh2]; exact hS1.cd
                have hc2 : h2.2.1 26 0 = .int (nI 0) := by rw [rh2, if_pos ⟨rfl, rfl⟩]
                refine mp_aload_n X 29 d_R_mark_28 rfl rfl rfl ?_
                refine mp_getf (v := .int (nI 0)) X 32 lk_R_51_R d_R_mark_29 rfl (hK2.sz (by decide)) hK2.ob hc2 ?_
                refine mp_Zle X 37 35 d_R_mark_32 (by decide) rfl (by omega) (fun q4 => ?_) (fun q4 => ?_)
                · refine mp_aload_n X 38 d_R_mark_37 rfl rfl rfl ?_
                  refine mp_iload_n X 39 d_R_mark_38 rfl rfl rfl ?_
                  refine mp_call X mp_Ts_ok 42 (rest := []) (k_R_look _ hK2 hS2 hok hj) Y_R_look in_R (mp_IV X (q := (nR_R, nT_R, 17)) d_R_mark_39 Y_R_look ml_R_87 im_R_look se_R_look (by decide) rfl (by decide) (by show _ = some 1; decide) (hK2.sz (by decide)) hK2.ob) rfl (by decide) (by decide) (by decide) (by decide) rfl (by decide) (fun v h3 hp => ?_) (fun x h3 q hp => hp.elim)
                  obtain ⟨rfl, hq3, hV3⟩ := hp
                  have hK3 : rm_K G h3 := hK2.fr rm_Q (by intro i a b c d; unfold rm_Q; omega) hq3
                  have hS3 : rm_S h3 S := hS2.fr (hq3.mono fun o i => rm_QP)
                  have hf3 : mp_fr rm_A h h3 := hf2.tr (hq3.mono fun o i => rm_QA)
                  refine mp_eq rfl rfl (st2 := []) rfl ?_
                  refine mp_aload_n X 43 d_R_mark_42 rfl rfl rfl ?_
                  refine mp_iload_n X 44 d_R_mark_43 rfl rfl rfl ?_
                  refine mp_Zlt X 60 47 d_R_mark_44 (by decide) rfl (by omega) (fun q5 => ?_) (fun q5 => ?_)
                  · exact q5.elim
                  · refine mp_iload_n X 48 d_R_mark_47 rfl rfl rfl ?_
                    refine mp_iload_n X 49 d_R_mark_48 rfl rfl rfl ?_
                    refine mp_Nge X 60 52 d_R_mark_49 (by decide) rfl (by omega) (by omega) (fun q6 => ?_) (fun q6 => ?_)
                    · refine mp_iconst X 61 (v := nI 2) d_R_mark_60 rfl (by decide) ?_
                      refine mp_goto X 78 d_R_mark_61 (by decide) ?_
                      refine mp_putf X 81 ls_R_51_R d_R_mark_78 rfl (Or.inl rfl) (hK3.sz (by decide)) hK3.ob rfl rfl ?_
                      obtain ⟨h4, eh4⟩ : ∃ z, z = mp_set h3 26 (0) (.int (nI 2)) := ⟨_, rfl⟩
                      rw [← eh4]
                      have rh4 : ∀ a b, h4.2.1 a b = if a = 26 ∧ b = 0 then .int (nI 2) else h3.2.1 a b := by intro a b; rw [eh4]; rfl
                      have hK4 : rm_K G h4 := by rw [eh4]; exact hK3.st (Or.inr (Or.inl rfl))
                      have hf4 : mp_fr rm_A h h4 := by rw [eh4]; exact hf3.set (by unfold rm_A; omega)
                      have hS4 : rm_S h4 S := by rw [eh4]; exact hS3.cd
                      have hV4 : rm_V h4 S j := by rw [eh4]; exact hV3.st (by omega)
                      have hc4 : h4.2.1 26 0 = .int (nI 2) := by rw [rh4, if_pos ⟨rfl, rfl⟩]
                      refine mp_aload_n X 82 d_R_mark_81 rfl rfl rfl ?_
                      refine mp_getf (v := .int (nI 2)) X 85 lk_R_51_R d_R_mark_82 rfl (hK4.sz (by decide)) hK4.ob hc4 ?_
                      refine mp_Zle X 90 88 d_R_mark_85 (by decide) rfl (by omega) (fun q7 => ?_) (fun q7 => ?_)
                      · omega
                      · refine mp_iconst X 89 (v := nI 0) d_R_mark_88 rfl (by decide) ?_
                        rw [if_pos q6]
                        exact mp_iret X d_R_mark_89 rfl rfl (by decide) (by decide) (rm_Z.code hc4 (by decide) hS4 hf4)
                    · refine mp_iload_n X 53 d_R_mark_52 rfl rfl rfl ?_
                      refine mp_aload_n X 54 d_R_mark_53 rfl rfl rfl ?_
                      refine mp_getf (v := .int (nI ((rm_T S j).length))) X 57 lk_R_61_R d_R_mark_54 rfl (hK3.sz (by decide)) hK3.ob hV3.1 ?_
                      refine mp_Nle X 64 60 d_R_mark_57 (by decide) rfl (by omega) (by omega) (fun q8 => ?_) (fun q8 => ?_)
                      · refine mp_aload_n X 65 d_R_mark_64 rfl rfl rfl ?_
                        refine mp_getf (v := .int (nI (S.1))) X 68 lk_R_55_R d_R_mark_65 rfl (hK3.sz (by decide)) hK3.ob hS3.1 ?_
                        refine mp_bipush X 70 (v := nI 90) d_R_mark_68 rfl (by decide) ?_
                        refine mp_Nne X 77 73 d_R_mark_70 (by decide) rfl (by omega) (by omega) (fun q9 => ?_) (fun q9 => ?_)
                        · refine mp_iconst X 78 (v := nI 0) d_R_mark_77 rfl (by decide) ?_
                          refine mp_putf X 81 ls_R_51_R d_R_mark_78 rfl (Or.inl rfl) (hK3.sz (by decide)) hK3.ob rfl rfl ?_
                          obtain ⟨h4, eh4⟩ : ∃ z, z = mp_set h3 26 (0) (.int (nI 0)) := ⟨_, rfl⟩
                          rw [← eh4]
                          have rh4 : ∀ a b, h4.2.1 a b = if a = 26 ∧ b = 0 then .int (nI 0) else h3.2.1 a b := by intro a b; rw [eh4]; rfl
                          have hK4 : rm_K G h4 := by rw [eh4]; exact hK3.st (Or.inr (Or.inl rfl))
                          have hf4 : mp_fr rm_A h h4 := by rw [eh4]; exact hf3.set (by unfold rm_A; omega)
                          have hS4 : rm_S h4 S := by rw [eh4]; exact hS3.cd
                          have hV4 : rm_V h4 S j := by rw [eh4]; exact hV3.st (by omega)
                          have hc4 : h4.2.1 26 0 = .int (nI 0) := by rw [rh4, if_pos ⟨rfl, rfl⟩]
                          refine mp_aload_n X 82 d_R_mark_81 rfl rfl rfl ?_
                          refine mp_getf (v := .int (nI 0)) X 85 lk_R_51_R d_R_mark_82 rfl (hK4.sz (by decide)) hK4.ob hc4 ?_
                          refine mp_Zle X 90 88 d_R_mark_85 (by decide) rfl (by omega) (fun q10 => ?_) (fun q10 => ?_)
                          · refine mp_iload X 92 d_R_mark_90 rfl rfl ?_
                            refine mp_iconst X 93 (v := nI 3) d_R_mark_92 rfl (by decide) ?_
                            refine mp_Nle X 107 96 d_R_mark_93 (by decide) rfl (by omega) (by omega) (fun q11 => ?_) (fun q11 => ?_)
                            · refine mp_iload_n X 108 d_R_mark_107 rfl rfl rfl ?_
                              refine mp_aload_n X 109 d_R_mark_108 rfl rfl rfl ?_
                              refine mp_getf (v := .int (nI ((rm_T S j).length))) X 112 lk_R_61_R d_R_mark_109 rfl (hK4.sz (by decide)) hK4.ob hV4.1 ?_
                              refine mp_Nge X 124 115 d_R_mark_112 (by decide) rfl (by omega) (by omega) (fun q12 => ?_) (fun q12 => ?_)
                              · refine mp_iconst X 125 (v := -1) d_R_mark_124 rfl (by decide) ?_
                                refine mp_istore X 127 (L' := [.val (.ref (G.1 + 26)), .val (.int (nI j)), .val (.int (nI a)), .val (.int (nI b)), .val (.int (nI k)), .val (.int (-1))]) d_R_mark_125 rfl rfl rfl rfl ?_
                                refine mp_aload_n X 128 d_R_mark_127 rfl rfl rfl ?_
                                refine mp_iload_n X 129 d_R_mark_128 rfl rfl rfl ?_
                                refine mp_iconst X 130 (v := nI 2) d_R_mark_129 rfl (by decide) ?_
                                refine mp_aload_n X 131 d_R_mark_130 rfl rfl rfl ?_
                                refine mp_getf (v := .ref (G.1 + 38)) X 134 lk_R_45_R d_R_mark_131 rfl (hK4.sz (by decide)) hK4.ob hK4.r_text ?_
                                refine mp_iload_n X 135 d_R_mark_134 rfl rfl rfl ?_
                                refine mp_iald (v := .int (nI ((sp_t S j a)))) X 136 (a) d_R_mark_135 rfl (hK4.sz (by decide)) hK4.k_text rfl (by omega) (by decide) (hV4.2.1 _ _ (sp_t_mem (by omega))) ?_
                                refine mp_iload X 138 d_R_mark_136 rfl rfl ?_
                                refine mp_iload X 140 d_R_mark_138 rfl rfl ?_
                                refine mp_call X mp_Ts_ok 143 (rest := []) (k_R_make (j := j) (so := 2) (wh := k) (fi := some (sp_t S j a)) (en := none) (le := 0) _ hK4 hS4 hok hj (by omega) (fun z => by cases z)) Y_R_make in_R (mp_IV X (q := (nR_R, nT_R, 17)) d_R_mark_140 Y_R_make ml_R_91 im_R_make se_R_make (by decide) rfl (by decide) (by show _ = some 5; decide) (hK4.sz (by decide)) hK4.ob) rfl (by decide) (by decide) (by decide) (by decide) rfl (by decide) (fun v h9 hp => ?_) (fun x h9 q hp => hp.elim)
                                obtain ⟨rfl, hS9, hf9⟩ := hp
                                refine mp_eq rfl rfl (st2 := [.int (nI (1 + sp_mx S j))]) rfl ?_
                                rw [if_neg (show ¬ b ≤ a by omega), if_neg q9, if_neg (show ¬ 3 < k by omega), if_neg (show ¬ b < (rm_T S j).length by omega)]
                                refine mp_iret X d_R_mark_143 rfl rfl (by decide) (by decide) ⟨?_, hS9, ⟨_, rfl, fun _ => rfl⟩, hf4.tr (hf9.mono fun o i => rm_WA)⟩
                                rw [hf9.2.2 26 0 (by unfold rm_W; omega)]
                                exact hc4
                              · refine mp_aload_n X 116 d_R_mark_115 rfl rfl rfl ?_
                                refine mp_getf (v := .ref (G.1 + 38)) X 119 lk_R_45_R d_R_mark_116 rfl (hK4.sz (by decide)) hK4.ob hK4.r_text ?_
                                refine mp_iload_n X 120 d_R_mark_119 rfl rfl rfl ?_
                                refine mp_iald (v := .int (nI ((sp_t S j b)))) X 121 (b) d_R_mark_120 rfl (hK4.sz (by decide)) hK4.k_text rfl (by omega) (by decide) (hV4.2.1 _ _ (sp_t_mem (by omega))) ?_
                                refine mp_goto X 125 d_R_mark_121 (by decide) ?_
                                refine mp_istore X 127 (L' := [.val (.ref (G.1 + 26)), .val (.int (nI j)), .val (.int (nI a)), .val (.int (nI b)), .val (.int (nI k)), .val (.int (nI ((sp_t S j b))))]) d_R_mark_125 rfl rfl rfl rfl ?_
                                refine mp_aload_n X 128 d_R_mark_127 rfl rfl rfl ?_
                                refine mp_iload_n X 129 d_R_mark_128 rfl rfl rfl ?_
                                refine mp_iconst X 130 (v := nI 2) d_R_mark_129 rfl (by decide) ?_
                                refine mp_aload_n X 131 d_R_mark_130 rfl rfl rfl ?_
                                refine mp_getf (v := .ref (G.1 + 38)) X 134 lk_R_45_R d_R_mark_131 rfl (hK4.sz (by decide)) hK4.ob hK4.r_text ?_
                                refine mp_iload_n X 135 d_R_mark_134 rfl rfl rfl ?_
                                refine mp_iald (v := .int (nI ((sp_t S j a)))) X 136 (a) d_R_mark_135 rfl (hK4.sz (by decide)) hK4.k_text rfl (by omega) (by decide) (hV4.2.1 _ _ (sp_t_mem (by omega))) ?_
                                refine mp_iload X 138 d_R_mark_136 rfl rfl ?_
                                refine mp_iload X 140 d_R_mark_138 rfl rfl ?_
                                refine mp_call X mp_Ts_ok 143 (rest := []) (k_R_make (j := j) (so := 2) (wh := k) (fi := some (sp_t S j a)) (en := some (sp_t S j b)) (le := 0) _ hK4 hS4 hok hj (by omega) (fun z => by cases z)) Y_R_make in_R (mp_IV X (q := (nR_R, nT_R, 17)) d_R_mark_140 Y_R_make ml_R_91 im_R_make se_R_make (by decide) rfl (by decide) (by show _ = some 5; decide) (hK4.sz (by decide)) hK4.ob) rfl (by decide) (by decide) (by decide) (by decide) rfl (by decide) (fun v h9 hp => ?_) (fun x h9 q hp => hp.elim)
                                obtain ⟨rfl, hS9, hf9⟩ := hp
                                refine mp_eq rfl rfl (st2 := [.int (nI (1 + sp_mx S j))]) rfl ?_
                                rw [if_neg (show ¬ b ≤ a by omega), if_neg q9, if_neg (show ¬ 3 < k by omega), if_pos (show b < (rm_T S j).length by omega)]
                                refine mp_iret X d_R_mark_143 rfl rfl (by decide) (by decide) ⟨?_, hS9, ⟨_, rfl, fun _ => rfl⟩, hf4.tr (hf9.mono fun o i => rm_WA)⟩
                                rw [hf9.2.2 26 0 (by unfold rm_W; omega)]
                                exact hc4
                            · refine mp_aload_n X 97 d_R_mark_96 rfl rfl rfl ?_
                              refine mp_getf (v := .ref (G.1 + 38)) X 100 lk_R_45_R d_R_mark_97 rfl (hK4.sz (by decide)) hK4.ob hK4.r_text ?_
                              refine mp_iload_n X 101 d_R_mark_100 rfl rfl rfl ?_
                              refine mp_iconst X 102 (v := nI 1) d_R_mark_101 rfl (by decide) ?_
                              refine mp_isub X 103 d_R_mark_102 rfl ?_
                              have e13 : nI b - nI 1 = nI (b - 1) := pk_sub (by omega)
                              rw [e13]
                              refine mp_iald (v := .int (nI ((sp_t S j (b - 1))))) X 104 (b - 1) d_R_mark_103 rfl (hK4.sz (by decide)) hK4.k_text rfl (by omega) (by decide) (hV4.2.1 _ _ (sp_t_mem (by omega))) ?_
                              refine mp_goto X 125 d_R_mark_104 (by decide) ?_
                              refine mp_istore X 127 (L' := [.val (.ref (G.1 + 26)), .val (.int (nI j)), .val (.int (nI a)), .val (.int (nI b)), .val (.int (nI k)), .val (.int (nI ((sp_t S j (b - 1)))))]) d_R_mark_125 rfl rfl rfl rfl ?_
                              refine mp_aload_n X 128 d_R_mark_127 rfl rfl rfl ?_
                              refine mp_iload_n X 129 d_R_mark_128 rfl rfl rfl ?_
                              refine mp_iconst X 130 (v := nI 2) d_R_mark_129 rfl (by decide) ?_
                              refine mp_aload_n X 131 d_R_mark_130 rfl rfl rfl ?_
                              refine mp_getf (v := .ref (G.1 + 38)) X 134 lk_R_45_R d_R_mark_131 rfl (hK4.sz (by decide)) hK4.ob hK4.r_text ?_
                              refine mp_iload_n X 135 d_R_mark_134 rfl rfl rfl ?_
                              refine mp_iald (v := .int (nI ((sp_t S j a)))) X 136 (a) d_R_mark_135 rfl (hK4.sz (by decide)) hK4.k_text rfl (by omega) (by decide) (hV4.2.1 _ _ (sp_t_mem (by omega))) ?_
                              refine mp_iload X 138 d_R_mark_136 rfl rfl ?_
                              refine mp_iload X 140 d_R_mark_138 rfl rfl ?_
                              refine mp_call X mp_Ts_ok 143 (rest := []) (k_R_make (j := j) (so := 2) (wh := k) (fi := some (sp_t S j a)) (en := some (sp_t S j (b - 1))) (le := 0) _ hK4 hS4 hok hj (by omega) (fun z => by cases z)) Y_R_make in_R (mp_IV X (q := (nR_R, nT_R, 17)) d_R_mark_140 Y_R_make ml_R_91 im_R_make se_R_make (by decide) rfl (by decide) (by show _ = some 5; decide) (hK4.sz (by decide)) hK4.ob) rfl (by decide) (by decide) (by decide) (by decide) rfl (by decide) (fun v h9 hp => ?_) (fun x h9 q hp => hp.elim)
                              obtain ⟨rfl, hS9, hf9⟩ := hp
                              refine mp_eq rfl rfl (st2 := [.int (nI (1 + sp_mx S j))]) rfl ?_
                              rw [if_neg (show ¬ b ≤ a by omega), if_neg q9, if_pos (show 3 < k by omega)]
                              refine mp_iret X d_R_mark_143 rfl rfl (by decide) (by decide) ⟨?_, hS9, ⟨_, rfl, fun _ => rfl⟩, hf4.tr (hf9.mono fun o i => rm_WA)⟩
                              rw [hf9.2.2 26 0 (by unfold rm_W; omega)]
                              exact hc4
                          · omega
                        · refine mp_iconst X 74 (v := nI 3) d_R_mark_73 rfl (by decide) ?_
                          refine mp_goto X 78 d_R_mark_74 (by decide) ?_
                          refine mp_putf X 81 ls_R_51_R d_R_mark_78 rfl (Or.inl rfl) (hK3.sz (by decide)) hK3.ob rfl rfl ?_
                          obtain ⟨h4, eh4⟩ : ∃ z, z = mp_set h3 26 (0) (.int (nI 3)) := ⟨_, rfl⟩
                          rw [← eh4]
                          have rh4 : ∀ a b, h4.2.1 a b = if a = 26 ∧ b = 0 then .int (nI 3) else h3.2.1 a b := by intro a b; rw [eh4]; rfl
                          have hK4 : rm_K G h4 := by rw [eh4]; exact hK3.st (Or.inr (Or.inl rfl))
                          have hf4 : mp_fr rm_A h h4 := by rw [eh4]; exact hf3.set (by unfold rm_A; omega)
                          have hS4 : rm_S h4 S := by rw [eh4]; exact hS3.cd
                          have hV4 : rm_V h4 S j := by rw [eh4]; exact hV3.st (by omega)
                          have hc4 : h4.2.1 26 0 = .int (nI 3) := by rw [rh4, if_pos ⟨rfl, rfl⟩]
                          refine mp_aload_n X 82 d_R_mark_81 rfl rfl rfl ?_
                          refine mp_getf (v := .int (nI 3)) X 85 lk_R_51_R d_R_mark_82 rfl (hK4.sz (by decide)) hK4.ob hc4 ?_
                          refine mp_Zle X 90 88 d_R_mark_85 (by decide) rfl (by omega) (fun q14 => ?_) (fun q14 => ?_)
                          · omega
                          · refine mp_iconst X 89 (v := nI 0) d_R_mark_88 rfl (by decide) ?_
                            rw [if_neg (show ¬ b ≤ a by omega), if_pos q9]
                            exact mp_iret X d_R_mark_89 rfl rfl (by decide) (by decide) (rm_Z.code hc4 (by decide) hS4 hf4)
                      · omega
                · omega
set_option maxRecDepth 100000 in
set_option maxHeartbeats 4000000 in
theorem k_R_length (l : Launch) {G : mp_G} {h : mp_H} {S : pq_S} {x : Int32} (hK1 : rm_K G h) (hS1 : rm_S h S) (hok : pq_ok S) :
    mp_M G mp_Ts l y_R_length 2 0 0 [.ref (G.1 + 26), .int x] h (rm_Z h (sp_length S x)) (fun _ _ => False) := by
  have hM : S.1 ≤ 90 := hok.1
  have hw := hok.2.1
  have hf1 : mp_fr rm_A h h := mp_fr.rf
  refine mp_enter (by decide) Y_R_length fun E hl X => ?_
  refine mp_eq rfl (L2 := [.val (.ref (G.1 + 26)), .val (.int x)]) rfl rfl ?_
  cases hx : sp_ix 3 x with
  | none =>
    have hz : sp_length S x = (1, 0, S) := by unfold sp_length; rw [hx]
    rw [hz]
    refine mp_aload_n X 1 d_R_length_0 rfl rfl rfl ?_
    refine mp_iload_n X 2 d_R_length_1 rfl rfl rfl ?_
    refine mp_callE X mp_Ts_ok 5 (rest := [.ref (G.1 + 26)]) (k_R_isPageF _ hx) Y_R_isPage in_R (mp_IS X d_R_length_2 Y_R_isPage ml_R_83 st_R_isPage in_R (by decide) (by show _ = some 1; decide)) rfl (by decide) (by decide) (by decide) (by decide) rfl (Nat.le_of_ble_eq_true rfl) rfl ?_
    refine mp_Zeq X 12 8 d_R_length_5 (by decide) rfl (by omega) (fun q1 => ?_) (fun q1 => ?_)
    · refine mp_iconst X 13 (v := nI 1) d_R_length_12 rfl (by decide) ?_
      refine mp_putf X 16 ls_R_51_R d_R_length_13 rfl (Or.inl rfl) (hK1.sz (by decide)) hK1.ob rfl rfl ?_
      obtain ⟨h2, eh2⟩ : ∃ z, z = mp_set h 26 (0) (.int (nI 1)) := ⟨_, rfl⟩
      rw [← eh2]
      have rh2 : ∀ a b, h2.2.1 a b = if a = 26 ∧ b = 0 then .int (nI 1) else h.2.1 a b := by intro a b; rw [eh2]; rfl
      have hK2 : rm_K G h2 := by rw [eh2]; exact hK1.st (Or.inr (Or.inl rfl))
      have hf2 : mp_fr rm_A h h2 := by rw [eh2]; exact hf1.set (by unfold rm_A; omega)
      have hS2 : rm_S h2 S := by rw [eh2]; exact hS1.cd
      have hc2 : h2.2.1 26 0 = .int (nI 1) := by rw [rh2, if_pos ⟨rfl, rfl⟩]
      refine mp_aload_n X 17 d_R_length_16 rfl rfl rfl ?_
      refine mp_getf (v := .int (nI 1)) X 20 lk_R_51_R d_R_length_17 rfl (hK2.sz (by decide)) hK2.ob hc2 ?_
      refine mp_Zle X 25 23 d_R_length_20 (by decide) rfl (by omega) (fun q2 => ?_) (fun q2 => ?_)
      · omega
      · refine mp_iconst X 24 (v := nI 0) d_R_length_23 rfl (by decide) ?_
        exact mp_iret X d_R_length_24 rfl rfl (by decide) (by decide) (rm_Z.code hc2 (by decide) hS2 hf2)
    · exact absurd rfl q1
  | some j =>
    obtain ⟨hj, rfl⟩ := sp_ix_some hx (by decide)
    have hz : sp_length S (nI j) = (0, nI (rm_T S j).length, S) := by unfold sp_length; rw [hx]
    rw [hz]
    refine mp_aload_n X 1 d_R_length_0 rfl rfl rfl ?_
    refine mp_iload_n X 2 d_R_length_1 rfl rfl rfl ?_
    refine mp_callE X mp_Ts_ok 5 (rest := [.ref (G.1 + 26)]) (k_R_isPageT _ hj) Y_R_isPage in_R (mp_IS X d_R_length_2 Y_R_isPage ml_R_83 st_R_isPage in_R (by decide) (by show _ = some 1; decide)) rfl (by decide) (by decide) (by decide) (by decide) rfl (Nat.le_of_ble_eq_true rfl) rfl ?_
    refine mp_Zeq X 12 8 d_R_length_5 (by decide) rfl (by omega) (fun q1 => ?_) (fun q1 => ?_)
    · exact absurd q1 (by decide)
    · refine mp_iconst X 9 (v := nI 0) d_R_length_8 rfl (by decide) ?_
      refine mp_goto X 13 d_R_length_9 (by decide) ?_
      refine mp_putf X 16 ls_R_51_R d_R_length_13 rfl (Or.inl rfl) (hK1.sz (by decide)) hK1.ob rfl rfl ?_
      obtain ⟨h2, eh2⟩ : ∃ z, z = mp_set h 26 (0) (.int (nI 0)) := ⟨_, rfl⟩
      rw [← eh2]
      have rh2 : ∀ a b, h2.2.1 a b = if a = 26 ∧ b = 0 then .int (nI 0) else h.2.1 a b := by intro a b; rw [eh2]; rfl
      have hK2 : rm_K G h2 := by rw [eh2]; exact hK1.st (Or.inr (Or.inl rfl))
      have hf2 : mp_fr rm_A h h2 := by rw [eh2]; exact hf1.set (by unfold rm_A; omega)
      have hS2 : rm_S h2 S := by rw [eh2]; exact hS1.cd
      have hc2 : h2.2.1 26 0 = .int (nI 0) := by rw [rh2, if_pos ⟨rfl, rfl⟩]
      refine mp_aload_n X 17 d_R_length_16 rfl rfl rfl ?_
      refine mp_getf (v := .int (nI 0)) X 20 lk_R_51_R d_R_length_17 rfl (hK2.sz (by decide)) hK2.ob hc2 ?_
      refine mp_Zle X 25 23 d_R_length_20 (by decide) rfl (by omega) (fun q2 => ?_) (fun q2 => ?_)
      · refine mp_aload_n X 26 d_R_length_25 rfl rfl rfl ?_
        refine mp_iload_n X 27 d_R_length_26 rfl rfl rfl ?_
        refine mp_call X mp_Ts_ok 30 (rest := []) (k_R_look _ hK2 hS2 hok hj) Y_R_look in_R (mp_IV X (q := (nR_R, nT_R, 17)) d_R_length_27 Y_R_look ml_R_87 im_R_look se_R_look (by decide) rfl (by decide) (by show _ = some 1; decide) (hK2.sz (by decide)) hK2.ob) rfl (by decide) (by decide) (by decide) (by decide) rfl (by decide) (fun v h3 hp => ?_) (fun x h3 q hp => hp.elim)
        obtain ⟨rfl, hq3, hV3⟩ := hp
        have hK3 : rm_K G h3 := hK2.fr rm_Q (by intro i a b c d; unfold rm_Q; omega) hq3
        have hS3 : rm_S h3 S := hS2.fr (hq3.mono fun o i => rm_QP)
        have hf3 : mp_fr rm_A h h3 := hf2.tr (hq3.mono fun o i => rm_QA)
        refine mp_eq rfl rfl (st2 := []) rfl ?_
        refine mp_aload_n X 31 d_R_length_30 rfl rfl rfl ?_
        refine mp_getf (v := .int (nI ((rm_T S j).length))) X 34 lk_R_61_R d_R_length_31 rfl (hK3.sz (by decide)) hK3.ob hV3.1 ?_
        refine mp_iret X d_R_length_34 rfl rfl (by decide) (by decide) ⟨?_, hS3, ⟨_, rfl, fun _ => rfl⟩, hf3⟩
        rw [hq3.2.2 26 0 (by unfold rm_Q; omega)]
        exact hc2
      · omega
/-- the code of a place that is asked for -/
def sp_fd (S : pq_S) (x p : Int32) : Nat := match sp_ix 3 x with
  | none => 1
  | some j => match sp_ix (rm_T S j).length p with
    | none => 2
    | some _ => 0
def rm_N (h : mp_H) (S : pq_S) (x p : Int32) (v : Option Value) (h' : mp_H) : Prop := h'.2.1 26 0 = .int (nI (sp_fd S x p)) ∧ rm_S h' S ∧ v = some (.int (if sp_fd S x p = 0 then nI 1 else nI 0)) ∧ mp_fr rm_A h h' ∧ ∀ j q, sp_ix 3 x = some j → sp_ix (rm_T S j).length p = some q → rm_V h' S j
set_option maxRecDepth 100000 in
set_option maxHeartbeats 4000000 in
theorem k_R_finds (l : Launch) {G : mp_G} {h : mp_H} {S : pq_S} {x p : Int32} (hK1 : rm_K G h) (hS1 : rm_S h S) (hok : pq_ok S) :
    mp_M G mp_Ts l y_R_finds 2 0 0 [.ref (G.1 + 26), .int x, .int p] h (rm_N h S x p) (fun _ _ => False) := by
  have hM : S.1 ≤ 90 := hok.1
  have hw := hok.2.1
  have hf1 : mp_fr rm_A h h := mp_fr.rf
  refine mp_enter (by decide) Y_R_finds fun E hl X => ?_
  refine mp_eq rfl (L2 := [.val (.ref (G.1 + 26)), .val (.int x), .val (.int p)]) rfl rfl ?_
  cases hx : sp_ix 3 x with
  | none =>
    have hz : sp_fd S x p = 1 := by unfold sp_fd; rw [hx]
    refine mp_aload_n X 1 d_R_finds_0 rfl rfl rfl ?_
    refine mp_iload_n X 2 d_R_finds_1 rfl rfl rfl ?_
    refine mp_callE X mp_Ts_ok 5 (rest := [.ref (G.1 + 26)]) (k_R_isPageF _ hx) Y_R_isPage in_R (mp_IS X d_R_finds_2 Y_R_isPage ml_R_83 st_R_isPage in_R (by decide) (by show _ = some 1; decide)) rfl (by decide) (by decide) (by decide) (by decide) rfl (Nat.le_of_ble_eq_true rfl) rfl ?_
    refine mp_Zeq X 12 8 d_R_finds_5 (by decide) rfl (by omega) (fun q1 => ?_) (fun q1 => ?_)
    · refine mp_iconst X 13 (v := nI 1) d_R_finds_12 rfl (by decide) ?_
      refine mp_putf X 16 ls_R_51_R d_R_finds_13 rfl (Or.inl rfl) (hK1.sz (by decide)) hK1.ob rfl rfl ?_
      obtain ⟨h2, eh2⟩ : ∃ z, z = mp_set h 26 (0) (.int (nI 1)) := ⟨_, rfl⟩
      rw [← eh2]
      have rh2 : ∀ a b, h2.2.1 a b = if a = 26 ∧ b = 0 then .int (nI 1) else h.2.1 a b := by intro a b; rw [eh2]; rfl
      have hK2 : rm_K G h2 := by rw [eh2]; exact hK1.st (Or.inr (Or.inl rfl))
      have hf2 : mp_fr rm_A h h2 := by rw [eh2]; exact hf1.set (by unfold rm_A; omega)
      have hS2 : rm_S h2 S := by rw [eh2]; exact hS1.cd
      have hc2 : h2.2.1 26 0 = .int (nI 1) := by rw [rh2, if_pos ⟨rfl, rfl⟩]
      refine mp_aload_n X 17 d_R_finds_16 rfl rfl rfl ?_
      refine mp_getf (v := .int (nI 1)) X 20 lk_R_51_R d_R_finds_17 rfl (hK2.sz (by decide)) hK2.ob hc2 ?_
      refine mp_Zne X 49 23 d_R_finds_20 (by decide) rfl (by omega) (fun q2 => ?_) (fun q2 => ?_)
      · refine mp_aload_n X 50 d_R_finds_49 rfl rfl rfl ?_
        refine mp_getf (v := .int (nI 1)) X 53 lk_R_51_R d_R_finds_50 rfl (hK2.sz (by decide)) hK2.ob hc2 ?_
        refine mp_Zne X 60 56 d_R_finds_53 (by decide) rfl (by omega) (fun q3 => ?_) (fun q3 => ?_)
        · refine mp_iconst X 61 (v := nI 0) d_R_finds_60 rfl (by decide) ?_
          exact mp_iret X d_R_finds_61 rfl rfl (by decide) (by decide) ⟨by rw [hz]; exact hc2, hS2, by rw [hz]; rfl, hf2, fun j q hj9 => by rw [hx] at hj9; cases hj9⟩
        · omega
      · omega
    · exact absurd rfl q1
  | some j =>
    obtain ⟨hj, rfl⟩ := sp_ix_some hx (by decide)
    have hTl := sp_T_len hok hj
    cases hp0 : sp_ix (rm_T S j).length p with
    | none =>
      have hz : sp_fd S (nI j) p = 2 := by unfold sp_fd; rw [hx]; simp only []; rw [hp0]
      refine mp_aload_n X 1 d_R_finds_0 rfl rfl rfl ?_
      refine mp_iload_n X 2 d_R_finds_1 rfl rfl rfl ?_
      refine mp_callE X mp_Ts_ok 5 (rest := [.ref (G.1 + 26)]) (k_R_isPageT _ hj) Y_R_isPage in_R (mp_IS X d_R_finds_2 Y_R_isPage ml_R_83 st_R_isPage in_R (by decide) (by show _ = some 1; decide)) rfl (by decide) (by decide) (by decide) (by decide) rfl (Nat.le_of_ble_eq_true rfl) rfl ?_
      refine mp_Zeq X 12 8 d_R_finds_5 (by decide) rfl (by omega) (fun q1 => ?_) (fun q1 => ?_)
      · exact absurd q1 (by decide)
      · refine mp_iconst X 9 (v := nI 0) d_R_finds_8 rfl (by decide) ?_
        refine mp_goto X 13 d_R_finds_9 (by decide) ?_
        refine mp_putf X 16 ls_R_51_R d_R_finds_13 rfl (Or.inl rfl) (hK1.sz (by decide)) hK1.ob rfl rfl ?_
        obtain ⟨h2, eh2⟩ : ∃ z, z = mp_set h 26 (0) (.int (nI 0)) := ⟨_, rfl⟩
        rw [← eh2]
        have rh2 : ∀ a b, h2.2.1 a b = if a = 26 ∧ b = 0 then .int (nI 0) else h.2.1 a b := by intro a b; rw [eh2]; rfl
        have hK2 : rm_K G h2 := by rw [eh2]; exact hK1.st (Or.inr (Or.inl rfl))
        have hf2 : mp_fr rm_A h h2 := by rw [eh2]; exact hf1.set (by unfold rm_A; omega)
        have hS2 : rm_S h2 S := by rw [eh2]; exact hS1.cd
        have hc2 : h2.2.1 26 0 = .int (nI 0) := by rw [rh2, if_pos ⟨rfl, rfl⟩]
        refine mp_aload_n X 17 d_R_finds_16 rfl rfl rfl ?_
        refine mp_getf (v := .int (nI 0)) X 20 lk_R_51_R d_R_finds_17 rfl (hK2.sz (by decide)) hK2.ob hc2 ?_
        refine mp_Zne X 49 23 d_R_finds_20 (by decide) rfl (by omega) (fun q2 => ?_) (fun q2 => ?_)
        · exact absurd rfl q2
        · refine mp_aload_n X 24 d_R_finds_23 rfl rfl rfl ?_
          refine mp_iload_n X 25 d_R_finds_24 rfl rfl rfl ?_
          refine mp_call X mp_Ts_ok 28 (rest := []) (k_R_look _ hK2 hS2 hok hj) Y_R_look in_R (mp_IV X (q := (nR_R, nT_R, 17)) d_R_finds_25 Y_R_look ml_R_87 im_R_look se_R_look (by decide) rfl (by decide) (by show _ = some 1; decide) (hK2.sz (by decide)) hK2.ob) rfl (by decide) (by decide) (by decide) (by decide) rfl (by decide) (fun v h3 hp => ?_) (fun x h3 q hp => hp.elim)
          obtain ⟨rfl, hq3, hV3⟩ := hp
          have hK3 : rm_K G h3 := hK2.fr rm_Q (by intro i a b c d; unfold rm_Q; omega) hq3
          have hS3 : rm_S h3 S := hS2.fr (hq3.mono fun o i => rm_QP)
          have hf3 : mp_fr rm_A h h3 := hf2.tr (hq3.mono fun o i => rm_QA)
          refine mp_eq rfl rfl (st2 := []) rfl ?_
          refine mp_aload_n X 29 d_R_finds_28 rfl rfl rfl ?_
          refine mp_iload_n X 30 d_R_finds_29 rfl rfl rfl ?_
          refine mp_if_lt X 41 33 d_R_finds_30 (by decide) rfl (fun q3 => ?_) (fun q3 => ?_)
          · refine mp_iconst X 42 (v := nI 2) d_R_finds_41 rfl (by decide) ?_
            refine mp_goto X 46 d_R_finds_42 (by decide) ?_
            refine mp_putf X 49 ls_R_51_R d_R_finds_46 rfl (Or.inl rfl) (hK3.sz (by decide)) hK3.ob rfl rfl ?_
            obtain ⟨h4, eh4⟩ : ∃ z, z = mp_set h3 26 (0) (.int (nI 2)) := ⟨_, rfl⟩
            rw [← eh4]
            have rh4 : ∀ a b, h4.2.1 a b = if a = 26 ∧ b = 0 then .int (nI 2) else h3.2.1 a b := by intro a b; rw [eh4]; rfl
            have hK4 : rm_K G h4 := by rw [eh4]; exact hK3.st (Or.inr (Or.inl rfl))
            have hf4 : mp_fr rm_A h h4 := by rw [eh4]; exact hf3.set (by unfold rm_A; omega)
            have hS4 : rm_S h4 S := by rw [eh4]; exact hS3.cd
            have hV4 : rm_V h4 S j := by rw [eh4]; exact hV3.st (by omega)
            have hc4 : h4.2.1 26 0 = .int (nI 2) := by rw [rh4, if_pos ⟨rfl, rfl⟩]
            refine mp_aload_n X 50 d_R_finds_49 rfl rfl rfl ?_
            refine mp_getf (v := .int (nI 2)) X 53 lk_R_51_R d_R_finds_50 rfl (hK4.sz (by decide)) hK4.ob hc4 ?_
            refine mp_Zne X 60 56 d_R_finds_53 (by decide) rfl (by omega) (fun q4 => ?_) (fun q4 => ?_)
            · refine mp_iconst X 61 (v := nI 0) d_R_finds_60 rfl (by decide) ?_
              exact mp_iret X d_R_finds_61 rfl rfl (by decide) (by decide) ⟨by rw [hz]; exact hc4, hS4, by rw [hz]; rfl, hf4, fun j9 q hj9 hq9 => by rw [hx] at hj9; cases hj9; rw [hp0] at hq9; cases hq9⟩
            · omega
          · refine mp_iload_n X 34 d_R_finds_33 rfl rfl rfl ?_
            refine mp_aload_n X 35 d_R_finds_34 rfl rfl rfl ?_
            refine mp_getf (v := .int (nI ((rm_T S j).length))) X 38 lk_R_61_R d_R_finds_35 rfl (hK3.sz (by decide)) hK3.ob hV3.1 ?_
            refine mp_icmp_lt X 45 41 d_R_finds_38 (by decide) rfl (fun q5 => ?_) (fun q5 => ?_)
            · exfalso; obtain ⟨q0, hq0, rfl⟩ := nI_of q3; have := (nI_ltI hq0 (by omega)).mp q5; rw [sp_ix_of (by omega) (by omega)] at hp0; cases hp0
            · refine mp_iconst X 42 (v := nI 2) d_R_finds_41 rfl (by decide) ?_
              refine mp_goto X 46 d_R_finds_42 (by decide) ?_
              refine mp_putf X 49 ls_R_51_R d_R_finds_46 rfl (Or.inl rfl) (hK3.sz (by decide)) hK3.ob rfl rfl ?_
              obtain ⟨h4, eh4⟩ : ∃ z, z = mp_set h3 26 (0) (.int (nI 2)) := ⟨_, rfl⟩
              rw [← eh4]
              have rh4 : ∀ a b, h4.2.1 a b = if a = 26 ∧ b = 0 then .int (nI 2) else h3.2.1 a b := by intro a b; rw [eh4]; rfl
              have hK4 : rm_K G h4 := by rw [eh4]; exact hK3.st (Or.inr (Or.inl rfl))
              have hf4 : mp_fr rm_A h h4 := by rw [eh4]; exact hf3.set (by unfold rm_A; omega)
              have hS4 : rm_S h4 S := by rw [eh4]; exact hS3.cd
              have hV4 : rm_V h4 S j := by rw [eh4]; exact hV3.st (by omega)
              have hc4 : h4.2.1 26 0 = .int (nI 2) := by rw [rh4, if_pos ⟨rfl, rfl⟩]
              refine mp_aload_n X 50 d_R_finds_49 rfl rfl rfl ?_
              refine mp_getf (v := .int (nI 2)) X 53 lk_R_51_R d_R_finds_50 rfl (hK4.sz (by decide)) hK4.ob hc4 ?_
              refine mp_Zne X 60 56 d_R_finds_53 (by decide) rfl (by omega) (fun q6 => ?_) (fun q6 => ?_)
              · refine mp_iconst X 61 (v := nI 0) d_R_finds_60 rfl (by decide) ?_
                exact mp_iret X d_R_finds_61 rfl rfl (by decide) (by decide) ⟨by rw [hz]; exact hc4, hS4, by rw [hz]; rfl, hf4, fun j9 q hj9 hq9 => by rw [hx] at hj9; cases hj9; rw [hp0] at hq9; cases hq9⟩
              · omega
    | some q =>
      obtain ⟨hq, rfl⟩ := sp_ix_some hp0 (by omega)
      have hz : sp_fd S (nI j) (nI q) = 0 := by unfold sp_fd; rw [hx]; simp only []; rw [hp0]
      refine mp_aload_n X 1 d_R_finds_0 rfl rfl rfl ?_
      refine mp_iload_n X 2 d_R_finds_1 rfl rfl rfl ?_
      refine mp_callE X mp_Ts_ok 5 (rest := [.ref (G.1 + 26)]) (k_R_isPageT _ hj) Y_R_isPage in_R (mp_IS X d_R_finds_2 Y_R_isPage ml_R_83 st_R_isPage in_R (by decide) (by show _ = some 1; decide)) rfl (by decide) (by decide) (by decide) (by decide) rfl (Nat.le_of_ble_eq_true rfl) rfl ?_
      refine mp_Zeq X 12 8 d_R_finds_5 (by decide) rfl (by omega) (fun q1 => ?_) (fun q1 => ?_)
      · exact absurd q1 (by decide)
      · refine mp_iconst X 9 (v := nI 0) d_R_finds_8 rfl (by decide) ?_
        refine mp_goto X 13 d_R_finds_9 (by decide) ?_
        refine mp_putf X 16 ls_R_51_R d_R_finds_13 rfl (Or.inl rfl) (hK1.sz (by decide)) hK1.ob rfl rfl ?_
        obtain ⟨h2, eh2⟩ : ∃ z, z = mp_set h 26 (0) (.int (nI 0)) := ⟨_, rfl⟩
        rw [← eh2]
        have rh2 : ∀ a b, h2.2.1 a b = if a = 26 ∧ b = 0 then .int (nI 0) else h.2.1 a b := by intro a b; rw [eh2]; rfl
        have hK2 : rm_K G h2 := by rw [eh2]; exact hK1.st (Or.inr (Or.inl rfl))
        have hf2 : mp_fr rm_A h h2 := by rw [eh2]; exact hf1.set (by unfold rm_A; omega)
        have hS2 : rm_S h2 S := by rw [eh2]; exact hS1.cd
        have hc2 : h2.2.1 26 0 = .int (nI 0) := by rw [rh2, if_pos ⟨rfl, rfl⟩]
        refine mp_aload_n X 17 d_R_finds_16 rfl rfl rfl ?_
        refine mp_getf (v := .int (nI 0)) X 20 lk_R_51_R d_R_finds_17 rfl (hK2.sz (by decide)) hK2.ob hc2 ?_
        refine mp_Zne X 49 23 d_R_finds_20 (by decide) rfl (by omega) (fun q2 => ?_) (fun q2 => ?_)
        · exact absurd rfl q2
        · refine mp_aload_n X 24 d_R_finds_23 rfl rfl rfl ?_
          refine mp_iload_n X 25 d_R_finds_24 rfl rfl rfl ?_
          refine mp_call X mp_Ts_ok 28 (rest := []) (k_R_look _ hK2 hS2 hok hj) Y_R_look in_R (mp_IV X (q := (nR_R, nT_R, 17)) d_R_finds_25 Y_R_look ml_R_87 im_R_look se_R_look (by decide) rfl (by decide) (by show _ = some 1; decide) (hK2.sz (by decide)) hK2.ob) rfl (by decide) (by decide) (by decide) (by decide) rfl (by decide) (fun v h3 hp => ?_) (fun x h3 q hp => hp.elim)
          obtain ⟨rfl, hq3, hV3⟩ := hp
          have hK3 : rm_K G h3 := hK2.fr rm_Q (by intro i a b c d; unfold rm_Q; omega) hq3
          have hS3 : rm_S h3 S := hS2.fr (hq3.mono fun o i => rm_QP)
          have hf3 : mp_fr rm_A h h3 := hf2.tr (hq3.mono fun o i => rm_QA)
          refine mp_eq rfl rfl (st2 := []) rfl ?_
          refine mp_aload_n X 29 d_R_finds_28 rfl rfl rfl ?_
          refine mp_iload_n X 30 d_R_finds_29 rfl rfl rfl ?_
          refine mp_Zlt X 41 33 d_R_finds_30 (by decide) rfl (by omega) (fun q3 => ?_) (fun q3 => ?_)
          · exact q3.elim
          · refine mp_iload_n X 34 d_R_finds_33 rfl rfl rfl ?_
            refine mp_aload_n X 35 d_R_finds_34 rfl rfl rfl ?_
            refine mp_getf (v := .int (nI ((rm_T S j).length))) X 38 lk_R_61_R d_R_finds_35 rfl (hK3.sz (by decide)) hK3.ob hV3.1 ?_
            refine mp_Nlt X 45 41 d_R_finds_38 (by decide) rfl (by omega) (by omega) (fun q4 => ?_) (fun q4 => ?_)
            · refine mp_iconst X 46 (v := nI 0) d_R_finds_45 rfl (by decide) ?_
              refine mp_putf X 49 ls_R_51_R d_R_finds_46 rfl (Or.inl rfl) (hK3.sz (by decide)) hK3.ob rfl rfl ?_
              obtain ⟨h4, eh4⟩ : ∃ z, z = mp_set h3 26 (0) (.int (nI 0)) := ⟨_, rfl⟩
              rw [← eh4]
              have rh4 : ∀ a b, h4.2.1 a b = if a = 26 ∧ b = 0 then .int (nI 0) else h3.2.1 a b := by intro a b; rw [eh4]; rfl
              have hK4 : rm_K G h4 := by rw [eh4]; exact hK3.st (Or.inr (Or.inl rfl))
              have hf4 : mp_fr rm_A h h4 := by rw [eh4]; exact hf3.set (by unfold rm_A; omega)
              have hS4 : rm_S h4 S := by rw [eh4]; exact hS3.cd
              have hV4 : rm_V h4 S j := by rw [eh4]; exact hV3.st (by omega)
              have hc4 : h4.2.1 26 0 = .int (nI 0) := by rw [rh4, if_pos ⟨rfl, rfl⟩]
              refine mp_aload_n X 50 d_R_finds_49 rfl rfl rfl ?_
              refine mp_getf (v := .int (nI 0)) X 53 lk_R_51_R d_R_finds_50 rfl (hK4.sz (by decide)) hK4.ob hc4 ?_
              refine mp_Zne X 60 56 d_R_finds_53 (by decide) rfl (by omega) (fun q5 => ?_) (fun q5 => ?_)
              · exact absurd rfl q5
              · refine mp_iconst X 57 (v := nI 1) d_R_finds_56 rfl (by decide) ?_
                refine mp_goto X 61 d_R_finds_57 (by decide) ?_
                exact mp_iret X d_R_finds_61 rfl rfl (by decide) (by decide) ⟨by rw [hz]; exact hc4, hS4, by rw [hz]; rfl, hf4, fun j9 q9 hj9 hq9 => by rw [hx] at hj9; cases hj9; exact hV4⟩
            · omega
set_option maxRecDepth 100000 in
set_option maxHeartbeats 4000000 in
theorem k_R_at (l : Launch) {G : mp_G} {h : mp_H} {S : pq_S} {x p : Int32} (hK1 : rm_K G h) (hS1 : rm_S h S) (hok : pq_ok S) (hcl : ∀ k, k < S.1 → pq_so S.2.1 k = 0 → narrow .char (.int (pq_le S.2.1 k)) = .int (pq_le S.2.1 k)) :
    mp_M G mp_Ts l y_R_at 3 0 0 [.ref (G.1 + 26), .int x, .int p] h (rm_Z h (sp_at S x p)) (fun _ _ => False) := by
  have hM : S.1 ≤ 90 := hok.1
  have hw := hok.2.1
  have hf1 : mp_fr rm_A h h := mp_fr.rf
  refine mp_enter (by decide) Y_R_at fun E hl X => ?_
  refine mp_eq rfl (L2 := [.val (.ref (G.1 + 26)), .val (.int x), .val (.int p)]) rfl rfl ?_
  cases hx : sp_ix 3 x with
  | none =>
    have hz : sp_at S x p = (1, 0, S) := by unfold sp_at sp_get; rw [hx]
    have hfd : sp_fd S x p = 1 := by unfold sp_fd; rw [hx]
    rw [hz]
    refine mp_aload_n X 1 d_R_at_0 rfl rfl rfl ?_
    refine mp_iload_n X 2 d_R_at_1 rfl rfl rfl ?_
    refine mp_iload_n X 3 d_R_at_2 rfl rfl rfl ?_
    refine mp_call X mp_Ts_ok 6 (rest := []) (k_R_finds _ hK1 hS1 hok) Y_R_finds in_R (mp_IV X (q := (nR_R, nT_R, 17)) d_R_at_3 Y_R_finds ml_R_95 im_R_finds se_R_finds (by decide) rfl (by decide) (by show _ = some 2; decide) (hK1.sz (by decide)) hK1.ob) rfl (by decide) (by decide) (by decide) (by decide) rfl (by decide) (fun v h2 hp => ?_) (fun x h2 q hp => hp.elim)
    obtain ⟨hc2, hS2, hv, hf2, hV2⟩ := hp
    rw [hfd] at hc2 hv
    subst hv
    have hK2 : rm_K G h2 := rm_K.frA hK1 hf2
    refine mp_eq rfl rfl (st2 := [.int (nI 0)]) rfl ?_
    refine mp_Zeq X 23 9 d_R_at_6 (by decide) rfl (by omega) (fun q1 => ?_) (fun q1 => ?_)
    · refine mp_iconst X 24 (v := nI 0) d_R_at_23 rfl (by decide) ?_
      exact mp_iret X d_R_at_24 rfl rfl (by decide) (by decide) (rm_Z.code hc2 (by decide) hS2 hf2)
    · exact absurd rfl q1
  | some j =>
    obtain ⟨hj, rfl⟩ := sp_ix_some hx (by decide)
    have hTl := sp_T_len hok hj
    cases hp0 : sp_ix (rm_T S j).length p with
    | none =>
      have hz : sp_at S (nI j) p = (2, 0, S) := by unfold sp_at sp_get; rw [hx]; simp only []; rw [hp0]
      have hfd : sp_fd S (nI j) p = 2 := by unfold sp_fd; rw [hx]; simp only []; rw [hp0]
      rw [hz]
      refine mp_aload_n X 1 d_R_at_0 rfl rfl rfl ?_
      refine mp_iload_n X 2 d_R_at_1 rfl rfl rfl ?_
      refine mp_iload_n X 3 d_R_at_2 rfl rfl rfl ?_
      refine mp_call X mp_Ts_ok 6 (rest := []) (k_R_finds _ hK1 hS1 hok) Y_R_finds in_R (mp_IV X (q := (nR_R, nT_R, 17)) d_R_at_3 Y_R_finds ml_R_95 im_R_finds se_R_finds (by decide) rfl (by decide) (by show _ = some 2; decide) (hK1.sz (by decide)) hK1.ob) rfl (by decide) (by decide) (by decide) (by decide) rfl (by decide) (fun v h2 hp => ?_) (fun x h2 q hp => hp.elim)
      obtain ⟨hc2, hS2, hv, hf2, hV2⟩ := hp
      rw [hfd] at hc2 hv
      subst hv
      have hK2 : rm_K G h2 := rm_K.frA hK1 hf2
      refine mp_eq rfl rfl (st2 := [.int (nI 0)]) rfl ?_
      refine mp_Zeq X 23 9 d_R_at_6 (by decide) rfl (by omega) (fun q1 => ?_) (fun q1 => ?_)
      · refine mp_iconst X 24 (v := nI 0) d_R_at_23 rfl (by decide) ?_
        exact mp_iret X d_R_at_24 rfl rfl (by decide) (by decide) (rm_Z.code hc2 (by decide) hS2 hf2)
      · exact absurd rfl q1
    | some q =>
      obtain ⟨hq, rfl⟩ := sp_ix_some hp0 (by omega)
      have hz : sp_at S (nI j) (nI q) = (0, pq_le S.2.1 (sp_t S j q), S) := by unfold sp_at sp_get; rw [hx]; simp only []; rw [hp0]
      have hfd : sp_fd S (nI j) (nI q) = 0 := by unfold sp_fd; rw [hx]; simp only []; rw [hp0]
      rw [hz]
      have htr := sp_t_row hq
      obtain ⟨htM, htso, -, -⟩ := rm_row_lt hw (hok.2.2.1 j hj) htr
      refine mp_aload_n X 1 d_R_at_0 rfl rfl rfl ?_
      refine mp_iload_n X 2 d_R_at_1 rfl rfl rfl ?_
      refine mp_iload_n X 3 d_R_at_2 rfl rfl rfl ?_
      refine mp_call X mp_Ts_ok 6 (rest := []) (k_R_finds _ hK1 hS1 hok) Y_R_finds in_R (mp_IV X (q := (nR_R, nT_R, 17)) d_R_at_3 Y_R_finds ml_R_95 im_R_finds se_R_finds (by decide) rfl (by decide) (by show _ = some 2; decide) (hK1.sz (by decide)) hK1.ob) rfl (by decide) (by decide) (by decide) (by decide) rfl (by decide) (fun v h2 hp => ?_) (fun x h2 q hp => hp.elim)
      obtain ⟨hc2, hS2, hv, hf2, hV2⟩ := hp
      rw [hfd] at hc2 hv
      subst hv
      have hK2 : rm_K G h2 := rm_K.frA hK1 hf2
      have hV2 := hV2 j q hx hp0
      refine mp_eq rfl rfl (st2 := [.int (nI 1)]) rfl ?_
      refine mp_Zeq X 23 9 d_R_at_6 (by decide) rfl (by omega) (fun q1 => ?_) (fun q1 => ?_)
      · exact absurd q1 (by decide)
      · refine mp_aload_n X 10 d_R_at_9 rfl rfl rfl ?_
        refine mp_getf (v := .ref (G.1 + 32)) X 13 lk_R_25_R d_R_at_10 rfl (hK2.sz (by decide)) hK2.ob hK2.r_letters ?_
        refine mp_aload_n X 14 d_R_at_13 rfl rfl rfl ?_
        refine mp_getf (v := .ref (G.1 + 38)) X 17 lk_R_45_R d_R_at_14 rfl (hK2.sz (by decide)) hK2.ob hK2.r_text ?_
        refine mp_iload_n X 18 d_R_at_17 rfl rfl rfl ?_
        refine mp_iald (v := .int (nI ((sp_t S j q)))) X 19 (q) d_R_at_18 rfl (hK2.sz (by decide)) hK2.k_text rfl (by omega) (by decide) (hV2.2.1 _ _ (sp_t_mem hq)) ?_
        refine mp_cald (v := .int (pq_le S.2.1 (sp_t S j q))) X 20 ((sp_t S j q)) d_R_at_19 rfl (hK2.sz (by decide)) hK2.k_letters rfl (by omega) (by decide) ((hS2.2.1 _ htM).2.2.2.2.2 htso) ?_
        refine mp_goto X 24 d_R_at_20 (by decide) ?_
        exact mp_iret X d_R_at_24 rfl (hcl _ htM htso) (by decide) (by decide) ⟨hc2, hS2, ⟨_, rfl, fun _ => rfl⟩, hf2⟩
set_option maxRecDepth 100000 in
set_option maxHeartbeats 4000000 in
theorem k_R_id (l : Launch) {G : mp_G} {h : mp_H} {S : pq_S} {x p : Int32} (hK1 : rm_K G h) (hS1 : rm_S h S) (hok : pq_ok S) :
    mp_M G mp_Ts l y_R_id 3 0 0 [.ref (G.1 + 26), .int x, .int p] h (rm_Z h (sp_id S x p)) (fun _ _ => False) := by
  have hM : S.1 ≤ 90 := hok.1
  have hw := hok.2.1
  have hf1 : mp_fr rm_A h h := mp_fr.rf
  refine mp_enter (by decide) Y_R_id fun E hl X => ?_
  refine mp_eq rfl (L2 := [.val (.ref (G.1 + 26)), .val (.int x), .val (.int p)]) rfl rfl ?_
  cases hx : sp_ix 3 x with
  | none =>
    have hz : sp_id S x p = (1, 0, S) := by unfold sp_id sp_get; rw [hx]
    have hfd : sp_fd S x p = 1 := by unfold sp_fd; rw [hx]
    rw [hz]
    refine mp_aload_n X 1 d_R_id_0 rfl rfl rfl ?_
    refine mp_iload_n X 2 d_R_id_1 rfl rfl rfl ?_
    refine mp_iload_n X 3 d_R_id_2 rfl rfl rfl ?_
    refine mp_call X mp_Ts_ok 6 (rest := []) (k_R_finds _ hK1 hS1 hok) Y_R_finds in_R (mp_IV X (q := (nR_R, nT_R, 17)) d_R_id_3 Y_R_finds ml_R_95 im_R_finds se_R_finds (by decide) rfl (by decide) (by show _ = some 2; decide) (hK1.sz (by decide)) hK1.ob) rfl (by decide) (by decide) (by decide) (by decide) rfl (by decide) (fun v h2 hp => ?_) (fun x h2 q hp => hp.elim)
    obtain ⟨hc2, hS2, hv, hf2, hV2⟩ := hp
    rw [hfd] at hc2 hv
    subst hv
    have hK2 : rm_K G h2 := rm_K.frA hK1 hf2
    refine mp_eq rfl rfl (st2 := [.int (nI 0)]) rfl ?_
    refine mp_Zeq X 23 9 d_R_id_6 (by decide) rfl (by omega) (fun q1 => ?_) (fun q1 => ?_)
    · refine mp_iconst X 24 (v := nI 0) d_R_id_23 rfl (by decide) ?_
      exact mp_iret X d_R_id_24 rfl rfl (by decide) (by decide) (rm_Z.code hc2 (by decide) hS2 hf2)
    · exact absurd rfl q1
  | some j =>
    obtain ⟨hj, rfl⟩ := sp_ix_some hx (by decide)
    have hTl := sp_T_len hok hj
    cases hp0 : sp_ix (rm_T S j).length p with
    | none =>
      have hz : sp_id S (nI j) p = (2, 0, S) := by unfold sp_id sp_get; rw [hx]; simp only []; rw [hp0]
      have hfd : sp_fd S (nI j) p = 2 := by unfold sp_fd; rw [hx]; simp only []; rw [hp0]
      rw [hz]
      refine mp_aload_n X 1 d_R_id_0 rfl rfl rfl ?_
      refine mp_iload_n X 2 d_R_id_1 rfl rfl rfl ?_
      refine mp_iload_n X 3 d_R_id_2 rfl rfl rfl ?_
      refine mp_call X mp_Ts_ok 6 (rest := []) (k_R_finds _ hK1 hS1 hok) Y_R_finds in_R (mp_IV X (q := (nR_R, nT_R, 17)) d_R_id_3 Y_R_finds ml_R_95 im_R_finds se_R_finds (by decide) rfl (by decide) (by show _ = some 2; decide) (hK1.sz (by decide)) hK1.ob) rfl (by decide) (by decide) (by decide) (by decide) rfl (by decide) (fun v h2 hp => ?_) (fun x h2 q hp => hp.elim)
      obtain ⟨hc2, hS2, hv, hf2, hV2⟩ := hp
      rw [hfd] at hc2 hv
      subst hv
      have hK2 : rm_K G h2 := rm_K.frA hK1 hf2
      refine mp_eq rfl rfl (st2 := [.int (nI 0)]) rfl ?_
      refine mp_Zeq X 23 9 d_R_id_6 (by decide) rfl (by omega) (fun q1 => ?_) (fun q1 => ?_)
      · refine mp_iconst X 24 (v := nI 0) d_R_id_23 rfl (by decide) ?_
        exact mp_iret X d_R_id_24 rfl rfl (by decide) (by decide) (rm_Z.code hc2 (by decide) hS2 hf2)
      · exact absurd rfl q1
    | some q =>
      obtain ⟨hq, rfl⟩ := sp_ix_some hp0 (by omega)
      have hz : sp_id S (nI j) (nI q) = (0, nI (pq_id S.2.1 (sp_t S j q)), S) := by unfold sp_id sp_get; rw [hx]; simp only []; rw [hp0]
      have hfd : sp_fd S (nI j) (nI q) = 0 := by unfold sp_fd; rw [hx]; simp only []; rw [hp0]
      rw [hz]
      have htr := sp_t_row hq
      obtain ⟨htM, htso, -, -⟩ := rm_row_lt hw (hok.2.2.1 j hj) htr
      refine mp_aload_n X 1 d_R_id_0 rfl rfl rfl ?_
      refine mp_iload_n X 2 d_R_id_1 rfl rfl rfl ?_
      refine mp_iload_n X 3 d_R_id_2 rfl rfl rfl ?_
      refine mp_call X mp_Ts_ok 6 (rest := []) (k_R_finds _ hK1 hS1 hok) Y_R_finds in_R (mp_IV X (q := (nR_R, nT_R, 17)) d_R_id_3 Y_R_finds ml_R_95 im_R_finds se_R_finds (by decide) rfl (by decide) (by show _ = some 2; decide) (hK1.sz (by decide)) hK1.ob) rfl (by decide) (by decide) (by decide) (by decide) rfl (by decide) (fun v h2 hp => ?_) (fun x h2 q hp => hp.elim)
      obtain ⟨hc2, hS2, hv, hf2, hV2⟩ := hp
      rw [hfd] at hc2 hv
      subst hv
      have hK2 : rm_K G h2 := rm_K.frA hK1 hf2
      have hV2 := hV2 j q hx hp0
      refine mp_eq rfl rfl (st2 := [.int (nI 1)]) rfl ?_
      refine mp_Zeq X 23 9 d_R_id_6 (by decide) rfl (by omega) (fun q1 => ?_) (fun q1 => ?_)
      · exact absurd q1 (by decide)
      · refine mp_aload_n X 10 d_R_id_9 rfl rfl rfl ?_
        refine mp_getf (v := .ref (G.1 + 28)) X 13 lk_R_13_R d_R_id_10 rfl (hK2.sz (by decide)) hK2.ob hK2.r_ids ?_
        refine mp_aload_n X 14 d_R_id_13 rfl rfl rfl ?_
        refine mp_getf (v := .ref (G.1 + 38)) X 17 lk_R_45_R d_R_id_14 rfl (hK2.sz (by decide)) hK2.ob hK2.r_text ?_
        refine mp_iload_n X 18 d_R_id_17 rfl rfl rfl ?_
        refine mp_iald (v := .int (nI ((sp_t S j q)))) X 19 (q) d_R_id_18 rfl (hK2.sz (by decide)) hK2.k_text rfl (by omega) (by decide) (hV2.2.1 _ _ (sp_t_mem hq)) ?_
        refine mp_iald (v := .int (nI ((pq_id S.2.1 (sp_t S j q))))) X 20 ((sp_t S j q)) d_R_id_19 rfl (hK2.sz (by decide)) hK2.k_ids rfl (by omega) (by decide) ((hS2.2.1 _ htM).2.1) ?_
        refine mp_goto X 24 d_R_id_20 (by decide) ?_
        exact mp_iret X d_R_id_24 rfl rfl (by decide) (by decide) ⟨hc2, hS2, ⟨_, rfl, fun _ => rfl⟩, hf2⟩
set_option maxRecDepth 100000 in
set_option maxHeartbeats 4000000 in
theorem k_R_format (l : Launch) {G : mp_G} {h : mp_H} {S : pq_S} {x p : Int32} (hK1 : rm_K G h) (hS1 : rm_S h S) (hok : pq_ok S) :
    mp_M G mp_Ts l y_R_format 3 0 0 [.ref (G.1 + 26), .int x, .int p] h (rm_Z h (sp_format S x p)) (fun _ _ => False) := by
  have hM : S.1 ≤ 90 := hok.1
  have hw := hok.2.1
  have hf1 : mp_fr rm_A h h := mp_fr.rf
  refine mp_enter (by decide) Y_R_format fun E hl X => ?_
  refine mp_eq rfl (L2 := [.val (.ref (G.1 + 26)), .val (.int x), .val (.int p)]) rfl rfl ?_
  cases hx : sp_ix 3 x with
  | none =>
    have hz : sp_format S x p = (1, 0, S) := by unfold sp_format sp_get; rw [hx]
    have hfd : sp_fd S x p = 1 := by unfold sp_fd; rw [hx]
    rw [hz]
    refine mp_aload_n X 1 d_R_format_0 rfl rfl rfl ?_
    refine mp_iload_n X 2 d_R_format_1 rfl rfl rfl ?_
    refine mp_iload_n X 3 d_R_format_2 rfl rfl rfl ?_
    refine mp_call X mp_Ts_ok 6 (rest := []) (k_R_finds _ hK1 hS1 hok) Y_R_finds in_R (mp_IV X (q := (nR_R, nT_R, 17)) d_R_format_3 Y_R_finds ml_R_95 im_R_finds se_R_finds (by decide) rfl (by decide) (by show _ = some 2; decide) (hK1.sz (by decide)) hK1.ob) rfl (by decide) (by decide) (by decide) (by decide) rfl (by decide) (fun v h2 hp => ?_) (fun x h2 q hp => hp.elim)
    obtain ⟨hc2, hS2, hv, hf2, hV2⟩ := hp
    rw [hfd] at hc2 hv
    subst hv
    have hK2 : rm_K G h2 := rm_K.frA hK1 hf2
    refine mp_eq rfl rfl (st2 := [.int (nI 0)]) rfl ?_
    refine mp_Zeq X 23 9 d_R_format_6 (by decide) rfl (by omega) (fun q1 => ?_) (fun q1 => ?_)
    · refine mp_iconst X 24 (v := nI 0) d_R_format_23 rfl (by decide) ?_
      exact mp_iret X d_R_format_24 rfl rfl (by decide) (by decide) (rm_Z.code hc2 (by decide) hS2 hf2)
    · exact absurd rfl q1
  | some j =>
    obtain ⟨hj, rfl⟩ := sp_ix_some hx (by decide)
    have hTl := sp_T_len hok hj
    cases hp0 : sp_ix (rm_T S j).length p with
    | none =>
      have hz : sp_format S (nI j) p = (2, 0, S) := by unfold sp_format sp_get; rw [hx]; simp only []; rw [hp0]
      have hfd : sp_fd S (nI j) p = 2 := by unfold sp_fd; rw [hx]; simp only []; rw [hp0]
      rw [hz]
      refine mp_aload_n X 1 d_R_format_0 rfl rfl rfl ?_
      refine mp_iload_n X 2 d_R_format_1 rfl rfl rfl ?_
      refine mp_iload_n X 3 d_R_format_2 rfl rfl rfl ?_
      refine mp_call X mp_Ts_ok 6 (rest := []) (k_R_finds _ hK1 hS1 hok) Y_R_finds in_R (mp_IV X (q := (nR_R, nT_R, 17)) d_R_format_3 Y_R_finds ml_R_95 im_R_finds se_R_finds (by decide) rfl (by decide) (by show _ = some 2; decide) (hK1.sz (by decide)) hK1.ob) rfl (by decide) (by decide) (by decide) (by decide) rfl (by decide) (fun v h2 hp => ?_) (fun x h2 q hp => hp.elim)
      obtain ⟨hc2, hS2, hv, hf2, hV2⟩ := hp
      rw [hfd] at hc2 hv
      subst hv
      have hK2 : rm_K G h2 := rm_K.frA hK1 hf2
      refine mp_eq rfl rfl (st2 := [.int (nI 0)]) rfl ?_
      refine mp_Zeq X 23 9 d_R_format_6 (by decide) rfl (by omega) (fun q1 => ?_) (fun q1 => ?_)
      · refine mp_iconst X 24 (v := nI 0) d_R_format_23 rfl (by decide) ?_
        exact mp_iret X d_R_format_24 rfl rfl (by decide) (by decide) (rm_Z.code hc2 (by decide) hS2 hf2)
      · exact absurd rfl q1
    | some q =>
      obtain ⟨hq, rfl⟩ := sp_ix_some hp0 (by omega)
      have hz : sp_format S (nI j) (nI q) = (0, nI (sp_fm S j q), S) := by unfold sp_format sp_get; rw [hx]; simp only []; rw [hp0]
      have hfd : sp_fd S (nI j) (nI q) = 0 := by unfold sp_fd; rw [hx]; simp only []; rw [hp0]
      rw [hz]
      have htr := sp_t_row hq
      obtain ⟨htM, htso, -, -⟩ := rm_row_lt hw (hok.2.2.1 j hj) htr
      refine mp_aload_n X 1 d_R_format_0 rfl rfl rfl ?_
      refine mp_iload_n X 2 d_R_format_1 rfl rfl rfl ?_
      refine mp_iload_n X 3 d_R_format_2 rfl rfl rfl ?_
      refine mp_call X mp_Ts_ok 6 (rest := []) (k_R_finds _ hK1 hS1 hok) Y_R_finds in_R (mp_IV X (q := (nR_R, nT_R, 17)) d_R_format_3 Y_R_finds ml_R_95 im_R_finds se_R_finds (by decide) rfl (by decide) (by show _ = some 2; decide) (hK1.sz (by decide)) hK1.ob) rfl (by decide) (by decide) (by decide) (by decide) rfl (by decide) (fun v h2 hp => ?_) (fun x h2 q hp => hp.elim)
      obtain ⟨hc2, hS2, hv, hf2, hV2⟩ := hp
      rw [hfd] at hc2 hv
      subst hv
      have hK2 : rm_K G h2 := rm_K.frA hK1 hf2
      have hV2 := hV2 j q hx hp0
      refine mp_eq rfl rfl (st2 := [.int (nI 1)]) rfl ?_
      refine mp_Zeq X 23 9 d_R_format_6 (by decide) rfl (by omega) (fun q1 => ?_) (fun q1 => ?_)
      · exact absurd q1 (by decide)
      · refine mp_aload_n X 10 d_R_format_9 rfl rfl rfl ?_
        refine mp_iload_n X 11 d_R_format_10 rfl rfl rfl ?_
        refine mp_aload_n X 12 d_R_format_11 rfl rfl rfl ?_
        refine mp_getf (v := .ref (G.1 + 38)) X 15 lk_R_45_R d_R_format_12 rfl (hK2.sz (by decide)) hK2.ob hK2.r_text ?_
        refine mp_iload_n X 16 d_R_format_15 rfl rfl rfl ?_
        refine mp_iald (v := .int (nI ((sp_t S j q)))) X 17 (q) d_R_format_16 rfl (hK2.sz (by decide)) hK2.k_text rfl (by omega) (by decide) (hV2.2.1 _ _ (sp_t_mem hq)) ?_
        refine mp_callE X mp_Ts_ok 20 (rest := []) (k_R_formatOf _ hK2 hS2 hV2 hok hj htr) Y_R_formatOf in_R (mp_IV X (q := (nR_R, nT_R, 17)) d_R_format_17 Y_R_formatOf ml_R_98 im_R_formatOf se_R_formatOf (by decide) rfl (by decide) (by show _ = some 2; decide) (hK2.sz (by decide)) hK2.ob) rfl (by decide) (by decide) (by decide) (by decide) rfl (by decide) rfl ?_
        refine mp_goto X 24 d_R_format_20 (by decide) ?_
        exact mp_iret X d_R_format_24 rfl rfl (by decide) (by decide) ⟨hc2, hS2, ⟨_, rfl, fun _ => rfl⟩, hf2⟩
end
section
/-! Counting what is known. -/
def rm_ct (f : Nat → Bool) : Nat → Nat
  | 0 => 0
  | n + 1 => rm_ct f n + (if f n then 1 else 0)
theorem rm_ct_le (f : Nat → Bool) : ∀ n, rm_ct f n ≤ n
  | 0 => Nat.le_refl _
  | n + 1 => by unfold rm_ct; have := rm_ct_le f n; split <;> omega
theorem rm_ct_ext {f g : Nat → Bool} : ∀ n, (∀ k, k < n → f k = g k) → rm_ct f n = rm_ct g n
  | 0, _ => rfl
  | n + 1, h => by unfold rm_ct; rw [rm_ct_ext n (fun k hk => h k (by omega)), h n (by omega)]
theorem rm_ct_add {f g : Nat → Bool} {a : Nat} (hf : f a = false) (hg : g a = true) (h : ∀ k, k ≠ a → g k = f k) : ∀ n, a < n → rm_ct g n = rm_ct f n + 1
  | 0, h0 => by omega
  | n + 1, h0 => by
    unfold rm_ct
    by_cases e : a = n
    · subst e
      rw [hf, hg, rm_ct_ext a (fun k hk => h k (by omega))]
      rfl
    · rw [rm_ct_add hf hg h n (by omega), h n (fun z => e z.symm)]
      omega
theorem rm_ct_zero {f : Nat → Bool} : ∀ n, (∀ k, k < n → f k = false) → rm_ct f n = 0
  | 0, _ => rfl
  | n + 1, h => by unfold rm_ct; rw [rm_ct_zero n (fun k hk => h k (by omega)), h n (by omega)]; rfl
/-- how many of a sort are known -/
theorem rm_ct_so {M : Nat} {O : pq_O} {kn : Nat → Nat} {s : Nat} (len : Nat → Nat) (h0 : len 0 = 0) (h1 : ∀ c, pq_so O (kn c) = s → len (c + 1) = len c + 1) (h2 : ∀ c, pq_so O (kn c) ≠ s → len (c + 1) = len c) :
    ∀ c, pq_kn M O kn c → rm_ct (fun k => pq_kw kn c k && pq_so O k == s) M = len c := by
  intro c
  induction c with
  | zero => intro _; rw [h0]; exact rm_ct_zero M (fun k hk => rfl)
  | succ c ih =>
    intro hk
    have hk' : pq_kn M O kn c := ⟨fun i hi => hk.1 i (by omega), fun i j hi hj => hk.2.1 i j (by omega) (by omega), fun i hi => hk.2.2 i (by omega)⟩
    have hnew : pq_kw kn c (kn c) = false := by
      cases hb : pq_kw kn c (kn c) with
      | false => rfl
      | true =>
        obtain ⟨i, hi, e⟩ := (pq_kw_iff kn _ c).mp hb
        have := hk.2.1 i c (by omega) (by omega) e
        omega
    by_cases hs : pq_so O (kn c) = s
    · rw [h1 c hs, ← ih hk']
      refine rm_ct_add (a := kn c) ?_ ?_ (fun k hkc => ?_) M (hk.1 c (by omega))
      · simp [hnew]
      · simp [pq_kw, hs]
      · have : (kn c == k) = false := by simpa using fun z : kn c = k => hkc z.symm
        simp [pq_kw, this]
    · rw [h2 c hs, ← ih hk']
      refine rm_ct_ext M (fun k hkM => ?_)
      by_cases e : k = kn c
      · rw [e]
        have : (pq_so O (kn c) == s) = false := by simpa using hs
        simp [this]
      · have : (kn c == k) = false := by simpa using fun z : kn c = k => e z.symm
        simp [pq_kw, this]
theorem rm_ct_row {S : pq_S} {j : Nat} (hok : pq_ok S) (hj : j < 3) : rm_ct (fun k => pq_kw (S.2.2.1 j) (S.2.2.2 j) k && pq_so S.2.1 k == 0) S.1 = (rm_F S j).length := by
  refine rm_ct_so (fun c => (pq_row S.2.1 (S.2.2.1 j) c).length) rfl (fun c hc => ?_) (fun c hc => ?_) _ (hok.2.2.1 j hj)
  · show (pq_row S.2.1 (S.2.2.1 j) (c + 1)).length = _
    unfold pq_row
    rw [if_pos hc, pq_ins_len]
    cases c <;> rfl
  · show (pq_row S.2.1 (S.2.2.1 j) (c + 1)).length = _
    unfold pq_row
    rw [if_neg hc]
    cases c <;> rfl
theorem rm_ct_mk {S : pq_S} {j : Nat} (hok : pq_ok S) (hj : j < 3) : rm_ct (fun k => pq_kw (S.2.2.1 j) (S.2.2.2 j) k && pq_so S.2.1 k == 2) S.1 = (sp_mk S j).length := by
  refine rm_ct_so (fun c => (pq_mk S.2.1 (S.2.2.1 j) c).length) rfl (fun c hc => ?_) (fun c hc => ?_) _ (hok.2.2.1 j hj)
  · show (pq_mk S.2.1 (S.2.2.1 j) (c + 1)).length = _
    unfold pq_mk
    rw [if_pos hc, pq_mins_len]
    cases c <;> rfl
  · show (pq_mk S.2.1 (S.2.2.1 j) (c + 1)).length = _
    unfold pq_mk
    rw [if_neg hc]
    cases c <;> rfl
/-- telling keeps the state sound -/
theorem sp_tl_ok {S : pq_S} (hok : pq_ok S) {a b n : Nat} (ha : a < 3) (hb : b < 3) : ∀ i, i ≤ S.2.2.2 a → pq_ok (sp_tl S a b n i).1 ∧ (sp_tl S a b n i).1.1 = S.1 ∧ (sp_tl S a b n i).1.2.1 = S.2.1 ∧ (∀ c, c ≠ b → (sp_tl S a b n i).1.2.2.1 c = S.2.2.1 c ∧ (sp_tl S a b n i).1.2.2.2 c = S.2.2.2 c) ∧ (a = b → (sp_tl S a b n i).1 = S) ∧ (sp_tl S a b n i).2 ≤ i ∧ ((sp_tl S a b n i).2 < n → ∀ k, k < i → pq_kw ((sp_tl S a b n i).1.2.2.1 b) ((sp_tl S a b n i).1.2.2.2 b) (S.2.2.1 a k) = true) ∧ (∀ k, pq_kw (S.2.2.1 b) (S.2.2.2 b) k = true → pq_kw ((sp_tl S a b n i).1.2.2.1 b) ((sp_tl S a b n i).1.2.2.2 b) k = true) := by
  intro i
  induction i with
  | zero => intro _; exact ⟨hok, rfl, rfl, fun c _ => ⟨rfl, rfl⟩, fun _ => rfl, Nat.le_refl _, fun _ k hk => by omega, fun k h => h⟩
  | succ i ih =>
    intro hi
    obtain ⟨h1, h2, h3, h4, h5, h6, h7, h8⟩ := ih (by omega)
    generalize hT : sp_tl S a b n i = T at h1 h2 h3 h4 h5 h6 h7 h8
    have e : sp_tl S a b n (i + 1) = if T.2 < n ∧ pq_kw (T.1.2.2.1 b) (T.1.2.2.2 b) (S.2.2.1 a i) = false then (pq_lrn T.1 b (S.2.2.1 a i), T.2 + 1) else T := by
      rw [← hT]; rfl
    by_cases hc : T.2 < n ∧ pq_kw (T.1.2.2.1 b) (T.1.2.2.2 b) (S.2.2.1 a i) = false
    · rw [e, if_pos hc]
      have hab : a ≠ b := fun z => by
        have hTS := h5 z
        have h9 := hc.2
        rw [hTS, ← z] at h9
        have : pq_kw (S.2.2.1 a) (S.2.2.2 a) (S.2.2.1 a i) = true := (pq_kw_iff _ _ _).mpr ⟨i, by omega, rfl⟩
        rw [this] at h9; cases h9
      have hkM : S.2.2.1 a i < S.1 := (hok.2.2.1 a ha).1 i (by omega)
      have hkw_new : ∀ k, pq_kw ((pq_lrn T.1 b (S.2.2.1 a i)).2.2.1 b) ((pq_lrn T.1 b (S.2.2.1 a i)).2.2.2 b) k = (pq_kw (T.1.2.2.1 b) (T.1.2.2.2 b) k || S.2.2.1 a i == k) := by
        intro k
        have e1 : (pq_lrn T.1 b (S.2.2.1 a i)).2.2.2 b = T.1.2.2.2 b + 1 := by simp [pq_lrn]
        rw [e1]
        show (pq_kw _ (T.1.2.2.2 b) k || (pq_lrn T.1 b (S.2.2.1 a i)).2.2.1 b (T.1.2.2.2 b) == k) = _
        rw [pq_kw_ext (kn := T.1.2.2.1 b) k (T.1.2.2.2 b) (fun q hq => by show (if b = b ∧ q = T.1.2.2.2 b then _ else _) = _; rw [if_neg (by omega)])]
        congr 2
        show (if b = b ∧ T.1.2.2.2 b = T.1.2.2.2 b then _ else _) = _
        rw [if_pos ⟨rfl, rfl⟩]
      have hother : ∀ c, c ≠ b → (pq_lrn T.1 b (S.2.2.1 a i)).2.2.1 c = T.1.2.2.1 c ∧ (pq_lrn T.1 b (S.2.2.1 a i)).2.2.2 c = T.1.2.2.2 c := by
        intro c hcb
        refine ⟨?_, ?_⟩
        · funext q
          show (if c = b ∧ q = T.1.2.2.2 b then _ else _) = _
          rw [if_neg (fun z => hcb z.1)]
        · show (if c = b then _ else _) = _
          rw [if_neg hcb]
      refine ⟨⟨h1.1, h1.2.1, fun c hc3 => ?_, fun k hk => ?_⟩, h2, h3, fun c hcb => ⟨(hother c hcb).1.trans (h4 c hcb).1, (hother c hcb).2.trans (h4 c hcb).2⟩, fun z => absurd z hab, by show T.2 + 1 ≤ i + 1; omega, fun ht k hk => ?_, fun k h => ?_⟩
      · by_cases hcb : c = b
        · subst hcb
          refine pq_lrn_kn (h1.2.2.1 c hc3) (by rw [h2]; exact hkM) (fun q hq hz => ?_) (fun p hp => ?_)
          · have : pq_kw (T.1.2.2.1 c) (T.1.2.2.2 c) (S.2.2.1 a i) = true := (pq_kw_iff _ _ _).mpr ⟨q, hq, hz⟩
            rw [this] at hc; cases hc.2
          · rw [h3] at hp
            obtain ⟨q, hq, hqp⟩ := (hok.2.2.1 a ha).2.2 i (by omega) p hp
            have := h7 hc.1 q hq
            rw [hqp] at this
            exact (pq_kw_iff _ _ _).mp this
        · rw [(hother c hcb).1, (hother c hcb).2]
          exact h1.2.2.1 c hc3
      · obtain ⟨q, hq, hqk⟩ := h1.2.2.2 k hk
        have hkw : pq_kw (T.1.2.2.1 (pq_pg T.1.2.1 k)) (T.1.2.2.2 (pq_pg T.1.2.1 k)) k = true := (pq_kw_iff _ _ _).mpr ⟨q, hq, hqk⟩
        show ∃ i_1, i_1 < (pq_lrn T.1 b (S.2.2.1 a i)).2.2.2 (pq_pg T.1.2.1 k) ∧ (pq_lrn T.1 b (S.2.2.1 a i)).2.2.1 (pq_pg T.1.2.1 k) i_1 = k
        by_cases hcb : pq_pg T.1.2.1 k = b
        · rw [hcb] at hkw ⊢
          refine (pq_kw_iff _ _ _).mp ?_
          rw [hkw_new, hkw]; rfl
        · rw [(hother _ hcb).1, (hother _ hcb).2]
          exact ⟨q, hq, hqk⟩
      · show pq_kw ((pq_lrn T.1 b (S.2.2.1 a i)).2.2.1 b) ((pq_lrn T.1 b (S.2.2.1 a i)).2.2.2 b) _ = true
        rw [hkw_new]
        by_cases e2 : k = i
        · subst e2; simp
        · rw [h7 (by have : T.2 + 1 < n := ht; omega) k (by omega)]; rfl
      · show pq_kw ((pq_lrn T.1 b (S.2.2.1 a i)).2.2.1 b) ((pq_lrn T.1 b (S.2.2.1 a i)).2.2.2 b) _ = true
        rw [hkw_new, h8 k h]; rfl
    · rw [e, if_neg hc]
      refine ⟨h1, h2, h3, h4, h5, by omega, fun ht k hk => ?_, h8⟩
      by_cases e2 : k = i
      · subst e2
        cases hb2 : pq_kw (T.1.2.2.1 b) (T.1.2.2.2 b) (S.2.2.1 a k) with
        | true => rfl
        | false => exact absurd ⟨ht, hb2⟩ hc
      · exact h7 ht k (by omega)
/-- once n were told nothing more is -/
theorem sp_tl_stop {S : pq_S} {a b n i : Nat} (h : ¬ (sp_tl S a b n i).2 < n) : ∀ m, sp_tl S a b n (i + m) = sp_tl S a b n i
  | 0 => rfl
  | m + 1 => by
    have ih := sp_tl_stop h m
    have e : sp_tl S a b n (i + (m + 1)) = if (sp_tl S a b n (i + m)).2 < n ∧ pq_kw ((sp_tl S a b n (i + m)).1.2.2.1 b) ((sp_tl S a b n (i + m)).1.2.2.2 b) (S.2.2.1 a (i + m)) = false then (pq_lrn (sp_tl S a b n (i + m)).1 b (S.2.2.1 a (i + m)), (sp_tl S a b n (i + m)).2 + 1) else sp_tl S a b n (i + m) := rfl
    rw [e, if_neg (fun z => h (by rw [← ih]; exact z.1))]
    exact ih
end
section
/-! The reference: begins, runs, run, count, alike, tell (rows laid by program). -/
theorem rm_b_n (b : Bool) : ∃ n : Nat, rm_b b = nI n ∧ (n = 1 ∧ b = true ∨ n = 0 ∧ b = false) := by
  cases b
  · exact ⟨0, rfl, Or.inr ⟨rfl, rfl⟩⟩
  · exact ⟨1, rfl, Or.inl ⟨rfl, rfl⟩⟩
theorem rm_LA {o i : Nat} (h : rm_L o i) : rm_A o i := by unfold rm_L at h; unfold rm_A; omega
def rm_m : Nat → Int32
  | 0 => -1
  | n + 1 => nI n
theorem rm_m1 (n : Nat) : rm_m n + nI 1 = rm_m (n + 1) := by
  cases n with
  | zero => decide
  | succ n => exact nI_add _ _
theorem rm_m0 {n : Nat} (h : 0 < n) : rm_m n + nI 0 = rm_m n := by
  cases n with
  | zero => omega
  | succ n => exact nI_add _ _
theorem rm_mp {n : Nat} (h : 0 < n) : rm_m n = nI (n - 1) := by
  cases n with
  | zero => omega
  | succ n => rfl
theorem pq_ru_s (f : Nat → Nat) (p : Nat) : pq_ru f (p + 1) = pq_ru f p + (if pq_bg f p then 1 else 0) := rfl
theorem pq_sr_in {f : Nat → Nat} {r n : Nat} (h : r < pq_ru f n) : pq_sr f r n < n := by
  have h1 := pq_sr_le f r n
  have h2 : n ≠ 0 := fun z => by subst z; cases h
  rcases Nat.lt_or_ge (pq_sr f r n) n with h3 | h3
  · exact h3
  · have h4 := (pq_sr_spec f r n (n - 1) (by omega)).mp (by omega)
    rw [show n - 1 + 1 = n by omega] at h4
    omega
theorem sp_ak_f {S : pq_S} {a b k : Nat} (h : sp_ak S a b k = false) : ∀ m, sp_ak S a b (k + m) = false
  | 0 => h
  | m + 1 => by
    show (sp_ak S a b (k + m) && _) = false
    rw [sp_ak_f h m]; rfl
set_option maxRecDepth 100000 in
set_option maxHeartbeats 4000000 in
theorem k_R_begins0 (l : Launch) {G : mp_G} {h : mp_H} {S : pq_S} {j p : Nat} (hK1 : rm_K G h) (hS1 : rm_S h S) (hV1 : rm_V h S j) (hok : pq_ok S) (hj : j < 3) (hp : p < (rm_T S j).length) :
    mp_M G mp_Ts l y_R_begins 2 0 0 [.ref (G.1 + 26), .int (nI j), .int (nI p)] h (fun v h' => h' = h ∧ v = some (.int (rm_b (pq_bg (sp_fm S j) p)))) (fun _ _ => False) := by
  have hTl := sp_T_len hok hj
  have hf1 := pq_fm_lt S.2.1 (rm_F S j) (sp_t S j p) (sp_mk S j)
  have hf2 := pq_fm_lt S.2.1 (rm_F S j) (sp_t S j (p - 1)) (sp_mk S j)
  change sp_fm S j p < 16 at hf1
  change sp_fm S j (p - 1) < 16 at hf2
  refine mp_enter (by decide) Y_R_begins fun E hl X => ?_
  refine mp_eq rfl (L2 := [.val (.ref (G.1 + 26)), .val (.int (nI j)), .val (.int (nI p)), .unset]) rfl rfl ?_
  refine mp_iload_n X 1 d_R_begins_0 rfl rfl rfl ?_
  refine mp_Zne X 6 4 d_R_begins_1 (by decide) rfl (by omega) (fun q1 => ?_) (fun q1 => ?_)
  · refine mp_aload_n X 7 d_R_begins_6 rfl rfl rfl ?_
    refine mp_iload_n X 8 d_R_begins_7 rfl rfl rfl ?_
    refine mp_aload_n X 9 d_R_begins_8 rfl rfl rfl ?_
    refine mp_getf (v := .ref (G.1 + 38)) X 12 lk_R_45_R d_R_begins_9 rfl (hK1.sz (by decide)) hK1.ob hK1.r_text ?_
    refine mp_iload_n X 13 d_R_begins_12 rfl rfl rfl ?_
    refine mp_iconst X 14 (v := nI 1) d_R_begins_13 rfl (by decide) ?_
    refine mp_isub X 15 d_R_begins_14 rfl ?_
    have e2 : nI p - nI 1 = nI (p - 1) := pk_sub (by omega)
    rw [e2]
    refine mp_iald (v := .int (nI ((sp_t S j (p - 1))))) X 16 (p - 1) d_R_begins_15 rfl (hK1.sz (by decide)) hK1.k_text rfl (by omega) (by decide) (hV1.2.1 _ _ (sp_t_mem (by omega))) ?_
    refine mp_callE X mp_Ts_ok 19 (rest := []) (k_R_formatOf _ hK1 hS1 hV1 hok hj (sp_t_row (q := (p - 1)) (by omega))) Y_R_formatOf in_R (mp_IV X (q := (nR_R, nT_R, 17)) d_R_begins_16 Y_R_formatOf ml_R_98 im_R_formatOf se_R_formatOf (by decide) rfl (by decide) (by show _ = some 2; decide) (hK1.sz (by decide)) hK1.ob) rfl (by decide) (by decide) (by decide) (by decide) rfl (by decide) rfl ?_
    refine mp_eq rfl rfl (st2 := [.int (nI (sp_fm S j (p - 1)))]) rfl ?_
    refine mp_istore_n X 20 (L' := [.val (.ref (G.1 + 26)), .val (.int (nI j)), .val (.int (nI p)), .val (.int (nI ((sp_fm S j (p - 1)))))]) d_R_begins_19 rfl rfl rfl rfl rfl ?_
    refine mp_aload_n X 21 d_R_begins_20 rfl rfl rfl ?_
    refine mp_iload_n X 22 d_R_begins_21 rfl rfl rfl ?_
    refine mp_aload_n X 23 d_R_begins_22 rfl rfl rfl ?_
    refine mp_getf (v := .ref (G.1 + 38)) X 26 lk_R_45_R d_R_begins_23 rfl (hK1.sz (by decide)) hK1.ob hK1.r_text ?_
    refine mp_iload_n X 27 d_R_begins_26 rfl rfl rfl ?_
    refine mp_iald (v := .int (nI ((sp_t S j p)))) X 28 (p) d_R_begins_27 rfl (hK1.sz (by decide)) hK1.k_text rfl (by omega) (by decide) (hV1.2.1 _ _ (sp_t_mem (by omega))) ?_
    refine mp_callE X mp_Ts_ok 31 (rest := []) (k_R_formatOf _ hK1 hS1 hV1 hok hj (sp_t_row (q := p) (by omega))) Y_R_formatOf in_R (mp_IV X (q := (nR_R, nT_R, 17)) d_R_begins_28 Y_R_formatOf ml_R_98 im_R_formatOf se_R_formatOf (by decide) rfl (by decide) (by show _ = some 2; decide) (hK1.sz (by decide)) hK1.ob) rfl (by decide) (by decide) (by decide) (by decide) rfl (by decide) rfl ?_
    refine mp_eq rfl rfl (st2 := [.int (nI (sp_fm S j p))]) rfl ?_
    refine mp_iload_n X 32 d_R_begins_31 rfl rfl rfl ?_
    refine mp_Neq X 39 35 d_R_begins_32 (by decide) rfl (by omega) (by omega) (fun q3 => ?_) (fun q3 => ?_)
    · refine mp_iconst X 40 (v := nI 0) d_R_begins_39 rfl (by decide) ?_
      have eb : pq_bg (sp_fm S j) p = false := by simp [pq_bg, q1, q3]
      exact mp_iret X d_R_begins_40 rfl rfl (by decide) (by decide) ⟨rfl, by rw [eb]; rfl⟩
    · refine mp_iconst X 36 (v := nI 1) d_R_begins_35 rfl (by decide) ?_
      refine mp_goto X 40 d_R_begins_36 (by decide) ?_
      have eb : pq_bg (sp_fm S j) p = true := by simp [pq_bg, q1, q3]
      exact mp_iret X d_R_begins_40 rfl rfl (by decide) (by decide) ⟨rfl, by rw [eb]; rfl⟩
  · refine mp_iconst X 5 (v := nI 1) d_R_begins_4 rfl (by decide) ?_
    have eb : pq_bg (sp_fm S j) p = true := by unfold pq_bg; rw [q1]; rfl
    exact mp_iret X d_R_begins_5 rfl rfl (by decide) (by decide) ⟨rfl, by rw [eb]; rfl⟩
theorem k_R_begins (l : Launch) {G : mp_G} {h : mp_H} {S : pq_S} {j p n : Nat} (hK1 : rm_K G h) (hS1 : rm_S h S) (hV1 : rm_V h S j) (hok : pq_ok S) (hj : j < 3) (hp : p < (rm_T S j).length) (hn : rm_b (pq_bg (sp_fm S j) p) = nI n) :
    mp_M G mp_Ts l y_R_begins 2 0 0 [.ref (G.1 + 26), .int (nI j), .int (nI p)] h (fun v h' => h' = h ∧ v = some (.int (nI n))) (fun _ _ => False) := by
  rw [← hn]
  exact k_R_begins0 l hK1 hS1 hV1 hok hj hp
set_option maxRecDepth 100000 in
set_option maxHeartbeats 4000000 in
theorem k_R_runs (l : Launch) {G : mp_G} {h : mp_H} {S : pq_S} {x : Int32} (hK1 : rm_K G h) (hS1 : rm_S h S) (hok : pq_ok S) :
    mp_M G mp_Ts l y_R_runs 3 0 0 [.ref (G.1 + 26), .int x] h (rm_Z h (sp_runs S x)) (fun _ _ => False) := by
  have hM : S.1 ≤ 90 := hok.1
  have hw := hok.2.1
  have hf1 : mp_fr rm_A h h := mp_fr.rf
  refine mp_enter (by decide) Y_R_runs fun E hl X => ?_
  refine mp_eq rfl (L2 := [.val (.ref (G.1 + 26)), .val (.int x), .unset, .unset]) rfl rfl ?_
  cases hx : sp_ix 3 x with
  | none =>
    have hz : sp_runs S x = (1, 0, S) := by unfold sp_runs; rw [hx]
    rw [hz]
    refine mp_aload_n X 1 d_R_runs_0 rfl rfl rfl ?_
    refine mp_iload_n X 2 d_R_runs_1 rfl rfl rfl ?_
    refine mp_callE X mp_Ts_ok 5 (rest := [.ref (G.1 + 26)]) (k_R_isPageF _ hx) Y_R_isPage in_R (mp_IS X d_R_runs_2 Y_R_isPage ml_R_83 st_R_isPage in_R (by decide) (by show _ = some 1; decide)) rfl (by decide) (by decide) (by decide) (by decide) rfl (Nat.le_of_ble_eq_true rfl) rfl ?_
    refine mp_Zeq X 12 8 d_R_runs_5 (by decide) rfl (by omega) (fun q1 => ?_) (fun q1 => ?_)
    · refine mp_iconst X 13 (v := nI 1) d_R_runs_12 rfl (by decide) ?_
      refine mp_putf X 16 ls_R_51_R d_R_runs_13 rfl (Or.inl rfl) (hK1.sz (by decide)) hK1.ob rfl rfl ?_
      obtain ⟨h2, eh2⟩ : ∃ z, z = mp_set h 26 (0) (.int (nI 1)) := ⟨_, rfl⟩
      rw [← eh2]
      have rh2 : ∀ a b, h2.2.1 a b = if a = 26 ∧ b = 0 then .int (nI 1) else h.2.1 a b := by intro a b; rw [eh2]; rfl
      have hK2 : rm_K G h2 := by rw [eh2]; exact hK1.st (Or.inr (Or.inl rfl))
      have hf2 : mp_fr rm_A h h2 := by rw [eh2]; exact hf1.set (by unfold rm_A; omega)
      have hS2 : rm_S h2 S := by rw [eh2]; exact hS1.cd
      have hc2 : h2.2.1 26 0 = .int (nI 1) := by rw [rh2, if_pos ⟨rfl, rfl⟩]
      refine mp_aload_n X 17 d_R_runs_16 rfl rfl rfl ?_
      refine mp_getf (v := .int (nI 1)) X 20 lk_R_51_R d_R_runs_17 rfl (hK2.sz (by decide)) hK2.ob hc2 ?_
      refine mp_Zle X 25 23 d_R_runs_20 (by decide) rfl (by omega) (fun q2 => ?_) (fun q2 => ?_)
      · omega
      · refine mp_iconst X 24 (v := nI 0) d_R_runs_23 rfl (by decide) ?_
        exact mp_iret X d_R_runs_24 rfl rfl (by decide) (by decide) (rm_Z.code hc2 (by decide) hS2 hf2)
    · exact absurd rfl q1
  | some j =>
    obtain ⟨hj, rfl⟩ := sp_ix_some hx (by decide)
    have hTl := sp_T_len hok hj
    have hz : sp_runs S (nI j) = (0, nI (pq_ru (sp_fm S j) (rm_T S j).length), S) := by unfold sp_runs; rw [hx]
    rw [hz]
    refine mp_aload_n X 1 d_R_runs_0 rfl rfl rfl ?_
    refine mp_iload_n X 2 d_R_runs_1 rfl rfl rfl ?_
    refine mp_callE X mp_Ts_ok 5 (rest := [.ref (G.1 + 26)]) (k_R_isPageT _ hj) Y_R_isPage in_R (mp_IS X d_R_runs_2 Y_R_isPage ml_R_83 st_R_isPage in_R (by decide) (by show _ = some 1; decide)) rfl (by decide) (by decide) (by decide) (by decide) rfl (Nat.le_of_ble_eq_true rfl) rfl ?_
    refine mp_Zeq X 12 8 d_R_runs_5 (by decide) rfl (by omega) (fun q1 => ?_) (fun q1 => ?_)
    · exact absurd q1 (by decide)
    · refine mp_iconst X 9 (v := nI 0) d_R_runs_8 rfl (by decide) ?_
      refine mp_goto X 13 d_R_runs_9 (by decide) ?_
      refine mp_putf X 16 ls_R_51_R d_R_runs_13 rfl (Or.inl rfl) (hK1.sz (by decide)) hK1.ob rfl rfl ?_
      obtain ⟨h2, eh2⟩ : ∃ z, z = mp_set h 26 (0) (.int (nI 0)) := ⟨_, rfl⟩
      rw [← eh2]
      have rh2 : ∀ a b, h2.2.1 a b = if a = 26 ∧ b = 0 then .int (nI 0) else h.2.1 a b := by intro a b; rw [eh2]; rfl
      have hK2 : rm_K G h2 := by rw [eh2]; exact hK1.st (Or.inr (Or.inl rfl))
      have hf2 : mp_fr rm_A h h2 := by rw [eh2]; exact hf1.set (by unfold rm_A; omega)
      have hS2 : rm_S h2 S := by rw [eh2]; exact hS1.cd
      have hc2 : h2.2.1 26 0 = .int (nI 0) := by rw [rh2, if_pos ⟨rfl, rfl⟩]
      refine mp_aload_n X 17 d_R_runs_16 rfl rfl rfl ?_
      refine mp_getf (v := .int (nI 0)) X 20 lk_R_51_R d_R_runs_17 rfl (hK2.sz (by decide)) hK2.ob hc2 ?_
      refine mp_Zle X 25 23 d_R_runs_20 (by decide) rfl (by omega) (fun q2 => ?_) (fun q2 => ?_)
      · refine mp_aload_n X 26 d_R_runs_25 rfl rfl rfl ?_
        refine mp_iload_n X 27 d_R_runs_26 rfl rfl rfl ?_
        refine mp_call X mp_Ts_ok 30 (rest := []) (k_R_look _ hK2 hS2 hok hj) Y_R_look in_R (mp_IV X (q := (nR_R, nT_R, 17)) d_R_runs_27 Y_R_look ml_R_87 im_R_look se_R_look (by decide) rfl (by decide) (by show _ = some 1; decide) (hK2.sz (by decide)) hK2.ob) rfl (by decide) (by decide) (by decide) (by decide) rfl (by decide) (fun v h3 hp => ?_) (fun x h3 q hp => hp.elim)
        obtain ⟨rfl, hq3, hV3⟩ := hp
        have hK3 : rm_K G h3 := hK2.fr rm_Q (by intro i a b c d; unfold rm_Q; omega) hq3
        have hS3 : rm_S h3 S := hS2.fr (hq3.mono fun o i => rm_QP)
        have hf3 : mp_fr rm_A h h3 := hf2.tr (hq3.mono fun o i => rm_QA)
        refine mp_eq rfl rfl (st2 := []) rfl ?_
        refine mp_iconst X 31 (v := nI 0) d_R_runs_30 rfl (by decide) ?_
        refine mp_istore_n X 32 (L' := [.val (.ref (G.1 + 26)), .val (.int (nI j)), .val (.int (nI 0)), .unset]) d_R_runs_31 rfl rfl rfl rfl rfl ?_
        refine mp_iconst X 33 (v := nI 0) d_R_runs_32 rfl (by decide) ?_
        refine mp_istore_n X 34 (L' := [.val (.ref (G.1 + 26)), .val (.int (nI j)), .val (.int (nI 0)), .val (.int (nI 0))]) d_R_runs_33 rfl rfl rfl rfl rfl ?_
        have hc3 : h3.2.1 26 0 = .int (nI 0) := by rw [hq3.2.2 26 0 (by unfold rm_Q; omega)]; exact hc2
        have hloop : ∀ (n p : Nat), p + n = (rm_T S j).length → mp_W G E h3 0 0 (mp_Q G E 0 0 (rm_Z h (0, nI (pq_ru (sp_fm S j) (rm_T S j).length), S)) (fun _ _ => False)) 34 [.val (.ref (G.1 + 26)), .val (.int (nI j)), .val (.int (nI (pq_ru (sp_fm S j) p))), .val (.int (nI p))] [] := by
          intro n
          induction n with
          | zero =>
            intro p hpn
            have hpl : p = (rm_T S j).length := by omega
            subst hpl
            refine mp_iload_n X 35 d_R_runs_34 rfl rfl rfl ?_
            refine mp_aload_n X 36 d_R_runs_35 rfl rfl rfl ?_
            refine mp_getf (v := .int (nI ((rm_T S j).length))) X 39 lk_R_61_R d_R_runs_36 rfl (hK3.sz (by decide)) hK3.ob hV3.1 ?_
            refine mp_Nge X 65 42 d_R_runs_39 (by decide) rfl (by omega) (by omega) (fun q1 => ?_) (fun q1 => ?_)
            · refine mp_iload_n X 66 d_R_runs_65 rfl rfl rfl ?_
              exact mp_iret X d_R_runs_66 rfl rfl (by decide) (by decide) ⟨hc3, hS3, ⟨_, rfl, fun _ => rfl⟩, hf3⟩
            · omega
          | succ n ih =>
            intro p hpn
            obtain ⟨bn, hbn, hb⟩ := rm_b_n (pq_bg (sp_fm S j) p)
            have hbl : bn < 2 := by omega
            refine mp_iload_n X 35 d_R_runs_34 rfl rfl rfl ?_
            refine mp_aload_n X 36 d_R_runs_35 rfl rfl rfl ?_
            refine mp_getf (v := .int (nI ((rm_T S j).length))) X 39 lk_R_61_R d_R_runs_36 rfl (hK3.sz (by decide)) hK3.ob hV3.1 ?_
            refine mp_Nge X 65 42 d_R_runs_39 (by decide) rfl (by omega) (by omega) (fun q1 => ?_) (fun q1 => ?_)
            · omega
            · refine mp_iload_n X 43 d_R_runs_42 rfl rfl rfl ?_
              refine mp_aload_n X 44 d_R_runs_43 rfl rfl rfl ?_
              refine mp_iload_n X 45 d_R_runs_44 rfl rfl rfl ?_
              refine mp_iload_n X 46 d_R_runs_45 rfl rfl rfl ?_
              refine mp_callE X mp_Ts_ok 49 (rest := [.int (nI ((pq_ru (sp_fm S j) p)))]) (k_R_begins (p := p) (n := bn) _ hK3 hS3 hV3 hok hj (by omega) hbn) Y_R_begins in_R (mp_IV X (q := (nR_R, nT_R, 17)) d_R_runs_46 Y_R_begins ml_R_101 im_R_begins se_R_begins (by decide) rfl (by decide) (by show _ = some 2; decide) (hK3.sz (by decide)) hK3.ob) rfl (by decide) (by decide) (by decide) (by decide) rfl (Nat.le_of_ble_eq_true rfl) rfl ?_
              refine mp_Zeq X 56 52 d_R_runs_49 (by decide) rfl (by omega) (fun q2 => ?_) (fun q2 => ?_)
              · refine mp_iconst X 57 (v := nI 0) d_R_runs_56 rfl (by decide) ?_
                refine mp_iadd X 58 d_R_runs_57 rfl ?_
                rw [nI_add]
                refine mp_istore_n X 59 (L' := [.val (.ref (G.1 + 26)), .val (.int (nI j)), .val (.int (nI ((pq_ru (sp_fm S j) p) + 0))), .val (.int (nI p))]) d_R_runs_58 rfl rfl rfl rfl rfl ?_
                refine mp_iinc X 62 (L' := [.val (.ref (G.1 + 26)), .val (.int (nI j)), .val (.int (nI ((pq_ru (sp_fm S j) p) + 0))), .val (.int (nI (p + 1)))]) (v := nI (p + 1)) d_R_runs_59 rfl rfl (nI_1 _) rfl ?_
                refine mp_goto X 34 d_R_runs_62 (by decide) ?_
                have hbb : pq_bg (sp_fm S j) p = false := by rcases hb with ⟨h1, h2⟩ | ⟨h1, h2⟩ <;> first | exact h2 | omega
                have eg : pq_ru (sp_fm S j) (p + 1) = (pq_ru (sp_fm S j) p) + 0 := by rw [pq_ru_s, hbb]; rfl
                have hg := ih (p + 1) (by omega)
                rw [eg] at hg
                exact hg
              · refine mp_iconst X 53 (v := nI 1) d_R_runs_52 rfl (by decide) ?_
                refine mp_goto X 57 d_R_runs_53 (by decide) ?_
                refine mp_iadd X 58 d_R_runs_57 rfl ?_
                rw [nI_add]
                refine mp_istore_n X 59 (L' := [.val (.ref (G.1 + 26)), .val (.int (nI j)), .val (.int (nI ((pq_ru (sp_fm S j) p) + 1))), .val (.int (nI p))]) d_R_runs_58 rfl rfl rfl rfl rfl ?_
                refine mp_iinc X 62 (L' := [.val (.ref (G.1 + 26)), .val (.int (nI j)), .val (.int (nI ((pq_ru (sp_fm S j) p) + 1))), .val (.int (nI (p + 1)))]) (v := nI (p + 1)) d_R_runs_59 rfl rfl (nI_1 _) rfl ?_
                refine mp_goto X 34 d_R_runs_62 (by decide) ?_
                have hbb : pq_bg (sp_fm S j) p = true := by rcases hb with ⟨h1, h2⟩ | ⟨h1, h2⟩ <;> first | exact h2 | omega
                have eg : pq_ru (sp_fm S j) (p + 1) = (pq_ru (sp_fm S j) p) + 1 := by rw [pq_ru_s, hbb]; rfl
                have hg := ih (p + 1) (by omega)
                rw [eg] at hg
                exact hg
        exact hloop (rm_T S j).length 0 (by omega)
      · omega
set_option maxRecDepth 100000 in
set_option maxHeartbeats 4000000 in
theorem k_R_run (l : Launch) {G : mp_G} {h : mp_H} {S : pq_S} {x k w : Int32} (hK1 : rm_K G h) (hS1 : rm_S h S) (hok : pq_ok S) :
    mp_M G mp_Ts l y_R_run 3 0 0 [.ref (G.1 + 26), .int x, .int k, .int w] h (rm_Z h (sp_run S x k w)) (fun _ _ => False) := by
  have hM : S.1 ≤ 90 := hok.1
  have hw := hok.2.1
  have hf1 : mp_fr rm_A h h := mp_fr.rf
  refine mp_enter (by decide) Y_R_run fun E hl X => ?_
  refine mp_eq rfl (L2 := [.val (.ref (G.1 + 26)), .val (.int x), .val (.int k), .val (.int w), .unset, .unset, .unset, .unset]) rfl rfl ?_
  cases hx : sp_ix 3 x with
  | none =>
    have hz : sp_run S x k w = (1, 0, S) := by unfold sp_run; rw [hx]
    rw [hz]
    refine mp_aload_n X 1 d_R_run_0 rfl rfl rfl ?_
    refine mp_iload_n X 2 d_R_run_1 rfl rfl rfl ?_
    refine mp_callE X mp_Ts_ok 5 (rest := [.ref (G.1 + 26)]) (k_R_isPageF _ hx) Y_R_isPage in_R (mp_IS X d_R_run_2 Y_R_isPage ml_R_83 st_R_isPage in_R (by decide) (by show _ = some 1; decide)) rfl (by decide) (by decide) (by decide) (by decide) rfl (Nat.le_of_ble_eq_true rfl) rfl ?_
    refine mp_Zeq X 21 8 d_R_run_5 (by decide) rfl (by omega) (fun q1 => ?_) (fun q1 => ?_)
    · refine mp_iconst X 22 (v := nI 1) d_R_run_21 rfl (by decide) ?_
      refine mp_putf X 25 ls_R_51_R d_R_run_22 rfl (Or.inl rfl) (hK1.sz (by decide)) hK1.ob rfl rfl ?_
      obtain ⟨h2, eh2⟩ : ∃ z, z = mp_set h 26 (0) (.int (nI 1)) := ⟨_, rfl⟩
      rw [← eh2]
      have rh2 : ∀ a b, h2.2.1 a b = if a = 26 ∧ b = 0 then .int (nI 1) else h.2.1 a b := by intro a b; rw [eh2]; rfl
      have hK2 : rm_K G h2 := by rw [eh2]; exact hK1.st (Or.inr (Or.inl rfl))
      have hf2 : mp_fr rm_A h h2 := by rw [eh2]; exact hf1.set (by unfold rm_A; omega)
      have hS2 : rm_S h2 S := by rw [eh2]; exact hS1.cd
      have hc2 : h2.2.1 26 0 = .int (nI 1) := by rw [rh2, if_pos ⟨rfl, rfl⟩]
      refine mp_aload_n X 26 d_R_run_25 rfl rfl rfl ?_
      refine mp_getf (v := .int (nI 1)) X 29 lk_R_51_R d_R_run_26 rfl (hK2.sz (by decide)) hK2.ob hc2 ?_
      refine mp_Zle X 34 32 d_R_run_29 (by decide) rfl (by omega) (fun q2 => ?_) (fun q2 => ?_)
      · omega
      · refine mp_iconst X 33 (v := nI 0) d_R_run_32 rfl (by decide) ?_
        exact mp_iret X d_R_run_33 rfl rfl (by decide) (by decide) (rm_Z.code hc2 (by decide) hS2 hf2)
    · exact absurd rfl q1
  | some j =>
    obtain ⟨hj, rfl⟩ := sp_ix_some hx (by decide)
    have hTl := sp_T_len hok hj
    have hrl := pq_ru_le (sp_fm S j) (rm_T S j).length
    cases hw3 : sp_ix 3 w with
    | none =>
      have hz : sp_run S (nI j) k w = (1, 0, S) := by unfold sp_run; rw [hx, hw3]
      rw [hz]
      refine mp_aload_n X 1 d_R_run_0 rfl rfl rfl ?_
      refine mp_iload_n X 2 d_R_run_1 rfl rfl rfl ?_
      refine mp_callE X mp_Ts_ok 5 (rest := [.ref (G.1 + 26)]) (k_R_isPageT _ hj) Y_R_isPage in_R (mp_IS X d_R_run_2 Y_R_isPage ml_R_83 st_R_isPage in_R (by decide) (by show _ = some 1; decide)) rfl (by decide) (by decide) (by decide) (by decide) rfl (Nat.le_of_ble_eq_true rfl) rfl ?_
      refine mp_Zeq X 21 8 d_R_run_5 (by decide) rfl (by omega) (fun q1 => ?_) (fun q1 => ?_)
      · exact absurd q1 (by decide)
      · refine mp_iload_n X 9 d_R_run_8 rfl rfl rfl ?_
        refine mp_if_lt X 21 12 d_R_run_9 (by decide) rfl (fun q2 => ?_) (fun q2 => ?_)
        · refine mp_iconst X 22 (v := nI 1) d_R_run_21 rfl (by decide) ?_
          refine mp_putf X 25 ls_R_51_R d_R_run_22 rfl (Or.inl rfl) (hK1.sz (by decide)) hK1.ob rfl rfl ?_
          obtain ⟨h2, eh2⟩ : ∃ z, z = mp_set h 26 (0) (.int (nI 1)) := ⟨_, rfl⟩
          rw [← eh2]
          have rh2 : ∀ a b, h2.2.1 a b = if a = 26 ∧ b = 0 then .int (nI 1) else h.2.1 a b := by intro a b; rw [eh2]; rfl
          have hK2 : rm_K G h2 := by rw [eh2]; exact hK1.st (Or.inr (Or.inl rfl))
          have hf2 : mp_fr rm_A h h2 := by rw [eh2]; exact hf1.set (by unfold rm_A; omega)
          have hS2 : rm_S h2 S := by rw [eh2]; exact hS1.cd
          have hc2 : h2.2.1 26 0 = .int (nI 1) := by rw [rh2, if_pos ⟨rfl, rfl⟩]
          refine mp_aload_n X 26 d_R_run_25 rfl rfl rfl ?_
          refine mp_getf (v := .int (nI 1)) X 29 lk_R_51_R d_R_run_26 rfl (hK2.sz (by decide)) hK2.ob hc2 ?_
          refine mp_Zle X 34 32 d_R_run_29 (by decide) rfl (by omega) (fun q3 => ?_) (fun q3 => ?_)
          · omega
          · refine mp_iconst X 33 (v := nI 0) d_R_run_32 rfl (by decide) ?_
            exact mp_iret X d_R_run_33 rfl rfl (by decide) (by decide) (rm_Z.code hc2 (by decide) hS2 hf2)
        · refine mp_iload_n X 13 d_R_run_12 rfl rfl rfl ?_
          refine mp_iconst X 14 (v := nI 2) d_R_run_13 rfl (by decide) ?_
          refine mp_icmp_gt X 21 17 d_R_run_14 (by decide) rfl (fun q4 => ?_) (fun q4 => ?_)
          · refine mp_iconst X 22 (v := nI 1) d_R_run_21 rfl (by decide) ?_
            refine mp_putf X 25 ls_R_51_R d_R_run_22 rfl (Or.inl rfl) (hK1.sz (by decide)) hK1.ob rfl rfl ?_
            obtain ⟨h2, eh2⟩ : ∃ z, z = mp_set h 26 (0) (.int (nI 1)) := ⟨_, rfl⟩
            rw [← eh2]
            have rh2 : ∀ a b, h2.2.1 a b = if a = 26 ∧ b = 0 then .int (nI 1) else h.2.1 a b := by intro a b; rw [eh2]; rfl
            have hK2 : rm_K G h2 := by rw [eh2]; exact hK1.st (Or.inr (Or.inl rfl))
            have hf2 : mp_fr rm_A h h2 := by rw [eh2]; exact hf1.set (by unfold rm_A; omega)
            have hS2 : rm_S h2 S := by rw [eh2]; exact hS1.cd
            have hc2 : h2.2.1 26 0 = .int (nI 1) := by rw [rh2, if_pos ⟨rfl, rfl⟩]
            refine mp_aload_n X 26 d_R_run_25 rfl rfl rfl ?_
            refine mp_getf (v := .int (nI 1)) X 29 lk_R_51_R d_R_run_26 rfl (hK2.sz (by decide)) hK2.ob hc2 ?_
            refine mp_Zle X 34 32 d_R_run_29 (by decide) rfl (by omega) (fun q5 => ?_) (fun q5 => ?_)
            · omega
            · refine mp_iconst X 33 (v := nI 0) d_R_run_32 rfl (by decide) ?_
              exact mp_iret X d_R_run_33 rfl rfl (by decide) (by decide) (rm_Z.code hc2 (by decide) hS2 hf2)
          · exfalso; obtain ⟨q0, hq0, rfl⟩ := nI_of q2; have := Nat.not_lt.mp fun z => q4 ((nI_ltI (by decide) hq0).mpr z); rw [sp_ix_of (by omega) (by decide)] at hw3; cases hw3
    | some v =>
      obtain ⟨hv, rfl⟩ := sp_ix_some hw3 (by decide)
      cases hk0 : sp_ix (pq_ru (sp_fm S j) (rm_T S j).length) k with
      | none =>
        have hz : sp_run S (nI j) k (nI v) = (2, 0, S) := by unfold sp_run; rw [hx, hw3]; simp only []; rw [hk0]
        rw [hz]
        refine mp_aload_n X 1 d_R_run_0 rfl rfl rfl ?_
        refine mp_iload_n X 2 d_R_run_1 rfl rfl rfl ?_
        refine mp_callE X mp_Ts_ok 5 (rest := [.ref (G.1 + 26)]) (k_R_isPageT _ hj) Y_R_isPage in_R (mp_IS X d_R_run_2 Y_R_isPage ml_R_83 st_R_isPage in_R (by decide) (by show _ = some 1; decide)) rfl (by decide) (by decide) (by decide) (by decide) rfl (Nat.le_of_ble_eq_true rfl) rfl ?_
        refine mp_Zeq X 21 8 d_R_run_5 (by decide) rfl (by omega) (fun q1 => ?_) (fun q1 => ?_)
        · exact absurd q1 (by decide)
        · refine mp_iload_n X 9 d_R_run_8 rfl rfl rfl ?_
          refine mp_Zlt X 21 12 d_R_run_9 (by decide) rfl (by omega) (fun q2 => ?_) (fun q2 => ?_)
          · exact q2.elim
          · refine mp_iload_n X 13 d_R_run_12 rfl rfl rfl ?_
            refine mp_iconst X 14 (v := nI 2) d_R_run_13 rfl (by decide) ?_
            refine mp_Ngt X 21 17 d_R_run_14 (by decide) rfl (by omega) (by omega) (fun q3 => ?_) (fun q3 => ?_)
            · omega
            · refine mp_iconst X 18 (v := nI 0) d_R_run_17 rfl (by decide) ?_
              refine mp_goto X 22 d_R_run_18 (by decide) ?_
              refine mp_putf X 25 ls_R_51_R d_R_run_22 rfl (Or.inl rfl) (hK1.sz (by decide)) hK1.ob rfl rfl ?_
              obtain ⟨h2, eh2⟩ : ∃ z, z = mp_set h 26 (0) (.int (nI 0)) := ⟨_, rfl⟩
              rw [← eh2]
              have rh2 : ∀ a b, h2.2.1 a b = if a = 26 ∧ b = 0 then .int (nI 0) else h.2.1 a b := by intro a b; rw [eh2]; rfl
              have hK2 : rm_K G h2 := by rw [eh2]; exact hK1.st (Or.inr (Or.inl rfl))
              have hf2 : mp_fr rm_A h h2 := by rw [eh2]; exact hf1.set (by unfold rm_A; omega)
              have hS2 : rm_S h2 S := by rw [eh2]; exact hS1.cd
              have hc2 : h2.2.1 26 0 = .int (nI 0) := by rw [rh2, if_pos ⟨rfl, rfl⟩]
              refine mp_aload_n X 26 d_R_run_25 rfl rfl rfl ?_
              refine mp_getf (v := .int (nI 0)) X 29 lk_R_51_R d_R_run_26 rfl (hK2.sz (by decide)) hK2.ob hc2 ?_
              refine mp_Zle X 34 32 d_R_run_29 (by decide) rfl (by omega) (fun q4 => ?_) (fun q4 => ?_)
              · refine mp_aload_n X 35 d_R_run_34 rfl rfl rfl ?_
                refine mp_iload_n X 36 d_R_run_35 rfl rfl rfl ?_
                refine mp_call X mp_Ts_ok 39 (rest := []) (k_R_look _ hK2 hS2 hok hj) Y_R_look in_R (mp_IV X (q := (nR_R, nT_R, 17)) d_R_run_36 Y_R_look ml_R_87 im_R_look se_R_look (by decide) rfl (by decide) (by show _ = some 1; decide) (hK2.sz (by decide)) hK2.ob) rfl (by decide) (by decide) (by decide) (by decide) rfl (by decide) (fun v h3 hp => ?_) (fun x h3 q hp => hp.elim)
                obtain ⟨rfl, hq3, hV3⟩ := hp
                have hK3 : rm_K G h3 := hK2.fr rm_Q (by intro i a b c d; unfold rm_Q; omega) hq3
                have hS3 : rm_S h3 S := hS2.fr (hq3.mono fun o i => rm_QP)
                have hf3 : mp_fr rm_A h h3 := hf2.tr (hq3.mono fun o i => rm_QA)
                refine mp_eq rfl rfl (st2 := []) rfl ?_
                refine mp_iconst X 40 (v := -1) d_R_run_39 rfl (by decide) ?_
                refine mp_istore X 42 (L' := [.val (.ref (G.1 + 26)), .val (.int (nI j)), .val (.int (k)), .val (.int (nI v)), .val (.int (-1)), .unset, .unset, .unset]) d_R_run_40 rfl rfl rfl rfl ?_
                refine mp_iconst X 43 (v := nI 0) d_R_run_42 rfl (by decide) ?_
                refine mp_istore X 45 (L' := [.val (.ref (G.1 + 26)), .val (.int (nI j)), .val (.int (k)), .val (.int (nI v)), .val (.int (-1)), .val (.int (nI 0)), .unset, .unset]) d_R_run_43 rfl rfl rfl rfl ?_
                refine mp_iconst X 46 (v := -1) d_R_run_45 rfl (by decide) ?_
                refine mp_istore X 48 (L' := [.val (.ref (G.1 + 26)), .val (.int (nI j)), .val (.int (k)), .val (.int (nI v)), .val (.int (-1)), .val (.int (nI 0)), .val (.int (-1)), .unset]) d_R_run_46 rfl rfl rfl rfl ?_
                refine mp_iconst X 49 (v := nI 0) d_R_run_48 rfl (by decide) ?_
                refine mp_istore X 51 (L' := [.val (.ref (G.1 + 26)), .val (.int (nI j)), .val (.int (k)), .val (.int (nI v)), .val (.int (-1)), .val (.int (nI 0)), .val (.int (-1)), .val (.int (nI 0))]) d_R_run_49 rfl rfl rfl rfl ?_
                have hloop : ∀ (n p : Nat), p + n = (rm_T S j).length → mp_W G E h3 0 0 (mp_Q G E 0 0 (rm_Z h (2, 0, S)) (fun _ _ => False)) 51 [.val (.ref (G.1 + 26)), .val (.int (nI j)), .val (.int k), .val (.int (nI v)), .val (.int (-1)), .val (.int (nI 0)), .val (.int (rm_m (pq_ru (sp_fm S j) p))), .val (.int (nI p))] [] := by
                  intro n
                  induction n with
                  | zero =>
                    intro p hpn
                    have hpl : p = (rm_T S j).length := by omega
                    subst hpl
                    refine mp_iload X 53 d_R_run_51 rfl rfl ?_
                    refine mp_aload_n X 54 d_R_run_53 rfl rfl rfl ?_
                    refine mp_getf (v := .int (nI ((rm_T S j).length))) X 57 lk_R_61_R d_R_run_54 rfl (hK3.sz (by decide)) hK3.ob hV3.1 ?_
                    refine mp_Nge X 122 60 d_R_run_57 (by decide) rfl (by omega) (by omega) (fun q1 => ?_) (fun q1 => ?_)
                    · refine mp_aload_n X 123 d_R_run_122 rfl rfl rfl ?_
                      refine mp_iload X 125 d_R_run_123 rfl rfl ?_
                      refine mp_if_ge X 132 128 d_R_run_125 (by decide) rfl (fun q2 => ?_) (fun q2 => ?_)
                      · exact absurd q2 (by decide)
                      · refine mp_iconst X 129 (v := nI 2) d_R_run_128 rfl (by decide) ?_
                        refine mp_goto X 133 d_R_run_129 (by decide) ?_
                        refine mp_putf X 136 ls_R_51_R d_R_run_133 rfl (Or.inl rfl) (hK3.sz (by decide)) hK3.ob rfl rfl ?_
                        obtain ⟨h4, eh4⟩ : ∃ z, z = mp_set h3 26 (0) (.int (nI 2)) := ⟨_, rfl⟩
                        rw [← eh4]
                        have rh4 : ∀ a b, h4.2.1 a b = if a = 26 ∧ b = 0 then .int (nI 2) else h3.2.1 a b := by intro a b; rw [eh4]; rfl
                        have hK4 : rm_K G h4 := by rw [eh4]; exact hK3.st (Or.inr (Or.inl rfl))
                        have hf4 : mp_fr rm_A h h4 := by rw [eh4]; exact hf3.set (by unfold rm_A; omega)
                        have hS4 : rm_S h4 S := by rw [eh4]; exact hS3.cd
                        have hV4 : rm_V h4 S j := by rw [eh4]; exact hV3.st (by omega)
                        have hc4 : h4.2.1 26 0 = .int (nI 2) := by rw [rh4, if_pos ⟨rfl, rfl⟩]
                        refine mp_aload_n X 137 d_R_run_136 rfl rfl rfl ?_
                        refine mp_getf (v := .int (nI 2)) X 140 lk_R_51_R d_R_run_137 rfl (hK4.sz (by decide)) hK4.ob hc4 ?_
                        refine mp_Zle X 145 143 d_R_run_140 (by decide) rfl (by omega) (fun q3 => ?_) (fun q3 => ?_)
                        · omega
                        · refine mp_iconst X 144 (v := nI 0) d_R_run_143 rfl (by decide) ?_
                          exact mp_iret X d_R_run_144 rfl rfl (by decide) (by decide) (rm_Z.code hc4 (by decide) hS4 hf4)
                    · omega
                  | succ n ih =>
                    intro p hpn
                    obtain ⟨bn, hbn, hb⟩ := rm_b_n (pq_bg (sp_fm S j) p)
                    have hbl : bn < 2 := by omega
                    have hps := pq_ru_pos (sp_fm S j) (p := p + 1) (by omega)
                    have hmo := pq_ru_mono (sp_fm S j) (p + 1) (rm_T S j).length (by omega)
                    have hnk : rm_m (pq_ru (sp_fm S j) (p + 1)) ≠ k := fun z => by rw [← z, rm_mp hps, sp_ix_of (by omega) (by omega)] at hk0; cases hk0
                    refine mp_iload X 53 d_R_run_51 rfl rfl ?_
                    refine mp_aload_n X 54 d_R_run_53 rfl rfl rfl ?_
                    refine mp_getf (v := .int (nI ((rm_T S j).length))) X 57 lk_R_61_R d_R_run_54 rfl (hK3.sz (by decide)) hK3.ob hV3.1 ?_
                    refine mp_Nge X 122 60 d_R_run_57 (by decide) rfl (by omega) (by omega) (fun q1 => ?_) (fun q1 => ?_)
                    · omega
                    · refine mp_iload X 62 d_R_run_60 rfl rfl ?_
                      refine mp_aload_n X 63 d_R_run_62 rfl rfl rfl ?_
                      refine mp_iload_n X 64 d_R_run_63 rfl rfl rfl ?_
                      refine mp_iload X 66 d_R_run_64 rfl rfl ?_
                      refine mp_callE X mp_Ts_ok 69 (rest := [.int (rm_m (pq_ru (sp_fm S j) p))]) (k_R_begins (p := p) (n := bn) _ hK3 hS3 hV3 hok hj (by omega) hbn) Y_R_begins in_R (mp_IV X (q := (nR_R, nT_R, 17)) d_R_run_66 Y_R_begins ml_R_101 im_R_begins se_R_begins (by decide) rfl (by decide) (by show _ = some 2; decide) (hK3.sz (by decide)) hK3.ob) rfl (by decide) (by decide) (by decide) (by decide) rfl (Nat.le_of_ble_eq_true rfl) rfl ?_
                      refine mp_Zeq X 76 72 d_R_run_69 (by decide) rfl (by omega) (fun q2 => ?_) (fun q2 => ?_)
                      · refine mp_iconst X 77 (v := nI 0) d_R_run_76 rfl (by decide) ?_
                        refine mp_iadd X 78 d_R_run_77 rfl ?_
                        have hbb : pq_bg (sp_fm S j) p = false := by rcases hb with ⟨h1, h2⟩ | ⟨h1, h2⟩ <;> first | exact h2 | omega
                        have eg : rm_m (pq_ru (sp_fm S j) p) + nI 0 = rm_m (pq_ru (sp_fm S j) (p + 1)) := by rw [pq_ru_s, hbb]; exact rm_m0 (by have := pq_ru_s (sp_fm S j) p; rw [hbb] at this; have e0 : (if false = true then 1 else 0) = 0 := rfl; omega)
                        rw [eg]
                        refine mp_istore X 80 (L' := [.val (.ref (G.1 + 26)), .val (.int (nI j)), .val (.int (k)), .val (.int (nI v)), .val (.int (-1)), .val (.int (nI 0)), .val (.int (rm_m (pq_ru (sp_fm S j) (p + 1)))), .val (.int (nI p))]) d_R_run_78 rfl rfl rfl rfl ?_
                        refine mp_iload X 82 d_R_run_80 rfl rfl ?_
                        refine mp_iload_n X 83 d_R_run_82 rfl rfl rfl ?_
                        refine mp_icmp_ne X 96 86 d_R_run_83 (by decide) rfl (fun q3 => ?_) (fun q3 => ?_)
                        · refine mp_iload X 98 d_R_run_96 rfl rfl ?_
                          refine mp_istore X 100 (L' := [.val (.ref (G.1 + 26)), .val (.int (nI j)), .val (.int (k)), .val (.int (nI v)), .val (.int (-1)), .val (.int (nI 0)), .val (.int (rm_m (pq_ru (sp_fm S j) (p + 1)))), .val (.int (nI p))]) d_R_run_98 rfl rfl rfl rfl ?_
                          refine mp_iload X 102 d_R_run_100 rfl rfl ?_
                          refine mp_iload X 104 d_R_run_102 rfl rfl ?_
                          refine mp_iload_n X 105 d_R_run_104 rfl rfl rfl ?_
                          refine mp_icmp_ne X 112 108 d_R_run_105 (by decide) rfl (fun q4 => ?_) (fun q4 => ?_)
                          · refine mp_iconst X 113 (v := nI 0) d_R_run_112 rfl (by decide) ?_
                            refine mp_iadd X 114 d_R_run_113 rfl ?_
                            rw [nI_add]
                            refine mp_istore X 116 (L' := [.val (.ref (G.1 + 26)), .val (.int (nI j)), .val (.int (k)), .val (.int (nI v)), .val (.int (-1)), .val (.int (nI (0 + 0))), .val (.int (rm_m (pq_ru (sp_fm S j) (p + 1)))), .val (.int (nI p))]) d_R_run_114 rfl rfl rfl rfl ?_
                            refine mp_iinc X 119 (L' := [.val (.ref (G.1 + 26)), .val (.int (nI j)), .val (.int (k)), .val (.int (nI v)), .val (.int (-1)), .val (.int (nI (0 + 0))), .val (.int (rm_m (pq_ru (sp_fm S j) (p + 1)))), .val (.int (nI (p + 1)))]) (v := nI (p + 1)) d_R_run_116 rfl rfl (nI_1 _) rfl ?_
                            refine mp_goto X 51 d_R_run_119 (by decide) ?_
                            exact ih (p + 1) (by omega)
                          · exact absurd q4 hnk
                        · exact absurd q3 hnk
                      · refine mp_iconst X 73 (v := nI 1) d_R_run_72 rfl (by decide) ?_
                        refine mp_goto X 77 d_R_run_73 (by decide) ?_
                        refine mp_iadd X 78 d_R_run_77 rfl ?_
                        have hbb : pq_bg (sp_fm S j) p = true := by rcases hb with ⟨h1, h2⟩ | ⟨h1, h2⟩ <;> first | exact h2 | omega
                        have eg : rm_m (pq_ru (sp_fm S j) p) + nI 1 = rm_m (pq_ru (sp_fm S j) (p + 1)) := by rw [pq_ru_s, hbb]; exact rm_m1 _
                        rw [eg]
                        refine mp_istore X 80 (L' := [.val (.ref (G.1 + 26)), .val (.int (nI j)), .val (.int (k)), .val (.int (nI v)), .val (.int (-1)), .val (.int (nI 0)), .val (.int (rm_m (pq_ru (sp_fm S j) (p + 1)))), .val (.int (nI p))]) d_R_run_78 rfl rfl rfl rfl ?_
                        refine mp_iload X 82 d_R_run_80 rfl rfl ?_
                        refine mp_iload_n X 83 d_R_run_82 rfl rfl rfl ?_
                        refine mp_icmp_ne X 96 86 d_R_run_83 (by decide) rfl (fun q5 => ?_) (fun q5 => ?_)
                        · refine mp_iload X 98 d_R_run_96 rfl rfl ?_
                          refine mp_istore X 100 (L' := [.val (.ref (G.1 + 26)), .val (.int (nI j)), .val (.int (k)), .val (.int (nI v)), .val (.int (-1)), .val (.int (nI 0)), .val (.int (rm_m (pq_ru (sp_fm S j) (p + 1)))), .val (.int (nI p))]) d_R_run_98 rfl rfl rfl rfl ?_
                          refine mp_iload X 102 d_R_run_100 rfl rfl ?_
                          refine mp_iload X 104 d_R_run_102 rfl rfl ?_
                          refine mp_iload_n X 105 d_R_run_104 rfl rfl rfl ?_
                          refine mp_icmp_ne X 112 108 d_R_run_105 (by decide) rfl (fun q6 => ?_) (fun q6 => ?_)
                          · refine mp_iconst X 113 (v := nI 0) d_R_run_112 rfl (by decide) ?_
                            refine mp_iadd X 114 d_R_run_113 rfl ?_
                            rw [nI_add]
                            refine mp_istore X 116 (L' := [.val (.ref (G.1 + 26)), .val (.int (nI j)), .val (.int (k)), .val (.int (nI v)), .val (.int (-1)), .val (.int (nI (0 + 0))), .val (.int (rm_m (pq_ru (sp_fm S j) (p + 1)))), .val (.int (nI p))]) d_R_run_114 rfl rfl rfl rfl ?_
                            refine mp_iinc X 119 (L' := [.val (.ref (G.1 + 26)), .val (.int (nI j)), .val (.int (k)), .val (.int (nI v)), .val (.int (-1)), .val (.int (nI (0 + 0))), .val (.int (rm_m (pq_ru (sp_fm S j) (p + 1)))), .val (.int (nI (p + 1)))]) (v := nI (p + 1)) d_R_run_116 rfl rfl (nI_1 _) rfl ?_
                            refine mp_goto X 51 d_R_run_119 (by decide) ?_
                            exact ih (p + 1) (by omega)
                          · exact absurd q6 hnk
                        · exact absurd q5 hnk
                exact hloop (rm_T S j).length 0 (by omega)
              · omega
      | some r =>
        obtain ⟨hr, rfl⟩ := sp_ix_some hk0 (by omega)
        have hz : sp_run S (nI j) (nI r) (nI v) = (0, nI (if v = 0 then pq_sr (sp_fm S j) r (rm_T S j).length else if v = 1 then pq_sr (sp_fm S j) (r + 1) (rm_T S j).length - pq_sr (sp_fm S j) r (rm_T S j).length else sp_fm S j (pq_sr (sp_fm S j) r (rm_T S j).length)), S) := by unfold sp_run; rw [hx, hw3]; simp only []; rw [hk0]
        rw [hz]
        have hsr := pq_sr_in hr
        refine mp_aload_n X 1 d_R_run_0 rfl rfl rfl ?_
        refine mp_iload_n X 2 d_R_run_1 rfl rfl rfl ?_
        refine mp_callE X mp_Ts_ok 5 (rest := [.ref (G.1 + 26)]) (k_R_isPageT _ hj) Y_R_isPage in_R (mp_IS X d_R_run_2 Y_R_isPage ml_R_83 st_R_isPage in_R (by decide) (by show _ = some 1; decide)) rfl (by decide) (by decide) (by decide) (by decide) rfl (Nat.le_of_ble_eq_true rfl) rfl ?_
        refine mp_Zeq X 21 8 d_R_run_5 (by decide) rfl (by omega) (fun q1 => ?_) (fun q1 => ?_)
        · exact absurd q1 (by decide)
        · refine mp_iload_n X 9 d_R_run_8 rfl rfl rfl ?_
          refine mp_Zlt X 21 12 d_R_run_9 (by decide) rfl (by omega) (fun q2 => ?_) (fun q2 => ?_)
          · exact q2.elim
          · refine mp_iload_n X 13 d_R_run_12 rfl rfl rfl ?_
            refine mp_iconst X 14 (v := nI 2) d_R_run_13 rfl (by decide) ?_
            refine mp_Ngt X 21 17 d_R_run_14 (by decide) rfl (by omega) (by omega) (fun q3 => ?_) (fun q3 => ?_)
            · omega
            · refine mp_iconst X 18 (v := nI 0) d_R_run_17 rfl (by decide) ?_
              refine mp_goto X 22 d_R_run_18 (by decide) ?_
              refine mp_putf X 25 ls_R_51_R d_R_run_22 rfl (Or.inl rfl) (hK1.sz (by decide)) hK1.ob rfl rfl ?_
              obtain ⟨h2, eh2⟩ : ∃ z, z = mp_set h 26 (0) (.int (nI 0)) := ⟨_, rfl⟩
              rw [← eh2]
              have rh2 : ∀ a b, h2.2.1 a b = if a = 26 ∧ b = 0 then .int (nI 0) else h.2.1 a b := by intro a b; rw [eh2]; rfl
              have hK2 : rm_K G h2 := by rw [eh2]; exact hK1.st (Or.inr (Or.inl rfl))
              have hf2 : mp_fr rm_A h h2 := by rw [eh2]; exact hf1.set (by unfold rm_A; omega)
              have hS2 : rm_S h2 S := by rw [eh2]; exact hS1.cd
              have hc2 : h2.2.1 26 0 = .int (nI 0) := by rw [rh2, if_pos ⟨rfl, rfl⟩]
              refine mp_aload_n X 26 d_R_run_25 rfl rfl rfl ?_
              refine mp_getf (v := .int (nI 0)) X 29 lk_R_51_R d_R_run_26 rfl (hK2.sz (by decide)) hK2.ob hc2 ?_
              refine mp_Zle X 34 32 d_R_run_29 (by decide) rfl (by omega) (fun q4 => ?_) (fun q4 => ?_)
              · refine mp_aload_n X 35 d_R_run_34 rfl rfl rfl ?_
                refine mp_iload_n X 36 d_R_run_35 rfl rfl rfl ?_
                refine mp_call X mp_Ts_ok 39 (rest := []) (k_R_look _ hK2 hS2 hok hj) Y_R_look in_R (mp_IV X (q := (nR_R, nT_R, 17)) d_R_run_36 Y_R_look ml_R_87 im_R_look se_R_look (by decide) rfl (by decide) (by show _ = some 1; decide) (hK2.sz (by decide)) hK2.ob) rfl (by decide) (by decide) (by decide) (by decide) rfl (by decide) (fun v h3 hp => ?_) (fun x h3 q hp => hp.elim)
                obtain ⟨rfl, hq3, hV3⟩ := hp
                have hK3 : rm_K G h3 := hK2.fr rm_Q (by intro i a b c d; unfold rm_Q; omega) hq3
                have hS3 : rm_S h3 S := hS2.fr (hq3.mono fun o i => rm_QP)
                have hf3 : mp_fr rm_A h h3 := hf2.tr (hq3.mono fun o i => rm_QA)
                refine mp_eq rfl rfl (st2 := []) rfl ?_
                refine mp_iconst X 40 (v := -1) d_R_run_39 rfl (by decide) ?_
                refine mp_istore X 42 (L' := [.val (.ref (G.1 + 26)), .val (.int (nI j)), .val (.int (nI r)), .val (.int (nI v)), .val (.int (-1)), .unset, .unset, .unset]) d_R_run_40 rfl rfl rfl rfl ?_
                refine mp_iconst X 43 (v := nI 0) d_R_run_42 rfl (by decide) ?_
                refine mp_istore X 45 (L' := [.val (.ref (G.1 + 26)), .val (.int (nI j)), .val (.int (nI r)), .val (.int (nI v)), .val (.int (-1)), .val (.int (nI 0)), .unset, .unset]) d_R_run_43 rfl rfl rfl rfl ?_
                refine mp_iconst X 46 (v := -1) d_R_run_45 rfl (by decide) ?_
                refine mp_istore X 48 (L' := [.val (.ref (G.1 + 26)), .val (.int (nI j)), .val (.int (nI r)), .val (.int (nI v)), .val (.int (-1)), .val (.int (nI 0)), .val (.int (-1)), .unset]) d_R_run_46 rfl rfl rfl rfl ?_
                refine mp_iconst X 49 (v := nI 0) d_R_run_48 rfl (by decide) ?_
                refine mp_istore X 51 (L' := [.val (.ref (G.1 + 26)), .val (.int (nI j)), .val (.int (nI r)), .val (.int (nI v)), .val (.int (-1)), .val (.int (nI 0)), .val (.int (-1)), .val (.int (nI 0))]) d_R_run_49 rfl rfl rfl rfl ?_
                have hloop : ∀ (n p : Nat), p + n = (rm_T S j).length → mp_W G E h3 0 0 (mp_Q G E 0 0 (rm_Z h (0, nI (if v = 0 then pq_sr (sp_fm S j) r (rm_T S j).length else if v = 1 then pq_sr (sp_fm S j) (r + 1) (rm_T S j).length - pq_sr (sp_fm S j) r (rm_T S j).length else sp_fm S j (pq_sr (sp_fm S j) r (rm_T S j).length)), S)) (fun _ _ => False)) 51 [.val (.ref (G.1 + 26)), .val (.int (nI j)), .val (.int (nI r)), .val (.int (nI v)), .val (.int (if r < (pq_ru (sp_fm S j) p) then nI (pq_sr (sp_fm S j) r (rm_T S j).length) else -1)), .val (.int (nI (pq_mn (sp_fm S j) r p))), .val (.int (rm_m (pq_ru (sp_fm S j) p))), .val (.int (nI p))] [] := by
                  intro n
                  induction n with
                  | zero =>
                    intro p hpn
                    have hpl : p = (rm_T S j).length := by omega
                    subst hpl
                    rw [if_pos hr]
                    have hmn := pq_mn_eq (sp_fm S j) r (rm_T S j).length
                    refine mp_iload X 53 d_R_run_51 rfl rfl ?_
                    refine mp_aload_n X 54 d_R_run_53 rfl rfl rfl ?_
                    refine mp_getf (v := .int (nI ((rm_T S j).length))) X 57 lk_R_61_R d_R_run_54 rfl (hK3.sz (by decide)) hK3.ob hV3.1 ?_
                    refine mp_Nge X 122 60 d_R_run_57 (by decide) rfl (by omega) (by omega) (fun q1 => ?_) (fun q1 => ?_)
                    · refine mp_aload_n X 123 d_R_run_122 rfl rfl rfl ?_
                      refine mp_iload X 125 d_R_run_123 rfl rfl ?_
                      refine mp_Zge X 132 128 d_R_run_125 (by decide) rfl (by omega) (fun q2 => ?_) (fun q2 => ?_)
                      · refine mp_iconst X 133 (v := nI 0) d_R_run_132 rfl (by decide) ?_
                        refine mp_putf X 136 ls_R_51_R d_R_run_133 rfl (Or.inl rfl) (hK3.sz (by decide)) hK3.ob rfl rfl ?_
                        obtain ⟨h4, eh4⟩ : ∃ z, z = mp_set h3 26 (0) (.int (nI 0)) := ⟨_, rfl⟩
                        rw [← eh4]
                        have rh4 : ∀ a b, h4.2.1 a b = if a = 26 ∧ b = 0 then .int (nI 0) else h3.2.1 a b := by intro a b; rw [eh4]; rfl
                        have hK4 : rm_K G h4 := by rw [eh4]; exact hK3.st (Or.inr (Or.inl rfl))
                        have hf4 : mp_fr rm_A h h4 := by rw [eh4]; exact hf3.set (by unfold rm_A; omega)
                        have hS4 : rm_S h4 S := by rw [eh4]; exact hS3.cd
                        have hV4 : rm_V h4 S j := by rw [eh4]; exact hV3.st (by omega)
                        have hc4 : h4.2.1 26 0 = .int (nI 0) := by rw [rh4, if_pos ⟨rfl, rfl⟩]
                        refine mp_aload_n X 137 d_R_run_136 rfl rfl rfl ?_
                        refine mp_getf (v := .int (nI 0)) X 140 lk_R_51_R d_R_run_137 rfl (hK4.sz (by decide)) hK4.ob hc4 ?_
                        refine mp_Zle X 145 143 d_R_run_140 (by decide) rfl (by omega) (fun q3 => ?_) (fun q3 => ?_)
                        · refine mp_iload_n X 146 d_R_run_145 rfl rfl rfl ?_
                          refine mp_Zne X 154 149 d_R_run_146 (by decide) rfl (by omega) (fun q4 => ?_) (fun q4 => ?_)
                          · refine mp_iload_n X 155 d_R_run_154 rfl rfl rfl ?_
                            refine mp_iconst X 156 (v := nI 1) d_R_run_155 rfl (by decide) ?_
                            refine mp_Nne X 164 159 d_R_run_156 (by decide) rfl (by omega) (by omega) (fun q5 => ?_) (fun q5 => ?_)
                            · refine mp_aload_n X 165 d_R_run_164 rfl rfl rfl ?_
                              refine mp_iload_n X 166 d_R_run_165 rfl rfl rfl ?_
                              refine mp_aload_n X 167 d_R_run_166 rfl rfl rfl ?_
                              refine mp_getf (v := .ref (G.1 + 38)) X 170 lk_R_45_R d_R_run_167 rfl (hK4.sz (by decide)) hK4.ob hK4.r_text ?_
                              refine mp_iload X 172 d_R_run_170 rfl rfl ?_
                              refine mp_iald (v := .int (nI ((sp_t S j (pq_sr (sp_fm S j) r (rm_T S j).length))))) X 173 ((pq_sr (sp_fm S j) r (rm_T S j).length)) d_R_run_172 rfl (hK4.sz (by decide)) hK4.k_text rfl (by omega) (by decide) (hV4.2.1 _ _ (sp_t_mem (by omega))) ?_
                              refine mp_callE X mp_Ts_ok 176 (rest := []) (k_R_formatOf _ hK4 hS4 hV4 hok hj (sp_t_row (q := (pq_sr (sp_fm S j) r (rm_T S j).length)) (by omega))) Y_R_formatOf in_R (mp_IV X (q := (nR_R, nT_R, 17)) d_R_run_173 Y_R_formatOf ml_R_98 im_R_formatOf se_R_formatOf (by decide) rfl (by decide) (by show _ = some 2; decide) (hK4.sz (by decide)) hK4.ob) rfl (by decide) (by decide) (by decide) (by decide) rfl (by decide) rfl ?_
                              refine mp_eq rfl rfl (st2 := [.int (nI (sp_fm S j (pq_sr (sp_fm S j) r (rm_T S j).length)))]) rfl ?_
                              rw [if_neg q4, if_neg q5]
                              exact mp_iret X d_R_run_176 rfl rfl (by decide) (by decide) ⟨hc4, hS4, ⟨_, rfl, fun _ => rfl⟩, hf4⟩
                            · refine mp_iload X 161 d_R_run_159 rfl rfl ?_
                              refine mp_goto X 176 d_R_run_161 (by decide) ?_
                              rw [if_neg q4, if_pos q5, ← hmn]
                              exact mp_iret X d_R_run_176 rfl rfl (by decide) (by decide) ⟨hc4, hS4, ⟨_, rfl, fun _ => rfl⟩, hf4⟩
                          · refine mp_iload X 151 d_R_run_149 rfl rfl ?_
                            refine mp_goto X 176 d_R_run_151 (by decide) ?_
                            rw [if_pos q4]
                            exact mp_iret X d_R_run_176 rfl rfl (by decide) (by decide) ⟨hc4, hS4, ⟨_, rfl, fun _ => rfl⟩, hf4⟩
                        · omega
                      · exact q2.elim
                    · omega
                  | succ n ih =>
                    intro p hpn
                    obtain ⟨bn, hbn, hb⟩ := rm_b_n (pq_bg (sp_fm S j) p)
                    have hbl : bn < 2 := by omega
                    have hps := pq_ru_pos (sp_fm S j) (p := p + 1) (by omega)
                    have hmo := pq_ru_mono (sp_fm S j) (p + 1) (rm_T S j).length (by omega)
                    have hmo2 := pq_ru_mono (sp_fm S j) p (p + 1) (by omega)
                    have hmx := pq_ru_s (sp_fm S j) p
                    have hmb : pq_mn (sp_fm S j) r (p + 1) = (pq_mn (sp_fm S j) r p) + (if pq_ru (sp_fm S j) (p + 1) = r + 1 then 1 else 0) := rfl
                    have hg := ih (p + 1) (by omega)
                    rw [hmb] at hg
                    by_cases hc : r < (pq_ru (sp_fm S j) p)
                    · rw [if_pos hc]
                      refine mp_iload X 53 d_R_run_51 rfl rfl ?_
                      refine mp_aload_n X 54 d_R_run_53 rfl rfl rfl ?_
                      refine mp_getf (v := .int (nI ((rm_T S j).length))) X 57 lk_R_61_R d_R_run_54 rfl (hK3.sz (by decide)) hK3.ob hV3.1 ?_
                      refine mp_Nge X 122 60 d_R_run_57 (by decide) rfl (by omega) (by omega) (fun q1 => ?_) (fun q1 => ?_)
                      · omega
                      · refine mp_iload X 62 d_R_run_60 rfl rfl ?_
                        refine mp_aload_n X 63 d_R_run_62 rfl rfl rfl ?_
                        refine mp_iload_n X 64 d_R_run_63 rfl rfl rfl ?_
                        refine mp_iload X 66 d_R_run_64 rfl rfl ?_
                        refine mp_callE X mp_Ts_ok 69 (rest := [.int (rm_m (pq_ru (sp_fm S j) p))]) (k_R_begins (p := p) (n := bn) _ hK3 hS3 hV3 hok hj (by omega) hbn) Y_R_begins in_R (mp_IV X (q := (nR_R, nT_R, 17)) d_R_run_66 Y_R_begins ml_R_101 im_R_begins se_R_begins (by decide) rfl (by decide) (by show _ = some 2; decide) (hK3.sz (by decide)) hK3.ob) rfl (by decide) (by decide) (by decide) (by decide) rfl (Nat.le_of_ble_eq_true rfl) rfl ?_
                        refine mp_Zeq X 76 72 d_R_run_69 (by decide) rfl (by omega) (fun q2 => ?_) (fun q2 => ?_)
                        · refine mp_iconst X 77 (v := nI 0) d_R_run_76 rfl (by decide) ?_
                          refine mp_iadd X 78 d_R_run_77 rfl ?_
                          have hbb : pq_bg (sp_fm S j) p = false := by rcases hb with ⟨h1, h2⟩ | ⟨h1, h2⟩ <;> first | exact h2 | omega
                          have eg : rm_m (pq_ru (sp_fm S j) p) + nI 0 = rm_m (pq_ru (sp_fm S j) (p + 1)) := by rw [pq_ru_s, hbb]; exact rm_m0 (by have := pq_ru_s (sp_fm S j) p; rw [hbb] at this; have e0 : (if false = true then 1 else 0) = 0 := rfl; omega)
                          rw [eg]
                          rw [rm_mp hps]
                          refine mp_istore X 80 (L' := [.val (.ref (G.1 + 26)), .val (.int (nI j)), .val (.int (nI r)), .val (.int (nI v)), .val (.int (nI ((pq_sr (sp_fm S j) r (rm_T S j).length)))), .val (.int (nI ((pq_mn (sp_fm S j) r p)))), .val (.int (nI (((pq_ru (sp_fm S j) (p + 1)) - 1)))), .val (.int (nI p))]) d_R_run_78 rfl rfl rfl rfl ?_
                          refine mp_iload X 82 d_R_run_80 rfl rfl ?_
                          refine mp_iload_n X 83 d_R_run_82 rfl rfl rfl ?_
                          refine mp_Nne X 96 86 d_R_run_83 (by decide) rfl (by omega) (by omega) (fun q3 => ?_) (fun q3 => ?_)
                          · refine mp_iload X 98 d_R_run_96 rfl rfl ?_
                            refine mp_istore X 100 (L' := [.val (.ref (G.1 + 26)), .val (.int (nI j)), .val (.int (nI r)), .val (.int (nI v)), .val (.int (nI ((pq_sr (sp_fm S j) r (rm_T S j).length)))), .val (.int (nI ((pq_mn (sp_fm S j) r p)))), .val (.int (nI (((pq_ru (sp_fm S j) (p + 1)) - 1)))), .val (.int (nI p))]) d_R_run_98 rfl rfl rfl rfl ?_
                            refine mp_iload X 102 d_R_run_100 rfl rfl ?_
                            refine mp_iload X 104 d_R_run_102 rfl rfl ?_
                            refine mp_iload_n X 105 d_R_run_104 rfl rfl rfl ?_
                            refine mp_Nne X 112 108 d_R_run_105 (by decide) rfl (by omega) (by omega) (fun q4 => ?_) (fun q4 => ?_)
                            · refine mp_iconst X 113 (v := nI 0) d_R_run_112 rfl (by decide) ?_
                              refine mp_iadd X 114 d_R_run_113 rfl ?_
                              rw [nI_add]
                              refine mp_istore X 116 (L' := [.val (.ref (G.1 + 26)), .val (.int (nI j)), .val (.int (nI r)), .val (.int (nI v)), .val (.int (nI ((pq_sr (sp_fm S j) r (rm_T S j).length)))), .val (.int (nI ((pq_mn (sp_fm S j) r p) + 0))), .val (.int (nI (((pq_ru (sp_fm S j) (p + 1)) - 1)))), .val (.int (nI p))]) d_R_run_114 rfl rfl rfl rfl ?_
                              refine mp_iinc X 119 (L' := [.val (.ref (G.1 + 26)), .val (.int (nI j)), .val (.int (nI r)), .val (.int (nI v)), .val (.int (nI ((pq_sr (sp_fm S j) r (rm_T S j).length)))), .val (.int (nI ((pq_mn (sp_fm S j) r p) + 0))), .val (.int (nI (((pq_ru (sp_fm S j) (p + 1)) - 1)))), .val (.int (nI (p + 1)))]) (v := nI (p + 1)) d_R_run_116 rfl rfl (nI_1 _) rfl ?_
                              refine mp_goto X 51 d_R_run_119 (by decide) ?_
                              rw [rm_mp hps] at hg
                              rw [if_neg (show ¬ pq_ru (sp_fm S j) (p + 1) = r + 1 by omega)] at hg
                              rw [if_pos (show r < pq_ru (sp_fm S j) (p + 1) by omega)] at hg
                              exact hg
                            · omega
                          · refine mp_iload X 88 d_R_run_86 rfl rfl ?_
                            refine mp_Zge X 96 91 d_R_run_88 (by decide) rfl (by omega) (fun q5 => ?_) (fun q5 => ?_)
                            · refine mp_iload X 98 d_R_run_96 rfl rfl ?_
                              refine mp_istore X 100 (L' := [.val (.ref (G.1 + 26)), .val (.int (nI j)), .val (.int (nI r)), .val (.int (nI v)), .val (.int (nI ((pq_sr (sp_fm S j) r (rm_T S j).length)))), .val (.int (nI ((pq_mn (sp_fm S j) r p)))), .val (.int (nI (((pq_ru (sp_fm S j) (p + 1)) - 1)))), .val (.int (nI p))]) d_R_run_98 rfl rfl rfl rfl ?_
                              refine mp_iload X 102 d_R_run_100 rfl rfl ?_
                              refine mp_iload X 104 d_R_run_102 rfl rfl ?_
                              refine mp_iload_n X 105 d_R_run_104 rfl rfl rfl ?_
                              refine mp_Nne X 112 108 d_R_run_105 (by decide) rfl (by omega) (by omega) (fun q6 => ?_) (fun q6 => ?_)
                              · omega
                              · refine mp_iconst X 109 (v := nI 1) d_R_run_108 rfl (by decide) ?_
                                refine mp_goto X 113 d_R_run_109 (by decide) ?_
                                refine mp_iadd X 114 d_R_run_113 rfl ?_
                                rw [nI_add]
                                refine mp_istore X 116 (L' := [.val (.ref (G.1 + 26)), .val (.int (nI j)), .val (.int (nI r)), .val (.int (nI v)), .val (.int (nI ((pq_sr (sp_fm S j) r (rm_T S j).length)))), .val (.int (nI ((pq_mn (sp_fm S j) r p) + 1))), .val (.int (nI (((pq_ru (sp_fm S j) (p + 1)) - 1)))), .val (.int (nI p))]) d_R_run_114 rfl rfl rfl rfl ?_
                                refine mp_iinc X 119 (L' := [.val (.ref (G.1 + 26)), .val (.int (nI j)), .val (.int (nI r)), .val (.int (nI v)), .val (.int (nI ((pq_sr (sp_fm S j) r (rm_T S j).length)))), .val (.int (nI ((pq_mn (sp_fm S j) r p) + 1))), .val (.int (nI (((pq_ru (sp_fm S j) (p + 1)) - 1)))), .val (.int (nI (p + 1)))]) (v := nI (p + 1)) d_R_run_116 rfl rfl (nI_1 _) rfl ?_
                                refine mp_goto X 51 d_R_run_119 (by decide) ?_
                                rw [rm_mp hps] at hg
                                rw [if_pos (show pq_ru (sp_fm S j) (p + 1) = r + 1 by omega)] at hg
                                rw [if_pos (show r < pq_ru (sp_fm S j) (p + 1) by omega)] at hg
                                exact hg
                            · exact q5.elim
                        · refine mp_iconst X 73 (v := nI 1) d_R_run_72 rfl (by decide) ?_
                          refine mp_goto X 77 d_R_run_73 (by decide) ?_
                          refine mp_iadd X 78 d_R_run_77 rfl ?_
                          have hbb : pq_bg (sp_fm S j) p = true := by rcases hb with ⟨h1, h2⟩ | ⟨h1, h2⟩ <;> first | exact h2 | omega
                          have eg : rm_m (pq_ru (sp_fm S j) p) + nI 1 = rm_m (pq_ru (sp_fm S j) (p + 1)) := by rw [pq_ru_s, hbb]; exact rm_m1 _
                          rw [eg]
                          rw [rm_mp hps]
                          refine mp_istore X 80 (L' := [.val (.ref (G.1 + 26)), .val (.int (nI j)), .val (.int (nI r)), .val (.int (nI v)), .val (.int (nI ((pq_sr (sp_fm S j) r (rm_T S j).length)))), .val (.int (nI ((pq_mn (sp_fm S j) r p)))), .val (.int (nI (((pq_ru (sp_fm S j) (p + 1)) - 1)))), .val (.int (nI p))]) d_R_run_78 rfl rfl rfl rfl ?_
                          refine mp_iload X 82 d_R_run_80 rfl rfl ?_
                          refine mp_iload_n X 83 d_R_run_82 rfl rfl rfl ?_
                          refine mp_Nne X 96 86 d_R_run_83 (by decide) rfl (by omega) (by omega) (fun q7 => ?_) (fun q7 => ?_)
                          · refine mp_iload X 98 d_R_run_96 rfl rfl ?_
                            refine mp_istore X 100 (L' := [.val (.ref (G.1 + 26)), .val (.int (nI j)), .val (.int (nI r)), .val (.int (nI v)), .val (.int (nI ((pq_sr (sp_fm S j) r (rm_T S j).length)))), .val (.int (nI ((pq_mn (sp_fm S j) r p)))), .val (.int (nI (((pq_ru (sp_fm S j) (p + 1)) - 1)))), .val (.int (nI p))]) d_R_run_98 rfl rfl rfl rfl ?_
                            refine mp_iload X 102 d_R_run_100 rfl rfl ?_
                            refine mp_iload X 104 d_R_run_102 rfl rfl ?_
                            refine mp_iload_n X 105 d_R_run_104 rfl rfl rfl ?_
                            refine mp_Nne X 112 108 d_R_run_105 (by decide) rfl (by omega) (by omega) (fun q8 => ?_) (fun q8 => ?_)
                            · refine mp_iconst X 113 (v := nI 0) d_R_run_112 rfl (by decide) ?_
                              refine mp_iadd X 114 d_R_run_113 rfl ?_
                              rw [nI_add]
                              refine mp_istore X 116 (L' := [.val (.ref (G.1 + 26)), .val (.int (nI j)), .val (.int (nI r)), .val (.int (nI v)), .val (.int (nI ((pq_sr (sp_fm S j) r (rm_T S j).length)))), .val (.int (nI ((pq_mn (sp_fm S j) r p) + 0))), .val (.int (nI (((pq_ru (sp_fm S j) (p + 1)) - 1)))), .val (.int (nI p))]) d_R_run_114 rfl rfl rfl rfl ?_
                              refine mp_iinc X 119 (L' := [.val (.ref (G.1 + 26)), .val (.int (nI j)), .val (.int (nI r)), .val (.int (nI v)), .val (.int (nI ((pq_sr (sp_fm S j) r (rm_T S j).length)))), .val (.int (nI ((pq_mn (sp_fm S j) r p) + 0))), .val (.int (nI (((pq_ru (sp_fm S j) (p + 1)) - 1)))), .val (.int (nI (p + 1)))]) (v := nI (p + 1)) d_R_run_116 rfl rfl (nI_1 _) rfl ?_
                              refine mp_goto X 51 d_R_run_119 (by decide) ?_
                              rw [rm_mp hps] at hg
                              rw [if_neg (show ¬ pq_ru (sp_fm S j) (p + 1) = r + 1 by omega)] at hg
                              rw [if_pos (show r < pq_ru (sp_fm S j) (p + 1) by omega)] at hg
                              exact hg
                            · omega
                          · refine mp_iload X 88 d_R_run_86 rfl rfl ?_
                            refine mp_Zge X 96 91 d_R_run_88 (by decide) rfl (by omega) (fun q9 => ?_) (fun q9 => ?_)
                            · refine mp_iload X 98 d_R_run_96 rfl rfl ?_
                              refine mp_istore X 100 (L' := [.val (.ref (G.1 + 26)), .val (.int (nI j)), .val (.int (nI r)), .val (.int (nI v)), .val (.int (nI ((pq_sr (sp_fm S j) r (rm_T S j).length)))), .val (.int (nI ((pq_mn (sp_fm S j) r p)))), .val (.int (nI (((pq_ru (sp_fm S j) (p + 1)) - 1)))), .val (.int (nI p))]) d_R_run_98 rfl rfl rfl rfl ?_
                              refine mp_iload X 102 d_R_run_100 rfl rfl ?_
                              refine mp_iload X 104 d_R_run_102 rfl rfl ?_
                              refine mp_iload_n X 105 d_R_run_104 rfl rfl rfl ?_
                              refine mp_Nne X 112 108 d_R_run_105 (by decide) rfl (by omega) (by omega) (fun q10 => ?_) (fun q10 => ?_)
                              · omega
                              · refine mp_iconst X 109 (v := nI 1) d_R_run_108 rfl (by decide) ?_
                                refine mp_goto X 113 d_R_run_109 (by decide) ?_
                                refine mp_iadd X 114 d_R_run_113 rfl ?_
                                rw [nI_add]
                                refine mp_istore X 116 (L' := [.val (.ref (G.1 + 26)), .val (.int (nI j)), .val (.int (nI r)), .val (.int (nI v)), .val (.int (nI ((pq_sr (sp_fm S j) r (rm_T S j).length)))), .val (.int (nI ((pq_mn (sp_fm S j) r p) + 1))), .val (.int (nI (((pq_ru (sp_fm S j) (p + 1)) - 1)))), .val (.int (nI p))]) d_R_run_114 rfl rfl rfl rfl ?_
                                refine mp_iinc X 119 (L' := [.val (.ref (G.1 + 26)), .val (.int (nI j)), .val (.int (nI r)), .val (.int (nI v)), .val (.int (nI ((pq_sr (sp_fm S j) r (rm_T S j).length)))), .val (.int (nI ((pq_mn (sp_fm S j) r p) + 1))), .val (.int (nI (((pq_ru (sp_fm S j) (p + 1)) - 1)))), .val (.int (nI (p + 1)))]) (v := nI (p + 1)) d_R_run_116 rfl rfl (nI_1 _) rfl ?_
                                refine mp_goto X 51 d_R_run_119 (by decide) ?_
                                rw [rm_mp hps] at hg
                                rw [if_pos (show pq_ru (sp_fm S j) (p + 1) = r + 1 by omega)] at hg
                                rw [if_pos (show r < pq_ru (sp_fm S j) (p + 1) by omega)] at hg
                                exact hg
                            · exact q9.elim
                    · rw [if_neg hc]
                      refine mp_iload X 53 d_R_run_51 rfl rfl ?_
                      refine mp_aload_n X 54 d_R_run_53 rfl rfl rfl ?_
                      refine mp_getf (v := .int (nI ((rm_T S j).length))) X 57 lk_R_61_R d_R_run_54 rfl (hK3.sz (by decide)) hK3.ob hV3.1 ?_
                      refine mp_Nge X 122 60 d_R_run_57 (by decide) rfl (by omega) (by omega) (fun q1 => ?_) (fun q1 => ?_)
                      · omega
                      · refine mp_iload X 62 d_R_run_60 rfl rfl ?_
                        refine mp_aload_n X 63 d_R_run_62 rfl rfl rfl ?_
                        refine mp_iload_n X 64 d_R_run_63 rfl rfl rfl ?_
                        refine mp_iload X 66 d_R_run_64 rfl rfl ?_
                        refine mp_callE X mp_Ts_ok 69 (rest := [.int (rm_m (pq_ru (sp_fm S j) p))]) (k_R_begins (p := p) (n := bn) _ hK3 hS3 hV3 hok hj (by omega) hbn) Y_R_begins in_R (mp_IV X (q := (nR_R, nT_R, 17)) d_R_run_66 Y_R_begins ml_R_101 im_R_begins se_R_begins (by decide) rfl (by decide) (by show _ = some 2; decide) (hK3.sz (by decide)) hK3.ob) rfl (by decide) (by decide) (by decide) (by decide) rfl (Nat.le_of_ble_eq_true rfl) rfl ?_
                        refine mp_Zeq X 76 72 d_R_run_69 (by decide) rfl (by omega) (fun q2 => ?_) (fun q2 => ?_)
                        · refine mp_iconst X 77 (v := nI 0) d_R_run_76 rfl (by decide) ?_
                          refine mp_iadd X 78 d_R_run_77 rfl ?_
                          have hbb : pq_bg (sp_fm S j) p = false := by rcases hb with ⟨h1, h2⟩ | ⟨h1, h2⟩ <;> first | exact h2 | omega
                          have eg : rm_m (pq_ru (sp_fm S j) p) + nI 0 = rm_m (pq_ru (sp_fm S j) (p + 1)) := by rw [pq_ru_s, hbb]; exact rm_m0 (by have := pq_ru_s (sp_fm S j) p; rw [hbb] at this; have e0 : (if false = true then 1 else 0) = 0 := rfl; omega)
                          rw [eg]
                          rw [rm_mp hps]
                          refine mp_istore X 80 (L' := [.val (.ref (G.1 + 26)), .val (.int (nI j)), .val (.int (nI r)), .val (.int (nI v)), .val (.int (-1)), .val (.int (nI ((pq_mn (sp_fm S j) r p)))), .val (.int (nI (((pq_ru (sp_fm S j) (p + 1)) - 1)))), .val (.int (nI p))]) d_R_run_78 rfl rfl rfl rfl ?_
                          refine mp_iload X 82 d_R_run_80 rfl rfl ?_
                          refine mp_iload_n X 83 d_R_run_82 rfl rfl rfl ?_
                          refine mp_Nne X 96 86 d_R_run_83 (by decide) rfl (by omega) (by omega) (fun q3 => ?_) (fun q3 => ?_)
                          · refine mp_iload X 98 d_R_run_96 rfl rfl ?_
                            refine mp_istore X 100 (L' := [.val (.ref (G.1 + 26)), .val (.int (nI j)), .val (.int (nI r)), .val (.int (nI v)), .val (.int (-1)), .val (.int (nI ((pq_mn (sp_fm S j) r p)))), .val (.int (nI (((pq_ru (sp_fm S j) (p + 1)) - 1)))), .val (.int (nI p))]) d_R_run_98 rfl rfl rfl rfl ?_
                            refine mp_iload X 102 d_R_run_100 rfl rfl ?_
                            refine mp_iload X 104 d_R_run_102 rfl rfl ?_
                            refine mp_iload_n X 105 d_R_run_104 rfl rfl rfl ?_
                            refine mp_Nne X 112 108 d_R_run_105 (by decide) rfl (by omega) (by omega) (fun q4 => ?_) (fun q4 => ?_)
                            · refine mp_iconst X 113 (v := nI 0) d_R_run_112 rfl (by decide) ?_
                              refine mp_iadd X 114 d_R_run_113 rfl ?_
                              rw [nI_add]
                              refine mp_istore X 116 (L' := [.val (.ref (G.1 + 26)), .val (.int (nI j)), .val (.int (nI r)), .val (.int (nI v)), .val (.int (-1)), .val (.int (nI ((pq_mn (sp_fm S j) r p) + 0))), .val (.int (nI (((pq_ru (sp_fm S j) (p + 1)) - 1)))), .val (.int (nI p))]) d_R_run_114 rfl rfl rfl rfl ?_
                              refine mp_iinc X 119 (L' := [.val (.ref (G.1 + 26)), .val (.int (nI j)), .val (.int (nI r)), .val (.int (nI v)), .val (.int (-1)), .val (.int (nI ((pq_mn (sp_fm S j) r p) + 0))), .val (.int (nI (((pq_ru (sp_fm S j) (p + 1)) - 1)))), .val (.int (nI (p + 1)))]) (v := nI (p + 1)) d_R_run_116 rfl rfl (nI_1 _) rfl ?_
                              refine mp_goto X 51 d_R_run_119 (by decide) ?_
                              rw [rm_mp hps] at hg
                              rw [if_neg (show ¬ pq_ru (sp_fm S j) (p + 1) = r + 1 by omega)] at hg
                              rw [if_neg (show ¬ r < pq_ru (sp_fm S j) (p + 1) by rw [hbb] at hmx; simp at hmx; omega)] at hg
                              exact hg
                            · omega
                          · refine mp_iload X 88 d_R_run_86 rfl rfl ?_
                            refine mp_if_ge X 96 91 d_R_run_88 (by decide) rfl (fun q5 => ?_) (fun q5 => ?_)
                            · exact absurd q5 (by decide)
                            · refine mp_iload X 93 d_R_run_91 rfl rfl ?_
                              refine mp_goto X 98 d_R_run_93 (by decide) ?_
                              refine mp_istore X 100 (L' := [.val (.ref (G.1 + 26)), .val (.int (nI j)), .val (.int (nI r)), .val (.int (nI v)), .val (.int (nI p)), .val (.int (nI ((pq_mn (sp_fm S j) r p)))), .val (.int (nI (((pq_ru (sp_fm S j) (p + 1)) - 1)))), .val (.int (nI p))]) d_R_run_98 rfl rfl rfl rfl ?_
                              refine mp_iload X 102 d_R_run_100 rfl rfl ?_
                              refine mp_iload X 104 d_R_run_102 rfl rfl ?_
                              refine mp_iload_n X 105 d_R_run_104 rfl rfl rfl ?_
                              refine mp_Nne X 112 108 d_R_run_105 (by decide) rfl (by omega) (by omega) (fun q6 => ?_) (fun q6 => ?_)
                              · omega
                              · refine mp_iconst X 109 (v := nI 1) d_R_run_108 rfl (by decide) ?_
                                refine mp_goto X 113 d_R_run_109 (by decide) ?_
                                refine mp_iadd X 114 d_R_run_113 rfl ?_
                                rw [nI_add]
                                refine mp_istore X 116 (L' := [.val (.ref (G.1 + 26)), .val (.int (nI j)), .val (.int (nI r)), .val (.int (nI v)), .val (.int (nI p)), .val (.int (nI ((pq_mn (sp_fm S j) r p) + 1))), .val (.int (nI (((pq_ru (sp_fm S j) (p + 1)) - 1)))), .val (.int (nI p))]) d_R_run_114 rfl rfl rfl rfl ?_
                                refine mp_iinc X 119 (L' := [.val (.ref (G.1 + 26)), .val (.int (nI j)), .val (.int (nI r)), .val (.int (nI v)), .val (.int (nI p)), .val (.int (nI ((pq_mn (sp_fm S j) r p) + 1))), .val (.int (nI (((pq_ru (sp_fm S j) (p + 1)) - 1)))), .val (.int (nI (p + 1)))]) (v := nI (p + 1)) d_R_run_116 rfl rfl (nI_1 _) rfl ?_
                                refine mp_goto X 51 d_R_run_119 (by decide) ?_
                                rw [rm_mp hps] at hg
                                rw [if_pos (show pq_ru (sp_fm S j) (p + 1) = r + 1 by omega)] at hg
                                rw [if_pos (show r < pq_ru (sp_fm S j) (p + 1) by omega)] at hg
                                exfalso
                                rw [hbb] at hmx
                                simp at hmx
                                omega
                        · refine mp_iconst X 73 (v := nI 1) d_R_run_72 rfl (by decide) ?_
                          refine mp_goto X 77 d_R_run_73 (by decide) ?_
                          refine mp_iadd X 78 d_R_run_77 rfl ?_
                          have hbb : pq_bg (sp_fm S j) p = true := by rcases hb with ⟨h1, h2⟩ | ⟨h1, h2⟩ <;> first | exact h2 | omega
                          have eg : rm_m (pq_ru (sp_fm S j) p) + nI 1 = rm_m (pq_ru (sp_fm S j) (p + 1)) := by rw [pq_ru_s, hbb]; exact rm_m1 _
                          rw [eg]
                          rw [rm_mp hps]
                          refine mp_istore X 80 (L' := [.val (.ref (G.1 + 26)), .val (.int (nI j)), .val (.int (nI r)), .val (.int (nI v)), .val (.int (-1)), .val (.int (nI ((pq_mn (sp_fm S j) r p)))), .val (.int (nI (((pq_ru (sp_fm S j) (p + 1)) - 1)))), .val (.int (nI p))]) d_R_run_78 rfl rfl rfl rfl ?_
                          refine mp_iload X 82 d_R_run_80 rfl rfl ?_
                          refine mp_iload_n X 83 d_R_run_82 rfl rfl rfl ?_
                          refine mp_Nne X 96 86 d_R_run_83 (by decide) rfl (by omega) (by omega) (fun q7 => ?_) (fun q7 => ?_)
                          · refine mp_iload X 98 d_R_run_96 rfl rfl ?_
                            refine mp_istore X 100 (L' := [.val (.ref (G.1 + 26)), .val (.int (nI j)), .val (.int (nI r)), .val (.int (nI v)), .val (.int (-1)), .val (.int (nI ((pq_mn (sp_fm S j) r p)))), .val (.int (nI (((pq_ru (sp_fm S j) (p + 1)) - 1)))), .val (.int (nI p))]) d_R_run_98 rfl rfl rfl rfl ?_
                            refine mp_iload X 102 d_R_run_100 rfl rfl ?_
                            refine mp_iload X 104 d_R_run_102 rfl rfl ?_
                            refine mp_iload_n X 105 d_R_run_104 rfl rfl rfl ?_
                            refine mp_Nne X 112 108 d_R_run_105 (by decide) rfl (by omega) (by omega) (fun q8 => ?_) (fun q8 => ?_)
                            · refine mp_iconst X 113 (v := nI 0) d_R_run_112 rfl (by decide) ?_
                              refine mp_iadd X 114 d_R_run_113 rfl ?_
                              rw [nI_add]
                              refine mp_istore X 116 (L' := [.val (.ref (G.1 + 26)), .val (.int (nI j)), .val (.int (nI r)), .val (.int (nI v)), .val (.int (-1)), .val (.int (nI ((pq_mn (sp_fm S j) r p) + 0))), .val (.int (nI (((pq_ru (sp_fm S j) (p + 1)) - 1)))), .val (.int (nI p))]) d_R_run_114 rfl rfl rfl rfl ?_
                              refine mp_iinc X 119 (L' := [.val (.ref (G.1 + 26)), .val (.int (nI j)), .val (.int (nI r)), .val (.int (nI v)), .val (.int (-1)), .val (.int (nI ((pq_mn (sp_fm S j) r p) + 0))), .val (.int (nI (((pq_ru (sp_fm S j) (p + 1)) - 1)))), .val (.int (nI (p + 1)))]) (v := nI (p + 1)) d_R_run_116 rfl rfl (nI_1 _) rfl ?_
                              refine mp_goto X 51 d_R_run_119 (by decide) ?_
                              rw [rm_mp hps] at hg
                              rw [if_neg (show ¬ pq_ru (sp_fm S j) (p + 1) = r + 1 by omega)] at hg
                              rw [if_neg (show ¬ r < pq_ru (sp_fm S j) (p + 1) by rw [hbb] at hmx; simp at hmx; omega)] at hg
                              exact hg
                            · omega
                          · refine mp_iload X 88 d_R_run_86 rfl rfl ?_
                            refine mp_if_ge X 96 91 d_R_run_88 (by decide) rfl (fun q9 => ?_) (fun q9 => ?_)
                            · exact absurd q9 (by decide)
                            · refine mp_iload X 93 d_R_run_91 rfl rfl ?_
                              refine mp_goto X 98 d_R_run_93 (by decide) ?_
                              refine mp_istore X 100 (L' := [.val (.ref (G.1 + 26)), .val (.int (nI j)), .val (.int (nI r)), .val (.int (nI v)), .val (.int (nI p)), .val (.int (nI ((pq_mn (sp_fm S j) r p)))), .val (.int (nI (((pq_ru (sp_fm S j) (p + 1)) - 1)))), .val (.int (nI p))]) d_R_run_98 rfl rfl rfl rfl ?_
                              refine mp_iload X 102 d_R_run_100 rfl rfl ?_
                              refine mp_iload X 104 d_R_run_102 rfl rfl ?_
                              refine mp_iload_n X 105 d_R_run_104 rfl rfl rfl ?_
                              refine mp_Nne X 112 108 d_R_run_105 (by decide) rfl (by omega) (by omega) (fun q10 => ?_) (fun q10 => ?_)
                              · omega
                              · refine mp_iconst X 109 (v := nI 1) d_R_run_108 rfl (by decide) ?_
                                refine mp_goto X 113 d_R_run_109 (by decide) ?_
                                refine mp_iadd X 114 d_R_run_113 rfl ?_
                                rw [nI_add]
                                refine mp_istore X 116 (L' := [.val (.ref (G.1 + 26)), .val (.int (nI j)), .val (.int (nI r)), .val (.int (nI v)), .val (.int (nI p)), .val (.int (nI ((pq_mn (sp_fm S j) r p) + 1))), .val (.int (nI (((pq_ru (sp_fm S j) (p + 1)) - 1)))), .val (.int (nI p))]) d_R_run_114 rfl rfl rfl rfl ?_
                                refine mp_iinc X 119 (L' := [.val (.ref (G.1 + 26)), .val (.int (nI j)), .val (.int (nI r)), .val (.int (nI v)), .val (.int (nI p)), .val (.int (nI ((pq_mn (sp_fm S j) r p) + 1))), .val (.int (nI (((pq_ru (sp_fm S j) (p + 1)) - 1)))), .val (.int (nI (p + 1)))]) (v := nI (p + 1)) d_R_run_116 rfl rfl (nI_1 _) rfl ?_
                                refine mp_goto X 51 d_R_run_119 (by decide) ?_
                                rw [rm_mp hps] at hg
                                rw [if_pos (show pq_ru (sp_fm S j) (p + 1) = r + 1 by omega)] at hg
                                rw [if_pos (show r < pq_ru (sp_fm S j) (p + 1) by omega)] at hg
                                rw [pq_sr_bg (n := (rm_T S j).length) (by omega) hbb (show pq_ru (sp_fm S j) p = r by rw [hbb] at hmx; simp only [if_true] at hmx; omega)] at hg ⊢
                                exact hg
                have h0 := hloop (rm_T S j).length 0 (by omega)
                rw [if_neg (show ¬ r < pq_ru (sp_fm S j) 0 by unfold pq_ru; omega)] at h0
                exact h0
              · omega
set_option maxRecDepth 100000 in
set_option maxHeartbeats 4000000 in
theorem k_R_count (l : Launch) {G : mp_G} {h : mp_H} {S : pq_S} {x w : Int32} (hK1 : rm_K G h) (hS1 : rm_S h S) (hok : pq_ok S) :
    mp_M G mp_Ts l y_R_count 1 0 0 [.ref (G.1 + 26), .int x, .int w] h (rm_Z h (sp_count S x w)) (fun _ _ => False) := by
  have hM : S.1 ≤ 90 := hok.1
  have hw := hok.2.1
  have hf1 : mp_fr rm_A h h := mp_fr.rf
  refine mp_enter (by decide) Y_R_count fun E hl X => ?_
  refine mp_eq rfl (L2 := [.val (.ref (G.1 + 26)), .val (.int x), .val (.int w), .unset, .unset]) rfl rfl ?_
  cases hx : sp_ix 3 x with
  | none =>
    have hz : sp_count S x w = (1, 0, S) := by unfold sp_count; rw [hx]
    rw [hz]
    refine mp_aload_n X 1 d_R_count_0 rfl rfl rfl ?_
    refine mp_iload_n X 2 d_R_count_1 rfl rfl rfl ?_
    refine mp_callE X mp_Ts_ok 5 (rest := [.ref (G.1 + 26)]) (k_R_isPageF _ hx) Y_R_isPage in_R (mp_IS X d_R_count_2 Y_R_isPage ml_R_83 st_R_isPage in_R (by decide) (by show _ = some 1; decide)) rfl (by decide) (by decide) (by decide) (by decide) rfl (Nat.le_of_ble_eq_true rfl) rfl ?_
    refine mp_Zeq X 21 8 d_R_count_5 (by decide) rfl (by omega) (fun q1 => ?_) (fun q1 => ?_)
    · refine mp_iconst X 22 (v := nI 1) d_R_count_21 rfl (by decide) ?_
      refine mp_putf X 25 ls_R_51_R d_R_count_22 rfl (Or.inl rfl) (hK1.sz (by decide)) hK1.ob rfl rfl ?_
      obtain ⟨h2, eh2⟩ : ∃ z, z = mp_set h 26 (0) (.int (nI 1)) := ⟨_, rfl⟩
      rw [← eh2]
      have rh2 : ∀ a b, h2.2.1 a b = if a = 26 ∧ b = 0 then .int (nI 1) else h.2.1 a b := by intro a b; rw [eh2]; rfl
      have hK2 : rm_K G h2 := by rw [eh2]; exact hK1.st (Or.inr (Or.inl rfl))
      have hf2 : mp_fr rm_A h h2 := by rw [eh2]; exact hf1.set (by unfold rm_A; omega)
      have hS2 : rm_S h2 S := by rw [eh2]; exact hS1.cd
      have hc2 : h2.2.1 26 0 = .int (nI 1) := by rw [rh2, if_pos ⟨rfl, rfl⟩]
      refine mp_aload_n X 26 d_R_count_25 rfl rfl rfl ?_
      refine mp_getf (v := .int (nI 1)) X 29 lk_R_51_R d_R_count_26 rfl (hK2.sz (by decide)) hK2.ob hc2 ?_
      refine mp_Zle X 34 32 d_R_count_29 (by decide) rfl (by omega) (fun q2 => ?_) (fun q2 => ?_)
      · omega
      · refine mp_iconst X 33 (v := nI 0) d_R_count_32 rfl (by decide) ?_
        exact mp_iret X d_R_count_33 rfl rfl (by decide) (by decide) (rm_Z.code hc2 (by decide) hS2 hf2)
    · exact absurd rfl q1
  | some j =>
    obtain ⟨hj, rfl⟩ := sp_ix_some hx (by decide)
    cases hw4 : sp_ix 4 w with
    | none =>
      have hz : sp_count S (nI j) w = (1, 0, S) := by unfold sp_count; rw [hx, hw4]
      rw [hz]
      refine mp_aload_n X 1 d_R_count_0 rfl rfl rfl ?_
      refine mp_iload_n X 2 d_R_count_1 rfl rfl rfl ?_
      refine mp_callE X mp_Ts_ok 5 (rest := [.ref (G.1 + 26)]) (k_R_isPageT _ hj) Y_R_isPage in_R (mp_IS X d_R_count_2 Y_R_isPage ml_R_83 st_R_isPage in_R (by decide) (by show _ = some 1; decide)) rfl (by decide) (by decide) (by decide) (by decide) rfl (Nat.le_of_ble_eq_true rfl) rfl ?_
      refine mp_Zeq X 21 8 d_R_count_5 (by decide) rfl (by omega) (fun q1 => ?_) (fun q1 => ?_)
      · exact absurd q1 (by decide)
      · refine mp_iload_n X 9 d_R_count_8 rfl rfl rfl ?_
        refine mp_if_lt X 21 12 d_R_count_9 (by decide) rfl (fun q2 => ?_) (fun q2 => ?_)
        · refine mp_iconst X 22 (v := nI 1) d_R_count_21 rfl (by decide) ?_
          refine mp_putf X 25 ls_R_51_R d_R_count_22 rfl (Or.inl rfl) (hK1.sz (by decide)) hK1.ob rfl rfl ?_
          obtain ⟨h2, eh2⟩ : ∃ z, z = mp_set h 26 (0) (.int (nI 1)) := ⟨_, rfl⟩
          rw [← eh2]
          have rh2 : ∀ a b, h2.2.1 a b = if a = 26 ∧ b = 0 then .int (nI 1) else h.2.1 a b := by intro a b; rw [eh2]; rfl
          have hK2 : rm_K G h2 := by rw [eh2]; exact hK1.st (Or.inr (Or.inl rfl))
          have hf2 : mp_fr rm_A h h2 := by rw [eh2]; exact hf1.set (by unfold rm_A; omega)
          have hS2 : rm_S h2 S := by rw [eh2]; exact hS1.cd
          have hc2 : h2.2.1 26 0 = .int (nI 1) := by rw [rh2, if_pos ⟨rfl, rfl⟩]
          refine mp_aload_n X 26 d_R_count_25 rfl rfl rfl ?_
          refine mp_getf (v := .int (nI 1)) X 29 lk_R_51_R d_R_count_26 rfl (hK2.sz (by decide)) hK2.ob hc2 ?_
          refine mp_Zle X 34 32 d_R_count_29 (by decide) rfl (by omega) (fun q3 => ?_) (fun q3 => ?_)
          · omega
          · refine mp_iconst X 33 (v := nI 0) d_R_count_32 rfl (by decide) ?_
            exact mp_iret X d_R_count_33 rfl rfl (by decide) (by decide) (rm_Z.code hc2 (by decide) hS2 hf2)
        · refine mp_iload_n X 13 d_R_count_12 rfl rfl rfl ?_
          refine mp_iconst X 14 (v := nI 3) d_R_count_13 rfl (by decide) ?_
          refine mp_icmp_gt X 21 17 d_R_count_14 (by decide) rfl (fun q4 => ?_) (fun q4 => ?_)
          · refine mp_iconst X 22 (v := nI 1) d_R_count_21 rfl (by decide) ?_
            refine mp_putf X 25 ls_R_51_R d_R_count_22 rfl (Or.inl rfl) (hK1.sz (by decide)) hK1.ob rfl rfl ?_
            obtain ⟨h2, eh2⟩ : ∃ z, z = mp_set h 26 (0) (.int (nI 1)) := ⟨_, rfl⟩
            rw [← eh2]
            have rh2 : ∀ a b, h2.2.1 a b = if a = 26 ∧ b = 0 then .int (nI 1) else h.2.1 a b := by intro a b; rw [eh2]; rfl
            have hK2 : rm_K G h2 := by rw [eh2]; exact hK1.st (Or.inr (Or.inl rfl))
            have hf2 : mp_fr rm_A h h2 := by rw [eh2]; exact hf1.set (by unfold rm_A; omega)
            have hS2 : rm_S h2 S := by rw [eh2]; exact hS1.cd
            have hc2 : h2.2.1 26 0 = .int (nI 1) := by rw [rh2, if_pos ⟨rfl, rfl⟩]
            refine mp_aload_n X 26 d_R_count_25 rfl rfl rfl ?_
            refine mp_getf (v := .int (nI 1)) X 29 lk_R_51_R d_R_count_26 rfl (hK2.sz (by decide)) hK2.ob hc2 ?_
            refine mp_Zle X 34 32 d_R_count_29 (by decide) rfl (by omega) (fun q5 => ?_) (fun q5 => ?_)
            · omega
            · refine mp_iconst X 33 (v := nI 0) d_R_count_32 rfl (by decide) ?_
              exact mp_iret X d_R_count_33 rfl rfl (by decide) (by decide) (rm_Z.code hc2 (by decide) hS2 hf2)
          · exfalso; obtain ⟨q0, hq0, rfl⟩ := nI_of q2; have := Nat.not_lt.mp fun z => q4 ((nI_ltI (by decide) hq0).mpr z); rw [sp_ix_of (by omega) (by decide)] at hw4; cases hw4
    | some v =>
      obtain ⟨hv, rfl⟩ := sp_ix_some hw4 (by decide)
      obtain rfl | rfl | rfl | rfl : v = 0 ∨ v = 1 ∨ v = 2 ∨ v = 3 := by omega
      · have hz : sp_count S (nI j) (nI 0) = (0, nI (S.2.2.2 j), S) := by unfold sp_count; rw [hx, hw4]; rfl
        rw [hz]
        refine mp_aload_n X 1 d_R_count_0 rfl rfl rfl ?_
        refine mp_iload_n X 2 d_R_count_1 rfl rfl rfl ?_
        refine mp_callE X mp_Ts_ok 5 (rest := [.ref (G.1 + 26)]) (k_R_isPageT _ hj) Y_R_isPage in_R (mp_IS X d_R_count_2 Y_R_isPage ml_R_83 st_R_isPage in_R (by decide) (by show _ = some 1; decide)) rfl (by decide) (by decide) (by decide) (by decide) rfl (Nat.le_of_ble_eq_true rfl) rfl ?_
        refine mp_Zeq X 21 8 d_R_count_5 (by decide) rfl (by omega) (fun q1 => ?_) (fun q1 => ?_)
        · exact absurd q1 (by decide)
        · refine mp_iload_n X 9 d_R_count_8 rfl rfl rfl ?_
          refine mp_Zlt X 21 12 d_R_count_9 (by decide) rfl (by omega) (fun q2 => ?_) (fun q2 => ?_)
          · exact q2.elim
          · refine mp_iload_n X 13 d_R_count_12 rfl rfl rfl ?_
            refine mp_iconst X 14 (v := nI 3) d_R_count_13 rfl (by decide) ?_
            refine mp_Ngt X 21 17 d_R_count_14 (by decide) rfl (by omega) (by omega) (fun q3 => ?_) (fun q3 => ?_)
            · omega
            · refine mp_iconst X 18 (v := nI 0) d_R_count_17 rfl (by decide) ?_
              refine mp_goto X 22 d_R_count_18 (by decide) ?_
              refine mp_putf X 25 ls_R_51_R d_R_count_22 rfl (Or.inl rfl) (hK1.sz (by decide)) hK1.ob rfl rfl ?_
              obtain ⟨h2, eh2⟩ : ∃ z, z = mp_set h 26 (0) (.int (nI 0)) := ⟨_, rfl⟩
              rw [← eh2]
              have rh2 : ∀ a b, h2.2.1 a b = if a = 26 ∧ b = 0 then .int (nI 0) else h.2.1 a b := by intro a b; rw [eh2]; rfl
              have hK2 : rm_K G h2 := by rw [eh2]; exact hK1.st (Or.inr (Or.inl rfl))
              have hf2 : mp_fr rm_A h h2 := by rw [eh2]; exact hf1.set (by unfold rm_A; omega)
              have hS2 : rm_S h2 S := by rw [eh2]; exact hS1.cd
              have hc2 : h2.2.1 26 0 = .int (nI 0) := by rw [rh2, if_pos ⟨rfl, rfl⟩]
              refine mp_aload_n X 26 d_R_count_25 rfl rfl rfl ?_
              refine mp_getf (v := .int (nI 0)) X 29 lk_R_51_R d_R_count_26 rfl (hK2.sz (by decide)) hK2.ob hc2 ?_
              refine mp_Zle X 34 32 d_R_count_29 (by decide) rfl (by omega) (fun q4 => ?_) (fun q4 => ?_)
              · refine mp_iload_n X 35 d_R_count_34 rfl rfl rfl ?_
                refine mp_iconst X 36 (v := nI 2) d_R_count_35 rfl (by decide) ?_
                refine mp_Nge X 58 39 d_R_count_36 (by decide) rfl (by omega) (by omega) (fun q5 => ?_) (fun q5 => ?_)
                · omega
                · refine mp_iload_n X 40 d_R_count_39 rfl rfl rfl ?_
                  refine mp_Zne X 52 43 d_R_count_40 (by decide) rfl (by omega) (fun q6 => ?_) (fun q6 => ?_)
                  · exact absurd rfl q6
                  · refine mp_aload_n X 44 d_R_count_43 rfl rfl rfl ?_
                    refine mp_getf (v := .ref (G.1 + 35)) X 47 lk_R_36_R d_R_count_44 rfl (hK2.sz (by decide)) hK2.ob hK2.r_count ?_
                    refine mp_iload_n X 48 d_R_count_47 rfl rfl rfl ?_
                    refine mp_iald (v := .int (nI ((S.2.2.2 j)))) X 49 (j) d_R_count_48 rfl (hK2.sz (by decide)) hK2.k_count rfl (by omega) (by decide) (hS2.2.2 j hj).1 ?_
                    refine mp_goto X 57 d_R_count_49 (by decide) ?_
                    exact mp_iret X d_R_count_57 rfl rfl (by decide) (by decide) ⟨hc2, hS2, ⟨_, rfl, fun _ => rfl⟩, hf2⟩
              · omega
      · have hz : sp_count S (nI j) (nI 1) = (0, nI (sp_mx S j), S) := by unfold sp_count; rw [hx, hw4]; rfl
        rw [hz]
        refine mp_aload_n X 1 d_R_count_0 rfl rfl rfl ?_
        refine mp_iload_n X 2 d_R_count_1 rfl rfl rfl ?_
        refine mp_callE X mp_Ts_ok 5 (rest := [.ref (G.1 + 26)]) (k_R_isPageT _ hj) Y_R_isPage in_R (mp_IS X d_R_count_2 Y_R_isPage ml_R_83 st_R_isPage in_R (by decide) (by show _ = some 1; decide)) rfl (by decide) (by decide) (by decide) (by decide) rfl (Nat.le_of_ble_eq_true rfl) rfl ?_
        refine mp_Zeq X 21 8 d_R_count_5 (by decide) rfl (by omega) (fun q1 => ?_) (fun q1 => ?_)
        · exact absurd q1 (by decide)
        · refine mp_iload_n X 9 d_R_count_8 rfl rfl rfl ?_
          refine mp_Zlt X 21 12 d_R_count_9 (by decide) rfl (by omega) (fun q2 => ?_) (fun q2 => ?_)
          · exact q2.elim
          · refine mp_iload_n X 13 d_R_count_12 rfl rfl rfl ?_
            refine mp_iconst X 14 (v := nI 3) d_R_count_13 rfl (by decide) ?_
            refine mp_Ngt X 21 17 d_R_count_14 (by decide) rfl (by omega) (by omega) (fun q3 => ?_) (fun q3 => ?_)
            · omega
            · refine mp_iconst X 18 (v := nI 0) d_R_count_17 rfl (by decide) ?_
              refine mp_goto X 22 d_R_count_18 (by decide) ?_
              refine mp_putf X 25 ls_R_51_R d_R_count_22 rfl (Or.inl rfl) (hK1.sz (by decide)) hK1.ob rfl rfl ?_
              obtain ⟨h2, eh2⟩ : ∃ z, z = mp_set h 26 (0) (.int (nI 0)) := ⟨_, rfl⟩
              rw [← eh2]
              have rh2 : ∀ a b, h2.2.1 a b = if a = 26 ∧ b = 0 then .int (nI 0) else h.2.1 a b := by intro a b; rw [eh2]; rfl
              have hK2 : rm_K G h2 := by rw [eh2]; exact hK1.st (Or.inr (Or.inl rfl))
              have hf2 : mp_fr rm_A h h2 := by rw [eh2]; exact hf1.set (by unfold rm_A; omega)
              have hS2 : rm_S h2 S := by rw [eh2]; exact hS1.cd
              have hc2 : h2.2.1 26 0 = .int (nI 0) := by rw [rh2, if_pos ⟨rfl, rfl⟩]
              refine mp_aload_n X 26 d_R_count_25 rfl rfl rfl ?_
              refine mp_getf (v := .int (nI 0)) X 29 lk_R_51_R d_R_count_26 rfl (hK2.sz (by decide)) hK2.ob hc2 ?_
              refine mp_Zle X 34 32 d_R_count_29 (by decide) rfl (by omega) (fun q4 => ?_) (fun q4 => ?_)
              · refine mp_iload_n X 35 d_R_count_34 rfl rfl rfl ?_
                refine mp_iconst X 36 (v := nI 2) d_R_count_35 rfl (by decide) ?_
                refine mp_Nge X 58 39 d_R_count_36 (by decide) rfl (by omega) (by omega) (fun q5 => ?_) (fun q5 => ?_)
                · omega
                · refine mp_iload_n X 40 d_R_count_39 rfl rfl rfl ?_
                  refine mp_Zne X 52 43 d_R_count_40 (by decide) rfl (by omega) (fun q6 => ?_) (fun q6 => ?_)
                  · refine mp_aload_n X 53 d_R_count_52 rfl rfl rfl ?_
                    refine mp_iload_n X 54 d_R_count_53 rfl rfl rfl ?_
                    refine mp_callE X mp_Ts_ok 57 (rest := []) (k_R_greatest _ hK2 hS2 hok hj) Y_R_greatest in_R (mp_IV X (q := (nR_R, nT_R, 17)) d_R_count_54 Y_R_greatest ml_R_75 im_R_greatest se_R_greatest (by decide) rfl (by decide) (by show _ = some 1; decide) (hK2.sz (by decide)) hK2.ob) rfl (by decide) (by decide) (by decide) (by decide) rfl (by decide) rfl ?_
                    exact mp_iret X d_R_count_57 rfl rfl (by decide) (by decide) ⟨hc2, hS2, ⟨_, rfl, fun _ => rfl⟩, hf2⟩
                  · omega
              · omega
      · have hz : sp_count S (nI j) (nI 2) = (0, nI ((rm_F S j).length), S) := by unfold sp_count; rw [hx, hw4]; rfl
        rw [hz]
        refine mp_aload_n X 1 d_R_count_0 rfl rfl rfl ?_
        refine mp_iload_n X 2 d_R_count_1 rfl rfl rfl ?_
        refine mp_callE X mp_Ts_ok 5 (rest := [.ref (G.1 + 26)]) (k_R_isPageT _ hj) Y_R_isPage in_R (mp_IS X d_R_count_2 Y_R_isPage ml_R_83 st_R_isPage in_R (by decide) (by show _ = some 1; decide)) rfl (by decide) (by decide) (by decide) (by decide) rfl (Nat.le_of_ble_eq_true rfl) rfl ?_
        refine mp_Zeq X 21 8 d_R_count_5 (by decide) rfl (by omega) (fun q1 => ?_) (fun q1 => ?_)
        · exact absurd q1 (by decide)
        · refine mp_iload_n X 9 d_R_count_8 rfl rfl rfl ?_
          refine mp_Zlt X 21 12 d_R_count_9 (by decide) rfl (by omega) (fun q2 => ?_) (fun q2 => ?_)
          · exact q2.elim
          · refine mp_iload_n X 13 d_R_count_12 rfl rfl rfl ?_
            refine mp_iconst X 14 (v := nI 3) d_R_count_13 rfl (by decide) ?_
            refine mp_Ngt X 21 17 d_R_count_14 (by decide) rfl (by omega) (by omega) (fun q3 => ?_) (fun q3 => ?_)
            · omega
            · refine mp_iconst X 18 (v := nI 0) d_R_count_17 rfl (by decide) ?_
              refine mp_goto X 22 d_R_count_18 (by decide) ?_
              refine mp_putf X 25 ls_R_51_R d_R_count_22 rfl (Or.inl rfl) (hK1.sz (by decide)) hK1.ob rfl rfl ?_
              obtain ⟨h2, eh2⟩ : ∃ z, z = mp_set h 26 (0) (.int (nI 0)) := ⟨_, rfl⟩
              rw [← eh2]
              have rh2 : ∀ a b, h2.2.1 a b = if a = 26 ∧ b = 0 then .int (nI 0) else h.2.1 a b := by intro a b; rw [eh2]; rfl
              have hK2 : rm_K G h2 := by rw [eh2]; exact hK1.st (Or.inr (Or.inl rfl))
              have hf2 : mp_fr rm_A h h2 := by rw [eh2]; exact hf1.set (by unfold rm_A; omega)
              have hS2 : rm_S h2 S := by rw [eh2]; exact hS1.cd
              have hc2 : h2.2.1 26 0 = .int (nI 0) := by rw [rh2, if_pos ⟨rfl, rfl⟩]
              refine mp_aload_n X 26 d_R_count_25 rfl rfl rfl ?_
              refine mp_getf (v := .int (nI 0)) X 29 lk_R_51_R d_R_count_26 rfl (hK2.sz (by decide)) hK2.ob hc2 ?_
              refine mp_Zle X 34 32 d_R_count_29 (by decide) rfl (by omega) (fun q4 => ?_) (fun q4 => ?_)
              · refine mp_iload_n X 35 d_R_count_34 rfl rfl rfl ?_
                refine mp_iconst X 36 (v := nI 2) d_R_count_35 rfl (by decide) ?_
                refine mp_Nge X 58 39 d_R_count_36 (by decide) rfl (by omega) (by omega) (fun q5 => ?_) (fun q5 => ?_)
                · refine mp_iconst X 59 (v := nI 0) d_R_count_58 rfl (by decide) ?_
                  refine mp_istore_n X 60 (L' := [.val (.ref (G.1 + 26)), .val (.int (nI j)), .val (.int (nI 2)), .val (.int (nI 0)), .unset]) d_R_count_59 rfl rfl rfl rfl rfl ?_
                  refine mp_iconst X 61 (v := nI 0) d_R_count_60 rfl (by decide) ?_
                  refine mp_istore X 63 (L' := [.val (.ref (G.1 + 26)), .val (.int (nI j)), .val (.int (nI 2)), .val (.int (nI 0)), .val (.int (nI 0))]) d_R_count_61 rfl rfl rfl rfl ?_
                  have hend := rm_ct_row hok hj
                  have hloop : ∀ (n k : Nat), k + n = S.1 → mp_W G E h2 0 0 (mp_Q G E 0 0 (rm_Z h (0, nI ((rm_F S j).length), S)) (fun _ _ => False)) 63 [.val (.ref (G.1 + 26)), .val (.int (nI j)), .val (.int (nI 2)), .val (.int (nI (rm_ct (fun k => pq_kw (S.2.2.1 j) (S.2.2.2 j) k && pq_so S.2.1 k == 0) k))), .val (.int (nI k))] [] := by
                    intro n
                    induction n with
                    | zero =>
                      intro k hkn
                      have hk : k = S.1 := by omega
                      subst hk
                      refine mp_iload X 65 d_R_count_63 rfl rfl ?_
                      refine mp_aload_n X 66 d_R_count_65 rfl rfl rfl ?_
                      refine mp_getf (v := .int (nI (S.1))) X 69 lk_R_55_R d_R_count_66 rfl (hK2.sz (by decide)) hK2.ob hS2.1 ?_
                      refine mp_Nge X 121 72 d_R_count_69 (by decide) rfl (by omega) (by omega) (fun q1 => ?_) (fun q1 => ?_)
                      · refine mp_iload_n X 122 d_R_count_121 rfl rfl rfl ?_
                        rw [hend]
                        exact mp_iret X d_R_count_122 rfl rfl (by decide) (by decide) ⟨hc2, hS2, ⟨_, rfl, fun _ => rfl⟩, hf2⟩
                      · omega
                    | succ n ih =>
                      intro k hkn
                      have hkM : k < S.1 := by omega
                      obtain ⟨t1, t2, t3, t4, t5, t6⟩ := hS2.2.1 k hkM
                      have hso := (hw.2.2.2.1 k hkM).2.2.2.1
                      have s_kb := (hS2.2.2 j hj).2.2 k (by omega)
                      have hg := ih (k + 1) (by omega)
                      have hct : rm_ct (fun k => pq_kw (S.2.2.1 j) (S.2.2.2 j) k && pq_so S.2.1 k == 0) (k + 1) = (rm_ct (fun k => pq_kw (S.2.2.1 j) (S.2.2.2 j) k && pq_so S.2.1 k == 0) k) + (if (pq_kw (S.2.2.1 j) (S.2.2.2 j) k && pq_so S.2.1 k == 0) = true then 1 else 0) := rfl
                      rw [hct] at hg
                      obtain ⟨kb, kb1, hkb⟩ : ∃ kb : Nat, (kb = 1 ∧ pq_kw (S.2.2.1 j) (S.2.2.2 j) k = true ∨ kb = 0 ∧ pq_kw (S.2.2.1 j) (S.2.2.2 j) k = false) ∧ h2.2.1 34 (90 * j + k) = .int (nI kb) := by
                        cases hkw : pq_kw (S.2.2.1 j) (S.2.2.2 j) k with
                        | true => rw [hkw] at s_kb; exact ⟨1, Or.inl ⟨rfl, rfl⟩, s_kb⟩
                        | false => rw [hkw] at s_kb; exact ⟨0, Or.inr ⟨rfl, rfl⟩, s_kb⟩
                      have kbb : kb < 2 := by omega
                      refine mp_iload X 65 d_R_count_63 rfl rfl ?_
                      refine mp_aload_n X 66 d_R_count_65 rfl rfl rfl ?_
                      refine mp_getf (v := .int (nI (S.1))) X 69 lk_R_55_R d_R_count_66 rfl (hK2.sz (by decide)) hK2.ob hS2.1 ?_
                      refine mp_Nge X 121 72 d_R_count_69 (by decide) rfl (by omega) (by omega) (fun q1 => ?_) (fun q1 => ?_)
                      · omega
                      · refine mp_iload_n X 73 d_R_count_72 rfl rfl rfl ?_
                        refine mp_aload_n X 74 d_R_count_73 rfl rfl rfl ?_
                        refine mp_getf (v := .ref (G.1 + 34)) X 77 lk_R_32_R d_R_count_74 rfl (hK2.sz (by decide)) hK2.ob hK2.r_knows ?_
                        refine mp_bipush X 79 (v := nI 90) d_R_count_77 rfl (by decide) ?_
                        refine mp_iload_n X 80 d_R_count_79 rfl rfl rfl ?_
                        refine mp_imul X 81 d_R_count_80 rfl ?_
                        rw [pk_mul]
                        refine mp_iload X 83 d_R_count_81 rfl rfl ?_
                        refine mp_iadd X 84 d_R_count_83 rfl ?_
                        rw [nI_add]
                        refine mp_zald (v := .int (nI kb)) X 85 (90 * j + k) d_R_count_84 rfl (hK2.sz (by decide)) hK2.k_knows rfl (by omega) (by decide) hkb ?_
                        refine mp_Zeq X 112 88 d_R_count_85 (by decide) rfl (by omega) (fun q2 => ?_) (fun q2 => ?_)
                        · refine mp_iconst X 113 (v := nI 0) d_R_count_112 rfl (by decide) ?_
                          refine mp_iadd X 114 d_R_count_113 rfl ?_
                          rw [nI_add]
                          refine mp_istore_n X 115 (L' := [.val (.ref (G.1 + 26)), .val (.int (nI j)), .val (.int (nI 2)), .val (.int (nI (((rm_ct (fun k => pq_kw (S.2.2.1 j) (S.2.2.2 j) k && pq_so S.2.1 k == 0) k)) + 0))), .val (.int (nI k))]) d_R_count_114 rfl rfl rfl rfl rfl ?_
                          refine mp_iinc X 118 (L' := [.val (.ref (G.1 + 26)), .val (.int (nI j)), .val (.int (nI 2)), .val (.int (nI (((rm_ct (fun k => pq_kw (S.2.2.1 j) (S.2.2.2 j) k && pq_so S.2.1 k == 0) k)) + 0))), .val (.int (nI (k + 1)))]) (v := nI (k + 1)) d_R_count_115 rfl rfl (nI_1 _) rfl ?_
                          refine mp_goto X 63 d_R_count_118 (by decide) ?_
                          have hkw : pq_kw (S.2.2.1 j) (S.2.2.2 j) k = false := by rcases kb1 with ⟨h1, h2⟩ | ⟨h1, h2⟩; omega; exact h2
                          rw [hkw] at hg
                          exact hg
                        · refine mp_aload_n X 89 d_R_count_88 rfl rfl rfl ?_
                          refine mp_getf (v := .ref (G.1 + 27)) X 92 lk_R_7_R d_R_count_89 rfl (hK2.sz (by decide)) hK2.ob hK2.r_sort ?_
                          refine mp_iload X 94 d_R_count_92 rfl rfl ?_
                          refine mp_iald (v := .int (nI ((pq_so S.2.1 k)))) X 95 (k) d_R_count_94 rfl (hK2.sz (by decide)) hK2.k_sort rfl (by omega) (by decide) t1 ?_
                          refine mp_iload_n X 96 d_R_count_95 rfl rfl rfl ?_
                          refine mp_iconst X 97 (v := nI 2) d_R_count_96 rfl (by decide) ?_
                          refine mp_Nne X 104 100 d_R_count_97 (by decide) rfl (by omega) (by omega) (fun q3 => ?_) (fun q3 => ?_)
                          · exact absurd rfl q3
                          · refine mp_iconst X 101 (v := nI 0) d_R_count_100 rfl (by decide) ?_
                            refine mp_goto X 105 d_R_count_101 (by decide) ?_
                            refine mp_Nne X 112 108 d_R_count_105 (by decide) rfl (by omega) (by omega) (fun q4 => ?_) (fun q4 => ?_)
                            · refine mp_iconst X 113 (v := nI 0) d_R_count_112 rfl (by decide) ?_
                              refine mp_iadd X 114 d_R_count_113 rfl ?_
                              rw [nI_add]
                              refine mp_istore_n X 115 (L' := [.val (.ref (G.1 + 26)), .val (.int (nI j)), .val (.int (nI 2)), .val (.int (nI (((rm_ct (fun k => pq_kw (S.2.2.1 j) (S.2.2.2 j) k && pq_so S.2.1 k == 0) k)) + 0))), .val (.int (nI k))]) d_R_count_114 rfl rfl rfl rfl rfl ?_
                              refine mp_iinc X 118 (L' := [.val (.ref (G.1 + 26)), .val (.int (nI j)), .val (.int (nI 2)), .val (.int (nI (((rm_ct (fun k => pq_kw (S.2.2.1 j) (S.2.2.2 j) k && pq_so S.2.1 k == 0) k)) + 0))), .val (.int (nI (k + 1)))]) (v := nI (k + 1)) d_R_count_115 rfl rfl (nI_1 _) rfl ?_
                              refine mp_goto X 63 d_R_count_118 (by decide) ?_
                              have hkw : pq_kw (S.2.2.1 j) (S.2.2.2 j) k = true := by rcases kb1 with ⟨h1, h2⟩ | ⟨h1, h2⟩; exact h2; omega
                              have hs : (pq_so S.2.1 k == 0) = false := by simpa using q4
                              rw [hkw, hs] at hg
                              exact hg
                            · refine mp_iconst X 109 (v := nI 1) d_R_count_108 rfl (by decide) ?_
                              refine mp_goto X 113 d_R_count_109 (by decide) ?_
                              refine mp_iadd X 114 d_R_count_113 rfl ?_
                              rw [nI_add]
                              refine mp_istore_n X 115 (L' := [.val (.ref (G.1 + 26)), .val (.int (nI j)), .val (.int (nI 2)), .val (.int (nI (((rm_ct (fun k => pq_kw (S.2.2.1 j) (S.2.2.2 j) k && pq_so S.2.1 k == 0) k)) + 1))), .val (.int (nI k))]) d_R_count_114 rfl rfl rfl rfl rfl ?_
                              refine mp_iinc X 118 (L' := [.val (.ref (G.1 + 26)), .val (.int (nI j)), .val (.int (nI 2)), .val (.int (nI (((rm_ct (fun k => pq_kw (S.2.2.1 j) (S.2.2.2 j) k && pq_so S.2.1 k == 0) k)) + 1))), .val (.int (nI (k + 1)))]) (v := nI (k + 1)) d_R_count_115 rfl rfl (nI_1 _) rfl ?_
                              refine mp_goto X 63 d_R_count_118 (by decide) ?_
                              have hkw : pq_kw (S.2.2.1 j) (S.2.2.2 j) k = true := by rcases kb1 with ⟨h1, h2⟩ | ⟨h1, h2⟩; exact h2; omega
                              have hs : (pq_so S.2.1 k == 0) = true := by simpa using q4
                              rw [hkw, hs] at hg
                              exact hg
                  exact hloop S.1 0 (by omega)
                · omega
              · omega
      · have hz : sp_count S (nI j) (nI 3) = (0, nI ((sp_mk S j).length), S) := by unfold sp_count; rw [hx, hw4]; rfl
        rw [hz]
        refine mp_aload_n X 1 d_R_count_0 rfl rfl rfl ?_
        refine mp_iload_n X 2 d_R_count_1 rfl rfl rfl ?_
        refine mp_callE X mp_Ts_ok 5 (rest := [.ref (G.1 + 26)]) (k_R_isPageT _ hj) Y_R_isPage in_R (mp_IS X d_R_count_2 Y_R_isPage ml_R_83 st_R_isPage in_R (by decide) (by show _ = some 1; decide)) rfl (by decide) (by decide) (by decide) (by decide) rfl (Nat.le_of_ble_eq_true rfl) rfl ?_
        refine mp_Zeq X 21 8 d_R_count_5 (by decide) rfl (by omega) (fun q1 => ?_) (fun q1 => ?_)
        · exact absurd q1 (by decide)
        · refine mp_iload_n X 9 d_R_count_8 rfl rfl rfl ?_
          refine mp_Zlt X 21 12 d_R_count_9 (by decide) rfl (by omega) (fun q2 => ?_) (fun q2 => ?_)
          · exact q2.elim
          · refine mp_iload_n X 13 d_R_count_12 rfl rfl rfl ?_
            refine mp_iconst X 14 (v := nI 3) d_R_count_13 rfl (by decide) ?_
            refine mp_Ngt X 21 17 d_R_count_14 (by decide) rfl (by omega) (by omega) (fun q3 => ?_) (fun q3 => ?_)
            · omega
            · refine mp_iconst X 18 (v := nI 0) d_R_count_17 rfl (by decide) ?_
              refine mp_goto X 22 d_R_count_18 (by decide) ?_
              refine mp_putf X 25 ls_R_51_R d_R_count_22 rfl (Or.inl rfl) (hK1.sz (by decide)) hK1.ob rfl rfl ?_
              obtain ⟨h2, eh2⟩ : ∃ z, z = mp_set h 26 (0) (.int (nI 0)) := ⟨_, rfl⟩
              rw [← eh2]
              have rh2 : ∀ a b, h2.2.1 a b = if a = 26 ∧ b = 0 then .int (nI 0) else h.2.1 a b := by intro a b; rw [eh2]; rfl
              have hK2 : rm_K G h2 := by rw [eh2]; exact hK1.st (Or.inr (Or.inl rfl))
              have hf2 : mp_fr rm_A h h2 := by rw [eh2]; exact hf1.set (by unfold rm_A; omega)
              have hS2 : rm_S h2 S := by rw [eh2]; exact hS1.cd
              have hc2 : h2.2.1 26 0 = .int (nI 0) := by rw [rh2, if_pos ⟨rfl, rfl⟩]
              refine mp_aload_n X 26 d_R_count_25 rfl rfl rfl ?_
              refine mp_getf (v := .int (nI 0)) X 29 lk_R_51_R d_R_count_26 rfl (hK2.sz (by decide)) hK2.ob hc2 ?_
              refine mp_Zle X 34 32 d_R_count_29 (by decide) rfl (by omega) (fun q4 => ?_) (fun q4 => ?_)
              · refine mp_iload_n X 35 d_R_count_34 rfl rfl rfl ?_
                refine mp_iconst X 36 (v := nI 2) d_R_count_35 rfl (by decide) ?_
                refine mp_Nge X 58 39 d_R_count_36 (by decide) rfl (by omega) (by omega) (fun q5 => ?_) (fun q5 => ?_)
                · refine mp_iconst X 59 (v := nI 0) d_R_count_58 rfl (by decide) ?_
                  refine mp_istore_n X 60 (L' := [.val (.ref (G.1 + 26)), .val (.int (nI j)), .val (.int (nI 3)), .val (.int (nI 0)), .unset]) d_R_count_59 rfl rfl rfl rfl rfl ?_
                  refine mp_iconst X 61 (v := nI 0) d_R_count_60 rfl (by decide) ?_
                  refine mp_istore X 63 (L' := [.val (.ref (G.1 + 26)), .val (.int (nI j)), .val (.int (nI 3)), .val (.int (nI 0)), .val (.int (nI 0))]) d_R_count_61 rfl rfl rfl rfl ?_
                  have hend := rm_ct_mk hok hj
                  have hloop : ∀ (n k : Nat), k + n = S.1 → mp_W G E h2 0 0 (mp_Q G E 0 0 (rm_Z h (0, nI ((sp_mk S j).length), S)) (fun _ _ => False)) 63 [.val (.ref (G.1 + 26)), .val (.int (nI j)), .val (.int (nI 3)), .val (.int (nI (rm_ct (fun k => pq_kw (S.2.2.1 j) (S.2.2.2 j) k && pq_so S.2.1 k == 2) k))), .val (.int (nI k))] [] := by
                    intro n
                    induction n with
                    | zero =>
                      intro k hkn
                      have hk : k = S.1 := by omega
                      subst hk
                      refine mp_iload X 65 d_R_count_63 rfl rfl ?_
                      refine mp_aload_n X 66 d_R_count_65 rfl rfl rfl ?_
                      refine mp_getf (v := .int (nI (S.1))) X 69 lk_R_55_R d_R_count_66 rfl (hK2.sz (by decide)) hK2.ob hS2.1 ?_
                      refine mp_Nge X 121 72 d_R_count_69 (by decide) rfl (by omega) (by omega) (fun q1 => ?_) (fun q1 => ?_)
                      · refine mp_iload_n X 122 d_R_count_121 rfl rfl rfl ?_
                        rw [hend]
                        exact mp_iret X d_R_count_122 rfl rfl (by decide) (by decide) ⟨hc2, hS2, ⟨_, rfl, fun _ => rfl⟩, hf2⟩
                      · omega
                    | succ n ih =>
                      intro k hkn
                      have hkM : k < S.1 := by omega
                      obtain ⟨t1, t2, t3, t4, t5, t6⟩ := hS2.2.1 k hkM
                      have hso := (hw.2.2.2.1 k hkM).2.2.2.1
                      have s_kb := (hS2.2.2 j hj).2.2 k (by omega)
                      have hg := ih (k + 1) (by omega)
                      have hct : rm_ct (fun k => pq_kw (S.2.2.1 j) (S.2.2.2 j) k && pq_so S.2.1 k == 2) (k + 1) = (rm_ct (fun k => pq_kw (S.2.2.1 j) (S.2.2.2 j) k && pq_so S.2.1 k == 2) k) + (if (pq_kw (S.2.2.1 j) (S.2.2.2 j) k && pq_so S.2.1 k == 2) = true then 1 else 0) := rfl
                      rw [hct] at hg
                      obtain ⟨kb, kb1, hkb⟩ : ∃ kb : Nat, (kb = 1 ∧ pq_kw (S.2.2.1 j) (S.2.2.2 j) k = true ∨ kb = 0 ∧ pq_kw (S.2.2.1 j) (S.2.2.2 j) k = false) ∧ h2.2.1 34 (90 * j + k) = .int (nI kb) := by
                        cases hkw : pq_kw (S.2.2.1 j) (S.2.2.2 j) k with
                        | true => rw [hkw] at s_kb; exact ⟨1, Or.inl ⟨rfl, rfl⟩, s_kb⟩
                        | false => rw [hkw] at s_kb; exact ⟨0, Or.inr ⟨rfl, rfl⟩, s_kb⟩
                      have kbb : kb < 2 := by omega
                      refine mp_iload X 65 d_R_count_63 rfl rfl ?_
                      refine mp_aload_n X 66 d_R_count_65 rfl rfl rfl ?_
                      refine mp_getf (v := .int (nI (S.1))) X 69 lk_R_55_R d_R_count_66 rfl (hK2.sz (by decide)) hK2.ob hS2.1 ?_
                      refine mp_Nge X 121 72 d_R_count_69 (by decide) rfl (by omega) (by omega) (fun q1 => ?_) (fun q1 => ?_)
                      · omega
                      · refine mp_iload_n X 73 d_R_count_72 rfl rfl rfl ?_
                        refine mp_aload_n X 74 d_R_count_73 rfl rfl rfl ?_
                        refine mp_getf (v := .ref (G.1 + 34)) X 77 lk_R_32_R d_R_count_74 rfl (hK2.sz (by decide)) hK2.ob hK2.r_knows ?_
                        refine mp_bipush X 79 (v := nI 90) d_R_count_77 rfl (by decide) ?_
                        refine mp_iload_n X 80 d_R_count_79 rfl rfl rfl ?_
                        refine mp_imul X 81 d_R_count_80 rfl ?_
                        rw [pk_mul]
                        refine mp_iload X 83 d_R_count_81 rfl rfl ?_
                        refine mp_iadd X 84 d_R_count_83 rfl ?_
                        rw [nI_add]
                        refine mp_zald (v := .int (nI kb)) X 85 (90 * j + k) d_R_count_84 rfl (hK2.sz (by decide)) hK2.k_knows rfl (by omega) (by decide) hkb ?_
                        refine mp_Zeq X 112 88 d_R_count_85 (by decide) rfl (by omega) (fun q2 => ?_) (fun q2 => ?_)
                        · refine mp_iconst X 113 (v := nI 0) d_R_count_112 rfl (by decide) ?_
                          refine mp_iadd X 114 d_R_count_113 rfl ?_
                          rw [nI_add]
                          refine mp_istore_n X 115 (L' := [.val (.ref (G.1 + 26)), .val (.int (nI j)), .val (.int (nI 3)), .val (.int (nI (((rm_ct (fun k => pq_kw (S.2.2.1 j) (S.2.2.2 j) k && pq_so S.2.1 k == 2) k)) + 0))), .val (.int (nI k))]) d_R_count_114 rfl rfl rfl rfl rfl ?_
                          refine mp_iinc X 118 (L' := [.val (.ref (G.1 + 26)), .val (.int (nI j)), .val (.int (nI 3)), .val (.int (nI (((rm_ct (fun k => pq_kw (S.2.2.1 j) (S.2.2.2 j) k && pq_so S.2.1 k == 2) k)) + 0))), .val (.int (nI (k + 1)))]) (v := nI (k + 1)) d_R_count_115 rfl rfl (nI_1 _) rfl ?_
                          refine mp_goto X 63 d_R_count_118 (by decide) ?_
                          have hkw : pq_kw (S.2.2.1 j) (S.2.2.2 j) k = false := by rcases kb1 with ⟨h1, h2⟩ | ⟨h1, h2⟩; omega; exact h2
                          rw [hkw] at hg
                          exact hg
                        · refine mp_aload_n X 89 d_R_count_88 rfl rfl rfl ?_
                          refine mp_getf (v := .ref (G.1 + 27)) X 92 lk_R_7_R d_R_count_89 rfl (hK2.sz (by decide)) hK2.ob hK2.r_sort ?_
                          refine mp_iload X 94 d_R_count_92 rfl rfl ?_
                          refine mp_iald (v := .int (nI ((pq_so S.2.1 k)))) X 95 (k) d_R_count_94 rfl (hK2.sz (by decide)) hK2.k_sort rfl (by omega) (by decide) t1 ?_
                          refine mp_iload_n X 96 d_R_count_95 rfl rfl rfl ?_
                          refine mp_iconst X 97 (v := nI 2) d_R_count_96 rfl (by decide) ?_
                          refine mp_Nne X 104 100 d_R_count_97 (by decide) rfl (by omega) (by omega) (fun q3 => ?_) (fun q3 => ?_)
                          · refine mp_iconst X 105 (v := nI 2) d_R_count_104 rfl (by decide) ?_
                            refine mp_Nne X 112 108 d_R_count_105 (by decide) rfl (by omega) (by omega) (fun q4 => ?_) (fun q4 => ?_)
                            · refine mp_iconst X 113 (v := nI 0) d_R_count_112 rfl (by decide) ?_
                              refine mp_iadd X 114 d_R_count_113 rfl ?_
                              rw [nI_add]
                              refine mp_istore_n X 115 (L' := [.val (.ref (G.1 + 26)), .val (.int (nI j)), .val (.int (nI 3)), .val (.int (nI (((rm_ct (fun k => pq_kw (S.2.2.1 j) (S.2.2.2 j) k && pq_so S.2.1 k == 2) k)) + 0))), .val (.int (nI k))]) d_R_count_114 rfl rfl rfl rfl rfl ?_
                              refine mp_iinc X 118 (L' := [.val (.ref (G.1 + 26)), .val (.int (nI j)), .val (.int (nI 3)), .val (.int (nI (((rm_ct (fun k => pq_kw (S.2.2.1 j) (S.2.2.2 j) k && pq_so S.2.1 k == 2) k)) + 0))), .val (.int (nI (k + 1)))]) (v := nI (k + 1)) d_R_count_115 rfl rfl (nI_1 _) rfl ?_
                              refine mp_goto X 63 d_R_count_118 (by decide) ?_
                              have hkw : pq_kw (S.2.2.1 j) (S.2.2.2 j) k = true := by rcases kb1 with ⟨h1, h2⟩ | ⟨h1, h2⟩; exact h2; omega
                              have hs : (pq_so S.2.1 k == 2) = false := by simpa using q4
                              rw [hkw, hs] at hg
                              exact hg
                            · refine mp_iconst X 109 (v := nI 1) d_R_count_108 rfl (by decide) ?_
                              refine mp_goto X 113 d_R_count_109 (by decide) ?_
                              refine mp_iadd X 114 d_R_count_113 rfl ?_
                              rw [nI_add]
                              refine mp_istore_n X 115 (L' := [.val (.ref (G.1 + 26)), .val (.int (nI j)), .val (.int (nI 3)), .val (.int (nI (((rm_ct (fun k => pq_kw (S.2.2.1 j) (S.2.2.2 j) k && pq_so S.2.1 k == 2) k)) + 1))), .val (.int (nI k))]) d_R_count_114 rfl rfl rfl rfl rfl ?_
                              refine mp_iinc X 118 (L' := [.val (.ref (G.1 + 26)), .val (.int (nI j)), .val (.int (nI 3)), .val (.int (nI (((rm_ct (fun k => pq_kw (S.2.2.1 j) (S.2.2.2 j) k && pq_so S.2.1 k == 2) k)) + 1))), .val (.int (nI (k + 1)))]) (v := nI (k + 1)) d_R_count_115 rfl rfl (nI_1 _) rfl ?_
                              refine mp_goto X 63 d_R_count_118 (by decide) ?_
                              have hkw : pq_kw (S.2.2.1 j) (S.2.2.2 j) k = true := by rcases kb1 with ⟨h1, h2⟩ | ⟨h1, h2⟩; exact h2; omega
                              have hs : (pq_so S.2.1 k == 2) = true := by simpa using q4
                              rw [hkw, hs] at hg
                              exact hg
                          · omega
                  exact hloop S.1 0 (by omega)
                · omega
              · omega
end
