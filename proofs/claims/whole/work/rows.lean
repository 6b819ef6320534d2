section
-- ===== PART A: goes FIRST, ahead of the names: the tables' words, and 'selects' of the private methods out of them =====
/-- a private method of a class that the tables say can be made, by its rows of tables_1 -/
def lw_okq (q : MethodName × Nat) : Prop := (q.1.cls ≠ "java/lang/invoke/MethodHandle" ∧ q.1.cls ≠ "java/lang/invoke/VarHandle") ∧ Cond.instantiable q.1.cls q.2 ∈ tables_1 ∧ Cond.privateMethod q.1 ∈ tables_1 ∧ Cond.instanceMethod q.1 ∈ tables_1
theorem lw_p0 : lw_okq (⟨"MarkedPages", "pageNumbered", "(I)LMarkedPages$Page;"⟩, 2) := ⟨⟨by decide +kernel, by decide +kernel⟩, List.mem_of_getElem? (i := 16) (by decide +kernel), List.mem_of_getElem? (i := 102) (by decide +kernel), List.mem_of_getElem? (i := 103) (by decide +kernel)⟩
theorem lw_p1 : lw_okq (⟨"java/lang/Throwable", "fillInStackTrace", "(I)Ljava/lang/Throwable;"⟩, 6) := ⟨⟨by decide +kernel, by decide +kernel⟩, List.mem_of_getElem? (i := 147) (by decide +kernel), List.mem_of_getElem? (i := 145) (by decide +kernel), List.mem_of_getElem? (i := 146) (by decide +kernel)⟩
theorem lw_p2 : lw_okq (⟨"MarkedPages", "refuseWhenAllAreMade", "()V"⟩, 2) := ⟨⟨by decide +kernel, by decide +kernel⟩, List.mem_of_getElem? (i := 16) (by decide +kernel), List.mem_of_getElem? (i := 190) (by decide +kernel), List.mem_of_getElem? (i := 191) (by decide +kernel)⟩
theorem lw_p3 : lw_okq (⟨"MarkedPages", "make", "(LMarkedPages$Page;LMarkedPages$Operation;)I"⟩, 2) := ⟨⟨by decide +kernel, by decide +kernel⟩, List.mem_of_getElem? (i := 16) (by decide +kernel), List.mem_of_getElem? (i := 253) (by decide +kernel), List.mem_of_getElem? (i := 254) (by decide +kernel)⟩
theorem lw_p4 : lw_okq (⟨"MarkedPages$Page", "setInRow", "(ILMarkedPages$Writing;)V"⟩, 12) := ⟨⟨by decide +kernel, by decide +kernel⟩, List.mem_of_getElem? (i := 25) (by decide +kernel), List.mem_of_getElem? (i := 284) (by decide +kernel), List.mem_of_getElem? (i := 285) (by decide +kernel)⟩
theorem lw_p5 : lw_okq (⟨"MarkedPages$Page", "gatherText", "()V"⟩, 12) := ⟨⟨by decide +kernel, by decide +kernel⟩, List.mem_of_getElem? (i := 25) (by decide +kernel), List.mem_of_getElem? (i := 288) (by decide +kernel), List.mem_of_getElem? (i := 289) (by decide +kernel)⟩
theorem lw_p6 : lw_okq (⟨"MarkedPagesModel", "look", "(I)V"⟩, 17) := ⟨⟨by decide +kernel, by decide +kernel⟩, List.mem_of_getElem? (i := 440) (by decide +kernel), List.mem_of_getElem? (i := 510) (by decide +kernel), List.mem_of_getElem? (i := 511) (by decide +kernel)⟩
theorem lw_p7 : lw_okq (⟨"MarkedPagesModel", "nextBehind", "(II)I"⟩, 17) := ⟨⟨by decide +kernel, by decide +kernel⟩, List.mem_of_getElem? (i := 440) (by decide +kernel), List.mem_of_getElem? (i := 514) (by decide +kernel), List.mem_of_getElem? (i := 515) (by decide +kernel)⟩
theorem lw_p8 : lw_okq (⟨"MarkedPagesModel", "isGone", "(II)Z"⟩, 17) := ⟨⟨by decide +kernel, by decide +kernel⟩, List.mem_of_getElem? (i := 440) (by decide +kernel), List.mem_of_getElem? (i := 518) (by decide +kernel), List.mem_of_getElem? (i := 519) (by decide +kernel)⟩
theorem lw_p9 : lw_okq (⟨"MarkedPagesModel", "make", "(IIIII)I"⟩, 17) := ⟨⟨by decide +kernel, by decide +kernel⟩, List.mem_of_getElem? (i := 440) (by decide +kernel), List.mem_of_getElem? (i := 522) (by decide +kernel), List.mem_of_getElem? (i := 523) (by decide +kernel)⟩
theorem lw_p10 : lw_okq (⟨"MarkedPagesModel", "greatest", "(I)I"⟩, 17) := ⟨⟨by decide +kernel, by decide +kernel⟩, List.mem_of_getElem? (i := 440) (by decide +kernel), List.mem_of_getElem? (i := 526) (by decide +kernel), List.mem_of_getElem? (i := 527) (by decide +kernel)⟩
theorem lw_p11 : lw_okq (⟨"MarkedPagesModel", "learn", "(II)V"⟩, 17) := ⟨⟨by decide +kernel, by decide +kernel⟩, List.mem_of_getElem? (i := 440) (by decide +kernel), List.mem_of_getElem? (i := 530) (by decide +kernel), List.mem_of_getElem? (i := 531) (by decide +kernel)⟩
theorem lw_p12 : lw_okq (⟨"MarkedPagesModel", "finds", "(II)Z"⟩, 17) := ⟨⟨by decide +kernel, by decide +kernel⟩, List.mem_of_getElem? (i := 440) (by decide +kernel), List.mem_of_getElem? (i := 554) (by decide +kernel), List.mem_of_getElem? (i := 555) (by decide +kernel)⟩
theorem lw_p13 : lw_okq (⟨"MarkedPagesModel", "formatOf", "(II)I"⟩, 17) := ⟨⟨by decide +kernel, by decide +kernel⟩, List.mem_of_getElem? (i := 440) (by decide +kernel), List.mem_of_getElem? (i := 562) (by decide +kernel), List.mem_of_getElem? (i := 563) (by decide +kernel)⟩
theorem lw_p14 : lw_okq (⟨"MarkedPagesModel", "covers", "(II)Z"⟩, 17) := ⟨⟨by decide +kernel, by decide +kernel⟩, List.mem_of_getElem? (i := 440) (by decide +kernel), List.mem_of_getElem? (i := 566) (by decide +kernel), List.mem_of_getElem? (i := 567) (by decide +kernel)⟩
theorem lw_p15 : lw_okq (⟨"MarkedPagesModel", "begins", "(II)Z"⟩, 17) := ⟨⟨by decide +kernel, by decide +kernel⟩, List.mem_of_getElem? (i := 440) (by decide +kernel), List.mem_of_getElem? (i := 578) (by decide +kernel), List.mem_of_getElem? (i := 579) (by decide +kernel)⟩
def lw_privs_1 : List (MethodName × Nat) := [(⟨"MarkedPages", "pageNumbered", "(I)LMarkedPages$Page;"⟩, 2), (⟨"java/lang/Throwable", "fillInStackTrace", "(I)Ljava/lang/Throwable;"⟩, 6), (⟨"MarkedPages", "refuseWhenAllAreMade", "()V"⟩, 2), (⟨"MarkedPages", "make", "(LMarkedPages$Page;LMarkedPages$Operation;)I"⟩, 2), (⟨"MarkedPages$Page", "setInRow", "(ILMarkedPages$Writing;)V"⟩, 12), (⟨"MarkedPages$Page", "gatherText", "()V"⟩, 12), (⟨"MarkedPagesModel", "look", "(I)V"⟩, 17), (⟨"MarkedPagesModel", "nextBehind", "(II)I"⟩, 17), (⟨"MarkedPagesModel", "isGone", "(II)Z"⟩, 17), (⟨"MarkedPagesModel", "make", "(IIIII)I"⟩, 17), (⟨"MarkedPagesModel", "greatest", "(I)I"⟩, 17), (⟨"MarkedPagesModel", "learn", "(II)V"⟩, 17), (⟨"MarkedPagesModel", "finds", "(II)Z"⟩, 17), (⟨"MarkedPagesModel", "formatOf", "(II)I"⟩, 17), (⟨"MarkedPagesModel", "covers", "(II)Z"⟩, 17), (⟨"MarkedPagesModel", "begins", "(II)Z"⟩, 17)]
theorem lw_r1 : ∀ q ∈ lw_privs_1, lw_okq q := List.forall_mem_cons.mpr ⟨lw_p0, List.forall_mem_cons.mpr ⟨lw_p1, List.forall_mem_cons.mpr ⟨lw_p2, List.forall_mem_cons.mpr ⟨lw_p3, List.forall_mem_cons.mpr ⟨lw_p4, List.forall_mem_cons.mpr ⟨lw_p5, List.forall_mem_cons.mpr ⟨lw_p6, List.forall_mem_cons.mpr ⟨lw_p7, List.forall_mem_cons.mpr ⟨lw_p8, List.forall_mem_cons.mpr ⟨lw_p9, List.forall_mem_cons.mpr ⟨lw_p10, List.forall_mem_cons.mpr ⟨lw_p11, List.forall_mem_cons.mpr ⟨lw_p12, List.forall_mem_cons.mpr ⟨lw_p13, List.forall_mem_cons.mpr ⟨lw_p14, List.forall_mem_cons.mpr ⟨lw_p15, fun _ h => absurd h List.not_mem_nil⟩⟩⟩⟩⟩⟩⟩⟩⟩⟩⟩⟩⟩⟩⟩⟩
def lw_privs : List (MethodName × Nat) := lw_privs_1
def lw_tbl : List Cond := k2_sels lw_privs ++ tables_1
theorem lw_privs_ok : ∀ q ∈ lw_privs, lw_okq q := lw_r1
end
section
/-! Names by program: classes and their fields, methods. -/
def nR_M : String := "MarkedPages"
def nT_M : u_T := fun k => match k with
  | 0 => ("MarkedPages", "pages", "[LMarkedPages$Page;", true)
  | _ => ("MarkedPages", "made", "I", false)
def nF_M : Nat → FieldType := fun k => match k with
  | 0 => .array (.object "MarkedPages$Page")
  | _ => .int
theorem nN_M : ∀ a, a < 2 → ∀ b, b < 2 → a ≠ b → (nT_M a).2.1 ≠ (nT_M b).2.1 := by decide +kernel
theorem nK_M : ∀ k, k < 2 → parseFieldDescriptor (nT_M k).2.2.1 = some (nF_M k) := by decide +kernel
def nR_P : String := "MarkedPages$Page"
def nT_P : u_T := fun k => match k with
  | 0 => ("MarkedPages$Page", "known", "[LMarkedPages$Operation;", true)
  | 1 => ("MarkedPages$Page", "knownSize", "I", false)
  | 2 => ("MarkedPages$Page", "greatestTime", "I", false)
  | 3 => ("MarkedPages$Page", "row", "[LMarkedPages$Writing;", true)
  | 4 => ("MarkedPages$Page", "rowSize", "I", false)
  | 5 => ("MarkedPages$Page", "text", "[LMarkedPages$Writing;", true)
  | 6 => ("MarkedPages$Page", "textSize", "I", false)
  | 7 => ("MarkedPages$Page", "markings", "[LMarkedPages$Marking;", true)
  | 8 => ("MarkedPages$Page", "markingsSize", "I", false)
  | 9 => ("MarkedPages$Page", "knows", "[Z", true)
  | 10 => ("MarkedPages$Page", "gone", "[Z", true)
  | _ => ("MarkedPages$Page", "places", "[I", true)
def nF_P : Nat → FieldType := fun k => match k with
  | 0 => .array (.object "MarkedPages$Operation")
  | 1 => .int
  | 2 => .int
  | 3 => .array (.object "MarkedPages$Writing")
  | 4 => .int
  | 5 => .array (.object "MarkedPages$Writing")
  | 6 => .int
  | 7 => .array (.object "MarkedPages$Marking")
  | 8 => .int
  | 9 => .array .boolean
  | 10 => .array .boolean
  | _ => .array .int
theorem nN_P : ∀ a, a < 12 → ∀ b, b < 12 → a ≠ b → (nT_P a).2.1 ≠ (nT_P b).2.1 := by decide +kernel
theorem nK_P : ∀ k, k < 12 → parseFieldDescriptor (nT_P k).2.2.1 = some (nF_P k) := by decide +kernel
def nR_W : String := "MarkedPages$Writing"
def nT_W : u_T := fun k => match k with
  | 0 => ("MarkedPages$Operation", "number", "I", true)
  | 1 => ("MarkedPages$Operation", "time", "I", true)
  | 2 => ("MarkedPages$Operation", "rank", "I", true)
  | 3 => ("MarkedPages$Writing", "letter", "C", true)
  | _ => ("MarkedPages$Writing", "parent", "LMarkedPages$Writing;", true)
def nF_W : Nat → FieldType := fun k => match k with
  | 0 => .int
  | 1 => .int
  | 2 => .int
  | 3 => .char
  | _ => .object "MarkedPages$Writing"
theorem nN_W : ∀ a, a < 5 → ∀ b, b < 5 → a ≠ b → (nT_W a).2.1 ≠ (nT_W b).2.1 := by decide +kernel
theorem nK_W : ∀ k, k < 5 → parseFieldDescriptor (nT_W k).2.2.1 = some (nF_W k) := by decide +kernel
def nR_E : String := "MarkedPages$Erasing"
def nT_E : u_T := fun k => match k with
  | 0 => ("MarkedPages$Operation", "number", "I", true)
  | 1 => ("MarkedPages$Operation", "time", "I", true)
  | 2 => ("MarkedPages$Operation", "rank", "I", true)
  | _ => ("MarkedPages$Erasing", "erased", "LMarkedPages$Writing;", true)
def nF_E : Nat → FieldType := fun k => match k with
  | 0 => .int
  | 1 => .int
  | 2 => .int
  | _ => .object "MarkedPages$Writing"
theorem nN_E : ∀ a, a < 4 → ∀ b, b < 4 → a ≠ b → (nT_E a).2.1 ≠ (nT_E b).2.1 := by decide +kernel
theorem nK_E : ∀ k, k < 4 → parseFieldDescriptor (nT_E k).2.2.1 = some (nF_E k) := by decide +kernel
def nR_K : String := "MarkedPages$Marking"
def nT_K : u_T := fun k => match k with
  | 0 => ("MarkedPages$Operation", "number", "I", true)
  | 1 => ("MarkedPages$Operation", "time", "I", true)
  | 2 => ("MarkedPages$Operation", "rank", "I", true)
  | 3 => ("MarkedPages$Marking", "on", "Z", true)
  | 4 => ("MarkedPages$Marking", "weight", "I", true)
  | 5 => ("MarkedPages$Marking", "endLetterIsCovered", "Z", true)
  | 6 => ("MarkedPages$Marking", "first", "LMarkedPages$Writing;", true)
  | _ => ("MarkedPages$Marking", "end", "LMarkedPages$Writing;", true)
def nF_K : Nat → FieldType := fun k => match k with
  | 0 => .int
  | 1 => .int
  | 2 => .int
  | 3 => .boolean
  | 4 => .int
  | 5 => .boolean
  | 6 => .object "MarkedPages$Writing"
  | _ => .object "MarkedPages$Writing"
theorem nN_K : ∀ a, a < 8 → ∀ b, b < 8 → a ≠ b → (nT_K a).2.1 ≠ (nT_K b).2.1 := by decide +kernel
theorem nK_K : ∀ k, k < 8 → parseFieldDescriptor (nT_K k).2.2.1 = some (nF_K k) := by decide +kernel
def nR_R : String := "MarkedPagesModel"
def nT_R : u_T := fun k => match k with
  | 0 => ("MarkedPagesModel", "code", "I", false)
  | 1 => ("MarkedPagesModel", "made", "I", false)
  | 2 => ("MarkedPagesModel", "sort", "[I", true)
  | 3 => ("MarkedPagesModel", "ids", "[I", true)
  | 4 => ("MarkedPagesModel", "first", "[I", true)
  | 5 => ("MarkedPagesModel", "end", "[I", true)
  | 6 => ("MarkedPagesModel", "what", "[I", true)
  | 7 => ("MarkedPagesModel", "letters", "[C", true)
  | 8 => ("MarkedPagesModel", "known", "[I", true)
  | 9 => ("MarkedPagesModel", "knows", "[Z", true)
  | 10 => ("MarkedPagesModel", "count", "[I", true)
  | 11 => ("MarkedPagesModel", "rowLength", "I", false)
  | 12 => ("MarkedPagesModel", "row", "[I", true)
  | 13 => ("MarkedPagesModel", "place", "[I", true)
  | 14 => ("MarkedPagesModel", "textLength", "I", false)
  | 15 => ("MarkedPagesModel", "text", "[I", true)
  | _ => ("MarkedPagesModel", "passed", "[Z", true)
def nF_R : Nat → FieldType := fun k => match k with
  | 0 => .int
  | 1 => .int
  | 2 => .array .int
  | 3 => .array .int
  | 4 => .array .int
  | 5 => .array .int
  | 6 => .array .int
  | 7 => .array .char
  | 8 => .array .int
  | 9 => .array .boolean
  | 10 => .array .int
  | 11 => .int
  | 12 => .array .int
  | 13 => .array .int
  | 14 => .int
  | 15 => .array .int
  | _ => .array .boolean
theorem nN_R : ∀ a, a < 17 → ∀ b, b < 17 → a ≠ b → (nT_R a).2.1 ≠ (nT_R b).2.1 := by decide +kernel
theorem nK_R : ∀ k, k < 17 → parseFieldDescriptor (nT_R k).2.2.1 = some (nF_R k) := by decide +kernel
abbrev vwCl : List vw_C := [(nR_M, nT_M, 2), (nR_P, nT_P, 12), (nR_W, nT_W, 5), (nR_E, nT_E, 4), (nR_K, nT_K, 8), (nR_R, nT_R, 17)]
abbrev c_M_init : ByteArray := prog_1_method_1_code
def y_M_init : MethodName := ⟨"MarkedPages", "<init>", "()V"⟩
abbrev c_M_write : ByteArray := prog_1_method_2_code
def y_M_write : MethodName := ⟨"MarkedPages", "write", "(IIC)I"⟩
abbrev c_M_erase : ByteArray := prog_1_method_3_code
def y_M_erase : MethodName := ⟨"MarkedPages", "erase", "(II)C"⟩
abbrev c_M_mark : ByteArray := prog_1_method_4_code
def y_M_mark : MethodName := ⟨"MarkedPages", "mark", "(IIII)I"⟩
abbrev c_M_tell : ByteArray := prog_1_method_5_code
def y_M_tell : MethodName := ⟨"MarkedPages", "tell", "(III)I"⟩
abbrev c_M_length : ByteArray := prog_1_method_6_code
def y_M_length : MethodName := ⟨"MarkedPages", "length", "(I)I"⟩
abbrev c_M_at : ByteArray := prog_1_method_7_code
def y_M_at : MethodName := ⟨"MarkedPages", "at", "(II)C"⟩
abbrev c_M_format : ByteArray := prog_1_method_8_code
def y_M_format : MethodName := ⟨"MarkedPages", "format", "(II)I"⟩
abbrev c_M_id : ByteArray := prog_1_method_9_code
def y_M_id : MethodName := ⟨"MarkedPages", "id", "(II)I"⟩
abbrev c_M_runs : ByteArray := prog_1_method_10_code
def y_M_runs : MethodName := ⟨"MarkedPages", "runs", "(I)I"⟩
abbrev c_M_run : ByteArray := prog_1_method_11_code
def y_M_run : MethodName := ⟨"MarkedPages", "run", "(III)I"⟩
abbrev c_M_count : ByteArray := prog_1_method_12_code
def y_M_count : MethodName := ⟨"MarkedPages", "count", "(II)I"⟩
abbrev c_M_alike : ByteArray := prog_1_method_13_code
def y_M_alike : MethodName := ⟨"MarkedPages", "alike", "(II)Z"⟩
abbrev c_M_pageNumbered : ByteArray := prog_1_method_14_code
def y_M_pageNumbered : MethodName := ⟨"MarkedPages", "pageNumbered", "(I)LMarkedPages$Page;"⟩
abbrev c_M_make : ByteArray := prog_1_method_15_code
def y_M_make : MethodName := ⟨"MarkedPages", "make", "(LMarkedPages$Page;LMarkedPages$Operation;)I"⟩
abbrev c_M_refuseWhenAllAreMade : ByteArray := prog_1_method_16_code
def y_M_refuseWhenAllAreMade : MethodName := ⟨"MarkedPages", "refuseWhenAllAreMade", "()V"⟩
abbrev c_M_refuseArgumentUnless : ByteArray := prog_1_method_17_code
def y_M_refuseArgumentUnless : MethodName := ⟨"MarkedPages", "refuseArgumentUnless", "(Z)V"⟩
abbrev c_M_refuseIndexUnless : ByteArray := prog_1_method_18_code
def y_M_refuseIndexUnless : MethodName := ⟨"MarkedPages", "refuseIndexUnless", "(Z)V"⟩
abbrev c_R_init : ByteArray := prog_8_method_1_code
def y_R_init : MethodName := ⟨"MarkedPagesModel", "<init>", "()V"⟩
abbrev c_R_thrown : ByteArray := prog_8_method_2_code
def y_R_thrown : MethodName := ⟨"MarkedPagesModel", "thrown", "()I"⟩
abbrev c_R_isPage : ByteArray := prog_8_method_3_code
def y_R_isPage : MethodName := ⟨"MarkedPagesModel", "isPage", "(I)Z"⟩
abbrev c_R_nextBehind : ByteArray := prog_8_method_4_code
def y_R_nextBehind : MethodName := ⟨"MarkedPagesModel", "nextBehind", "(II)I"⟩
abbrev c_R_isGone : ByteArray := prog_8_method_5_code
def y_R_isGone : MethodName := ⟨"MarkedPagesModel", "isGone", "(II)Z"⟩
abbrev c_R_look : ByteArray := prog_8_method_6_code
def y_R_look : MethodName := ⟨"MarkedPagesModel", "look", "(I)V"⟩
abbrev c_R_covers : ByteArray := prog_8_method_7_code
def y_R_covers : MethodName := ⟨"MarkedPagesModel", "covers", "(II)Z"⟩
abbrev c_R_formatOf : ByteArray := prog_8_method_8_code
def y_R_formatOf : MethodName := ⟨"MarkedPagesModel", "formatOf", "(II)I"⟩
abbrev c_R_greatest : ByteArray := prog_8_method_9_code
def y_R_greatest : MethodName := ⟨"MarkedPagesModel", "greatest", "(I)I"⟩
abbrev c_R_learn : ByteArray := prog_8_method_10_code
def y_R_learn : MethodName := ⟨"MarkedPagesModel", "learn", "(II)V"⟩
abbrev c_R_make : ByteArray := prog_8_method_11_code
def y_R_make : MethodName := ⟨"MarkedPagesModel", "make", "(IIIII)I"⟩
abbrev c_R_write : ByteArray := prog_8_method_12_code
def y_R_write : MethodName := ⟨"MarkedPagesModel", "write", "(IIC)I"⟩
abbrev c_R_erase : ByteArray := prog_8_method_13_code
def y_R_erase : MethodName := ⟨"MarkedPagesModel", "erase", "(II)C"⟩
abbrev c_R_mark : ByteArray := prog_8_method_14_code
def y_R_mark : MethodName := ⟨"MarkedPagesModel", "mark", "(IIII)I"⟩
abbrev c_R_tell : ByteArray := prog_8_method_15_code
def y_R_tell : MethodName := ⟨"MarkedPagesModel", "tell", "(III)I"⟩
abbrev c_R_length : ByteArray := prog_8_method_16_code
def y_R_length : MethodName := ⟨"MarkedPagesModel", "length", "(I)I"⟩
abbrev c_R_finds : ByteArray := prog_8_method_17_code
def y_R_finds : MethodName := ⟨"MarkedPagesModel", "finds", "(II)Z"⟩
abbrev c_R_at : ByteArray := prog_8_method_18_code
def y_R_at : MethodName := ⟨"MarkedPagesModel", "at", "(II)C"⟩
abbrev c_R_format : ByteArray := prog_8_method_19_code
def y_R_format : MethodName := ⟨"MarkedPagesModel", "format", "(II)I"⟩
abbrev c_R_id : ByteArray := prog_8_method_20_code
def y_R_id : MethodName := ⟨"MarkedPagesModel", "id", "(II)I"⟩
abbrev c_R_begins : ByteArray := prog_8_method_21_code
def y_R_begins : MethodName := ⟨"MarkedPagesModel", "begins", "(II)Z"⟩
abbrev c_R_runs : ByteArray := prog_8_method_22_code
def y_R_runs : MethodName := ⟨"MarkedPagesModel", "runs", "(I)I"⟩
abbrev c_R_run : ByteArray := prog_8_method_23_code
def y_R_run : MethodName := ⟨"MarkedPagesModel", "run", "(III)I"⟩
abbrev c_R_count : ByteArray := prog_8_method_24_code
def y_R_count : MethodName := ⟨"MarkedPagesModel", "count", "(II)I"⟩
abbrev c_R_alike : ByteArray := prog_8_method_25_code
def y_R_alike : MethodName := ⟨"MarkedPagesModel", "alike", "(II)Z"⟩
abbrev c_E_init : ByteArray := prog_2_method_1_code
def y_E_init : MethodName := ⟨"MarkedPages$Erasing", "<init>", "(IIILMarkedPages$Writing;)V"⟩
abbrev c_E_reach : ByteArray := prog_2_method_2_code
def y_E_reach : MethodName := ⟨"MarkedPages$Erasing", "reach", "(LMarkedPages$Page;)V"⟩
abbrev c_K_init : ByteArray := prog_3_method_1_code
def y_K_init : MethodName := ⟨"MarkedPages$Marking", "<init>", "(IIIILMarkedPages$Writing;LMarkedPages$Writing;)V"⟩
abbrev c_K_endsBeforeItsEndLetter : ByteArray := prog_3_method_2_code
def y_K_endsBeforeItsEndLetter : MethodName := ⟨"MarkedPages$Marking", "endsBeforeItsEndLetter", "(I)Z"⟩
abbrev c_K_reach : ByteArray := prog_3_method_3_code
def y_K_reach : MethodName := ⟨"MarkedPages$Marking", "reach", "(LMarkedPages$Page;)V"⟩
abbrev c_K_covers : ByteArray := prog_3_method_4_code
def y_K_covers : MethodName := ⟨"MarkedPages$Marking", "covers", "(I[I)Z"⟩
abbrev c_O_init : ByteArray := prog_4_method_1_code
def y_O_init : MethodName := ⟨"MarkedPages$Operation", "<init>", "(III)V"⟩
abbrev c_P_init : ByteArray := prog_5_method_1_code
def y_P_init : MethodName := ⟨"MarkedPages$Page", "<init>", "()V"⟩
abbrev c_P_nextTime : ByteArray := prog_5_method_2_code
def y_P_nextTime : MethodName := ⟨"MarkedPages$Page", "nextTime", "()I"⟩
abbrev c_P_learn : ByteArray := prog_5_method_3_code
def y_P_learn : MethodName := ⟨"MarkedPages$Page", "learn", "(LMarkedPages$Operation;)V"⟩
abbrev c_P_knowsAllOf : ByteArray := prog_5_method_4_code
def y_P_knowsAllOf : MethodName := ⟨"MarkedPages$Page", "knowsAllOf", "(LMarkedPages$Page;)Z"⟩
abbrev c_P_putIntoRow : ByteArray := prog_5_method_5_code
def y_P_putIntoRow : MethodName := ⟨"MarkedPages$Page", "putIntoRow", "(LMarkedPages$Writing;)V"⟩
abbrev c_P_setInRow : ByteArray := prog_5_method_6_code
def y_P_setInRow : MethodName := ⟨"MarkedPages$Page", "setInRow", "(ILMarkedPages$Writing;)V"⟩
abbrev c_P_addMarking : ByteArray := prog_5_method_7_code
def y_P_addMarking : MethodName := ⟨"MarkedPages$Page", "addMarking", "(LMarkedPages$Marking;)V"⟩
abbrev c_P_gatherText : ByteArray := prog_5_method_8_code
def y_P_gatherText : MethodName := ⟨"MarkedPages$Page", "gatherText", "()V"⟩
abbrev c_P_writingShownAt : ByteArray := prog_5_method_9_code
def y_P_writingShownAt : MethodName := ⟨"MarkedPages$Page", "writingShownAt", "(I)LMarkedPages$Writing;"⟩
abbrev c_P_formatOf : ByteArray := prog_5_method_10_code
def y_P_formatOf : MethodName := ⟨"MarkedPages$Page", "formatOf", "(LMarkedPages$Writing;)I"⟩
abbrev c_P_startsRun : ByteArray := prog_5_method_11_code
def y_P_startsRun : MethodName := ⟨"MarkedPages$Page", "startsRun", "(I)Z"⟩
abbrev c_P_startOfRun : ByteArray := prog_5_method_12_code
def y_P_startOfRun : MethodName := ⟨"MarkedPages$Page", "startOfRun", "(I)I"⟩
abbrev c_W_init : ByteArray := prog_6_method_1_code
def y_W_init : MethodName := ⟨"MarkedPages$Writing", "<init>", "(IIICLMarkedPages$Writing;)V"⟩
abbrev c_W_reach : ByteArray := prog_6_method_2_code
def y_W_reach : MethodName := ⟨"MarkedPages$Writing", "reach", "(LMarkedPages$Page;)V"⟩
abbrev c_L_write : ByteArray := method_3_code
def y_L_write : MethodName := ⟨"MarkedPagesLaw", "write", "(LMarkedPages;IIC[J)I"⟩
abbrev c_L_erase : ByteArray := method_4_code
def y_L_erase : MethodName := ⟨"MarkedPagesLaw", "erase", "(LMarkedPages;II[J)I"⟩
abbrev c_L_mark : ByteArray := method_5_code
def y_L_mark : MethodName := ⟨"MarkedPagesLaw", "mark", "(LMarkedPages;IIII[J)I"⟩
abbrev c_L_tell : ByteArray := method_6_code
def y_L_tell : MethodName := ⟨"MarkedPagesLaw", "tell", "(LMarkedPages;III[J)I"⟩
abbrev c_L_length : ByteArray := method_7_code
def y_L_length : MethodName := ⟨"MarkedPagesLaw", "length", "(LMarkedPages;I[J)I"⟩
abbrev c_L_at : ByteArray := method_8_code
def y_L_at : MethodName := ⟨"MarkedPagesLaw", "at", "(LMarkedPages;II[J)I"⟩
abbrev c_L_format : ByteArray := method_9_code
def y_L_format : MethodName := ⟨"MarkedPagesLaw", "format", "(LMarkedPages;II[J)I"⟩
abbrev c_L_id : ByteArray := method_10_code
def y_L_id : MethodName := ⟨"MarkedPagesLaw", "id", "(LMarkedPages;II[J)I"⟩
abbrev c_L_runs : ByteArray := method_11_code
def y_L_runs : MethodName := ⟨"MarkedPagesLaw", "runs", "(LMarkedPages;I[J)I"⟩
abbrev c_L_run : ByteArray := method_12_code
def y_L_run : MethodName := ⟨"MarkedPagesLaw", "run", "(LMarkedPages;III[J)I"⟩
abbrev c_L_count : ByteArray := method_13_code
def y_L_count : MethodName := ⟨"MarkedPagesLaw", "count", "(LMarkedPages;II[J)I"⟩
abbrev c_L_alike : ByteArray := method_14_code
def y_L_alike : MethodName := ⟨"MarkedPagesLaw", "alike", "(LMarkedPages;II[J)I"⟩
abbrev c_L_law : ByteArray := code
def y_L_law : MethodName := ⟨"MarkedPagesLaw", "law", "([I)Z"⟩
end
section
/-! The order of a row: letters by their paths (ids from the root down), greater ids first, a letter ahead of those behind it. -/
def pq_lt : List Nat → List Nat → Prop
  | _, [] => False
  | [], _ :: _ => True
  | a :: as, b :: bs => b < a ∨ (a = b ∧ pq_lt as bs)
theorem pq_lt_irr : ∀ a : List Nat, ¬ pq_lt a a
  | [], h => h
  | a :: as, h => by
    rcases h with h | ⟨-, h⟩
    · omega
    · exact pq_lt_irr as h
theorem pq_lt_tr : ∀ a b c : List Nat, pq_lt a b → pq_lt b c → pq_lt a c
  | _, _, [], _, h => by
    rename_i b _
    cases b <;> exact h.elim
  | [], _, _ :: _, _, _ => trivial
  | a :: as, [], c :: cs, h, _ => h.elim
  | a :: as, b :: bs, c :: cs, h1, h2 => by
    rcases h1 with h1 | ⟨rfl, h1⟩ <;> rcases h2 with h2 | ⟨rfl, h2⟩
    · exact Or.inl (by omega)
    · exact Or.inl h1
    · exact Or.inl h2
    · exact Or.inr ⟨rfl, pq_lt_tr as bs cs h1 h2⟩
theorem pq_lt_tot : ∀ a b : List Nat, a ≠ b → pq_lt a b ∨ pq_lt b a
  | [], [], h => absurd rfl h
  | [], _ :: _, _ => Or.inl trivial
  | _ :: _, [], _ => Or.inr trivial
  | a :: as, b :: bs, h => by
    rcases Nat.lt_trichotomy a b with h1 | h1 | h1
    · exact Or.inr (Or.inl h1)
    · subst h1
      rcases pq_lt_tot as bs (fun e => h (by rw [e])) with h2 | h2
      · exact Or.inl (Or.inr ⟨rfl, h2⟩)
      · exact Or.inr (Or.inr ⟨rfl, h2⟩)
    · exact Or.inl (Or.inl h1)
theorem pq_lt_app : ∀ (P : List Nat) (c : Nat) (t : List Nat), pq_lt P (P ++ c :: t)
  | [], _, _ => trivial
  | _ :: P, c, t => Or.inr ⟨rfl, pq_lt_app P c t⟩
theorem pq_lt_cons (P : List Nat) : ∀ (a b : Nat) (t t' : List Nat), pq_lt (P ++ a :: t) (P ++ b :: t') ↔ b < a ∨ (a = b ∧ pq_lt t t') := by
  induction P with
  | nil => intro a b t t'; exact Iff.rfl
  | cons p P ih =>
    intro a b t t'
    constructor
    · rintro (h | ⟨-, h⟩)
      · omega
      · exact (ih a b t t').mp h
    · intro h
      exact Or.inr ⟨rfl, (ih a b t t').mpr h⟩
/-- behind P: under P, or parted from it downwards -/
theorem pq_lt_pre : ∀ (P X : List Nat), pq_lt P X → (∃ c t, X = P ++ c :: t) ∨ (∃ Q d d' t t', X = Q ++ d :: t ∧ P = Q ++ d' :: t' ∧ d < d')
  | _, [], h => by
    rename_i P
    cases P <;> exact h.elim
  | [], c :: t, _ => Or.inl ⟨c, t, rfl⟩
  | p :: P, x :: X, h => by
    rcases h with h | ⟨rfl, h⟩
    · exact Or.inr ⟨[], x, p, X, P, rfl, rfl, h⟩
    · rcases pq_lt_pre P X h with ⟨c, t, rfl⟩ | ⟨Q, d, d', t, t', rfl, rfl, hd⟩
      · exact Or.inl ⟨c, t, rfl⟩
      · exact Or.inr ⟨p :: Q, d, d', t, t', rfl, rfl, hd⟩
/-- between P and P ++ [n] lies only what is under P, by a greater id -/
theorem pq_lt_mid {P X : List Nat} {n : Nat} (h1 : pq_lt P X) (h2 : pq_lt X (P ++ [n])) : ∃ c t, X = P ++ c :: t ∧ n < c := by
  rcases pq_lt_pre P X h1 with ⟨c, t, rfl⟩ | ⟨Q, d, d', t, t', rfl, rfl, hd⟩
  · rcases (pq_lt_cons P c n t []).mp h2 with h | ⟨-, h⟩
    · exact ⟨c, t, rfl, h⟩
    · cases t <;> exact h.elim
  · rw [List.append_assoc, List.cons_append] at h2
    rcases (pq_lt_cons Q d d' t (t' ++ [n])).mp h2 with h | ⟨h, -⟩ <;> omega
/-- what is parted from P downwards is behind all that is under P -/
theorem pq_last_inj {P Q : List Nat} {a b : Nat} (h : P ++ [a] = Q ++ [b]) : P = Q ∧ a = b := by
  have h1 := List.append_inj' h rfl
  exact ⟨h1.1, by simpa using h1.2⟩
/-- the place of a new letter in a row -/
theorem pq_place (pa : Nat → List Nat) (ids : Nat → Nat) (r1 r2 : List Nat) (k : Nat) (P : List Nat)
    (hs : (r1 ++ r2).Pairwise fun a b => pq_lt (pa a) (pa b)) (hcl : ∀ x ∈ r1 ++ r2, ∀ Q d t, pa x = Q ++ d :: t → ∃ a ∈ r1 ++ r2, pa a = Q ++ [d])
    (hl : ∀ x ∈ r1 ++ r2, ∃ Q, pa x = Q ++ [ids x]) (hup : ∀ x ∈ r1 ++ r2, (pa x).Pairwise (· < ·))
    (hk : pa k = P ++ [ids k]) (h1 : ∀ x ∈ r1, pa x = P ∨ pq_lt (pa x) P) (h2 : ∀ x ∈ r2, pq_lt P (pa x)) (hP : ∀ z ∈ P, z < ids k) (hne : ∀ x ∈ r1 ++ r2, ids x ≠ ids k) :
    (r1 ++ r2.takeWhile (fun x => decide (ids k < ids x)) ++ k :: r2.dropWhile (fun x => decide (ids k < ids x))).Pairwise fun a b => pq_lt (pa a) (pa b) := by
  generalize hw : r2.takeWhile (fun x => decide (ids k < ids x)) = w
  generalize hv : r2.dropWhile (fun x => decide (ids k < ids x)) = v
  have e : r2 = w ++ v := by rw [← hw, ← hv]; exact List.takeWhile_append_dropWhile.symm
  have hwid : ∀ x ∈ w, ids k < ids x := by
    have ha := List.all_takeWhile (p := fun x => decide (ids k < ids x)) (l := r2)
    rw [hw, List.all_eq_true] at ha
    intro x hx
    simpa using ha x hx
  subst e
  rw [List.pairwise_append] at hs
  obtain ⟨hs1, hs2, hs12⟩ := hs
  rw [List.pairwise_append] at hs2
  obtain ⟨hsw, hsv, hswv⟩ := hs2
  have hkP : pq_lt P (pa k) := by rw [hk]; exact pq_lt_app _ _ _
  -- an ancestor that lies behind P and isn't behind x of w is in w
  have key : ∀ x ∈ w, ∀ a ∈ r1 ++ (w ++ v), pq_lt P (pa a) → pq_lt (pa a) (pa x) → a ∈ w := by
    intro x hx a ha hPa hax
    rcases List.mem_append.mp ha with ha | ha
    · rcases h1 a ha with h | h
      · rw [h] at hPa; exact absurd hPa (pq_lt_irr _)
      · exact absurd (pq_lt_tr _ _ _ h hPa) (pq_lt_irr _)
    · rcases List.mem_append.mp ha with ha | ha
      · exact ha
      · exact absurd (pq_lt_tr _ _ _ (hswv x hx a ha) hax) (pq_lt_irr _)
  have hwk : ∀ x ∈ w, pq_lt (pa x) (pa k) := by
    intro x hx
    have hxm : x ∈ r1 ++ (w ++ v) := by simp [hx]
    have hPx : pq_lt P (pa x) := h2 x (by simp [hx])
    obtain ⟨Qx, hQx⟩ := hl x hxm
    by_cases hxk : pa x = pa k
    · rw [hQx, hk] at hxk
      exact absurd (pq_last_inj hxk).2 (hne x hxm)
    · rcases pq_lt_tot _ _ hxk with h | h
      · exact h
      · exfalso
        -- an ancestor of x with an id below k's, behind P
        have : ∃ a ∈ r1 ++ (w ++ v), pq_lt P (pa a) ∧ (pa a = pa x ∨ pq_lt (pa a) (pa x)) ∧ ids a < ids k := by
          rcases pq_lt_pre P (pa x) hPx with ⟨c, t, ht⟩ | ⟨Q, d, d', t, t', ht, hp, hd⟩
          · obtain ⟨a, ha, hpa⟩ := hcl x hxm P c t ht
            obtain ⟨Qa, hQa⟩ := hl a ha
            have hida : ids a = c := by rw [hpa] at hQa; exact (pq_last_inj hQa).2.symm
            refine ⟨a, ha, by rw [hpa]; exact pq_lt_app _ _ _, ?_, ?_⟩
            · cases t with
              | nil => left; rw [hpa, ht]
              | cons z t => right; rw [hpa, ht, show P ++ c :: z :: t = (P ++ [c]) ++ z :: t by simp]; exact pq_lt_app _ _ _
            · have hne' := hne a ha
              rw [hk, ht] at h
              rcases (pq_lt_cons P (ids k) c [] t).mp h with h | ⟨h, -⟩ <;> omega
          · obtain ⟨a, ha, hpa⟩ := hcl x hxm Q d t ht
            obtain ⟨Qa, hQa⟩ := hl a ha
            have hida : ids a = d := by rw [hpa] at hQa; exact (pq_last_inj hQa).2.symm
            refine ⟨a, ha, ?_, ?_, ?_⟩
            · rw [hpa, hp]; exact (pq_lt_cons Q d' d t' []).mpr (Or.inl hd)
            · cases t with
              | nil => left; rw [hpa, ht]
              | cons z t => right; rw [hpa, ht, show Q ++ d :: z :: t = (Q ++ [d]) ++ z :: t by simp]; exact pq_lt_app _ _ _
            · have := hP d' (by rw [hp]; simp)
              omega
        obtain ⟨a, ha, hPa, hax, hid⟩ := this
        rcases hax with hax | hax
        · obtain ⟨Qa, hQa⟩ := hl a ha
          rw [hax, hQx] at hQa
          have := (pq_last_inj hQa).2
          have := hwid x hx
          omega
        · have := hwid a (key x hx a ha hPa hax)
          omega
  have hkv : ∀ x ∈ v, pq_lt (pa k) (pa x) := by
    cases hv0 : v with
    | nil => intro x hx; cases hx
    | cons x0 v0 =>
      have hx0m : x0 ∈ r1 ++ (w ++ v) := by rw [hv0]; simp
      have hx0 : ¬ ids k < ids x0 := by
        have hd : ((w ++ v).dropWhile (fun x => decide (ids k < ids x))).head? = some x0 := by rw [hv, hv0]; rfl
        have := List.head?_dropWhile_not (p := fun x => decide (ids k < ids x)) (l := w ++ v)
        rw [hd] at this
        simpa using this
      have hlt : pq_lt (pa k) (pa x0) := by
        have hPx : pq_lt P (pa x0) := h2 x0 (by rw [hv0]; simp)
        obtain ⟨Qx, hQx⟩ := hl x0 hx0m
        by_cases hxk : pa x0 = pa k
        · rw [hQx, hk] at hxk
          exact absurd (pq_last_inj hxk).2 (hne x0 hx0m)
        · rcases pq_lt_tot _ _ hxk with h | h
          · exfalso
            rw [hk] at h
            obtain ⟨c, t, ht, hc⟩ := pq_lt_mid hPx h
            have hu := hup x0 hx0m
            -- the last id is not below c
            have hlast : c ≤ ids x0 := by
              rw [ht] at hQx hu
              rw [List.pairwise_append] at hu
              have h3 := hu.2.1
              rw [List.pairwise_cons] at h3
              cases ht2 : t with
              | nil =>
                rw [ht2] at hQx
                have := (pq_last_inj hQx).2
                omega
              | cons z t =>
                have hm : ids x0 ∈ z :: t := by
                  have h4 : (P ++ c :: (z :: t)).getLast? = some (ids x0) := by rw [← ht2, hQx]; simp
                  rw [List.getLast?_append, show (c :: z :: t).getLast? = (z :: t).getLast? by simp, List.getLast?_eq_some_getLast (List.cons_ne_nil z t)] at h4
                  have h5 : (z :: t).getLast (List.cons_ne_nil z t) = ids x0 := by simpa using h4
                  rw [← h5]
                  exact List.getLast_mem _
                have := h3.1 _ (by rw [ht2]; exact hm)
                omega
            omega
          · exact h
      intro x hx
      rcases List.mem_cons.mp hx with rfl | hx
      · exact hlt
      · rw [hv0, List.pairwise_cons] at hsv
        exact pq_lt_tr _ _ _ hlt (hsv.1 x hx)
  rw [List.append_assoc, List.pairwise_append]
  refine ⟨hs1, ?_, ?_⟩
  · rw [List.pairwise_append]
    refine ⟨hsw, ?_, ?_⟩
    · rw [List.pairwise_cons]
      exact ⟨hkv, hsv⟩
    · intro a ha b hb
      rcases List.mem_cons.mp hb with rfl | hb
      · exact hwk a ha
      · exact hswv a ha b hb
  · intro a ha b hb
    rcases List.mem_append.mp hb with hb | hb
    · exact hs12 a ha b (by simp [hb])
    · rcases List.mem_cons.mp hb with rfl | hb
      · rcases h1 a ha with h | h
        · rw [h]; exact hkP
        · exact pq_lt_tr _ _ _ h hkP
      · exact hs12 a ha b (by simp [hb])
/-- the walk down: of the letters under A that come from f on, f has the greatest id -/
theorem pq_dfsA {pa : Nat → List Nat} {ids : Nat → Nat} {F2 : List Nat} {f : Nat} {A : List Nat} (hs : (f :: F2).Pairwise fun a b => pq_lt (pa a) (pa b)) (hf : pa f = A ++ [ids f]) : ∀ x ∈ F2, pa x = A ++ [ids x] → ids x < ids f := by
  intro x hx hpx
  have h := (List.pairwise_cons.mp hs).1 x hx
  rw [hf, hpx] at h
  rcases (pq_lt_cons A (ids f) (ids x) [] []).mp h with h | ⟨-, h⟩
  · exact h
  · exact h.elim
/-- where f is behind a higher letter than a, none from f on is behind a -/
theorem pq_dfsB {pa : Nat → List Nat} {F2 : List Nat} {f n e : Nat} {R t : List Nat} (hs : (f :: F2).Pairwise fun a b => pq_lt (pa a) (pa b)) (hf : pa f = R ++ [n]) (ha : pq_lt (R ++ e :: t) (pa f)) : ∀ x ∈ f :: F2, ∀ c, pa x ≠ (R ++ e :: t) ++ [c] := by
  rw [hf] at ha
  have hne : n < e := by
    rcases (pq_lt_cons R e n t []).mp ha with h | ⟨-, h⟩
    · exact h
    · cases t <;> exact h.elim
  intro x hx c hpx
  rw [List.append_assoc, List.cons_append] at hpx
  rcases List.mem_cons.mp hx with rfl | hx
  · rw [hf] at hpx
    have h := List.append_cancel_left hpx
    simp at h
  · have h := (List.pairwise_cons.mp hs).1 x hx
    rw [hf, hpx] at h
    rcases (pq_lt_cons R n e [] (t ++ [c])).mp h with h | ⟨h, -⟩ <;> omega
/-- the next letter is behind the last one or behind one over it -/
theorem pq_dfsC {pa : Nat → List Nat} {F1 F2 : List Nat} {f q n : Nat} {R : List Nat} (hs : (F1 ++ f :: q :: F2).Pairwise fun a b => pq_lt (pa a) (pa b)) (hq : pa q = R ++ [n]) (hcl : R = [] ∨ ∃ a ∈ F1 ++ f :: q :: F2, pa a = R) : ∃ t, pa f = R ++ t := by
  rcases hcl with rfl | ⟨a, ha, hpa⟩
  · exact ⟨pa f, rfl⟩
  · rw [List.pairwise_append] at hs
    obtain ⟨-, hs2, hs12⟩ := hs
    have hfq := (List.pairwise_cons.mp hs2).1 q (by simp)
    have hqs := (List.pairwise_cons.mp (List.pairwise_cons.mp hs2).2).1
    have haq : pq_lt (pa a) (pa q) := by rw [hpa, hq]; exact pq_lt_app _ _ _
    have hcase : pa a = pa f ∨ pq_lt (pa a) (pa f) := by
      rcases List.mem_append.mp ha with h | h
      · exact Or.inr (hs12 a h f (by simp))
      · rcases List.mem_cons.mp h with rfl | h
        · exact Or.inl rfl
        · exfalso
          rcases List.mem_cons.mp h with rfl | h
          · exact pq_lt_irr _ haq
          · exact pq_lt_irr _ (pq_lt_tr _ _ _ haq (hqs a h))
    rcases hcase with h | h
    · exact ⟨[], by rw [← h, hpa]; simp⟩
    · rw [hpa] at h
      rw [hq] at hfq
      obtain ⟨c, t, ht, -⟩ := pq_lt_mid h hfq
      exact ⟨c :: t, ht⟩
/-- the one with the greatest id among those that c allows -/
def pq_best (ids : Nat → Nat) (c : Nat → Bool) : Nat → Option Nat
  | 0 => none
  | n + 1 => if c n && (match pq_best ids c n with | none => true | some b => decide (ids b < ids n)) then some n else pq_best ids c n
theorem pq_best_spec (ids : Nat → Nat) (c : Nat → Bool) : ∀ n, (∀ b, pq_best ids c n = some b → b < n ∧ c b = true ∧ ∀ j, j < n → c j = true → ids j ≤ ids b) ∧ (pq_best ids c n = none → ∀ j, j < n → c j = false) := by
  intro n
  induction n with
  | zero => exact ⟨fun b h => (by cases h), fun _ j hj => by omega⟩
  | succ n ih =>
    obtain ⟨ih1, ih2⟩ := ih
    unfold pq_best
    cases hb : pq_best ids c n with
    | none =>
      have hn := ih2 hb
      by_cases hc : c n = true
      · simp only [hc, Bool.and_true, if_true]
        refine ⟨fun b h => ?_, fun h => by cases h⟩
        cases h
        refine ⟨by omega, hc, fun j hj hcj => ?_⟩
        rcases Nat.lt_succ_iff_lt_or_eq.mp hj with h | rfl
        · rw [hn j h] at hcj; cases hcj
        · exact Nat.le_refl _
      · have hc' : c n = false := by simpa using hc
        simp only [hc', Bool.false_and, Bool.false_eq_true, if_false]
        refine ⟨fun b h => (by cases h), fun _ j hj => ?_⟩
        rcases Nat.lt_succ_iff_lt_or_eq.mp hj with h | rfl
        · exact hn j h
        · exact hc'
    | some b0 =>
      obtain ⟨h1, h2, h3⟩ := ih1 b0 hb
      by_cases hc : (c n && decide (ids b0 < ids n)) = true
      · rw [if_pos hc]
        simp only [Bool.and_eq_true, decide_eq_true_eq] at hc
        refine ⟨fun b h => ?_, fun h => by cases h⟩
        cases h
        refine ⟨by omega, hc.1, fun j hj hcj => ?_⟩
        rcases Nat.lt_succ_iff_lt_or_eq.mp hj with h | rfl
        · have := h3 j h hcj; omega
        · exact Nat.le_refl _
      · rw [if_neg hc]
        refine ⟨fun b h => ?_, fun h => by cases h⟩
        cases h
        refine ⟨by omega, h2, fun j hj hcj => ?_⟩
        rcases Nat.lt_succ_iff_lt_or_eq.mp hj with h | rfl
        · exact h3 j h hcj
        · simp only [Bool.and_eq_true, decide_eq_true_eq, not_and] at hc
          have := hc hcj
          omega
/-- among different ids: who is allowed and has the greatest is it -/
theorem pq_best_is {ids : Nat → Nat} {c : Nat → Bool} {n f : Nat} (hf : f < n) (hc : c f = true) (hm : ∀ j, j < n → c j = true → j ≠ f → ids j < ids f) : pq_best ids c n = some f := by
  obtain ⟨h1, h2⟩ := pq_best_spec ids c n
  cases hb : pq_best ids c n with
  | none => rw [h2 hb f hf] at hc; cases hc
  | some b =>
    obtain ⟨g1, g2, g3⟩ := h1 b hb
    by_cases hbf : b = f
    · rw [hbf]
    · have := g3 f hf hc
      have := hm b g1 g2 hbf
      omega
theorem pq_best_none {ids : Nat → Nat} {c : Nat → Bool} {n : Nat} (hc : ∀ j, j < n → c j = false) : pq_best ids c n = none := by
  obtain ⟨h1, h2⟩ := pq_best_spec ids c n
  cases hb : pq_best ids c n with
  | none => rfl
  | some b => obtain ⟨g1, g2, -⟩ := h1 b hb; rw [hc b g1] at g2; cases g2
end
section
/-! Operations and what a page that knows some of them shows. An operation: sort, time, page, first, end, what, letter. A page's knowledge: kn 0 .. kn (c - 1), in this order. -/
abbrev pq_O : Type := Nat → Nat × Nat × Nat × Option Nat × Option Nat × Nat × Int32
abbrev pq_so (O : pq_O) (k : Nat) : Nat := (O k).1
abbrev pq_tm (O : pq_O) (k : Nat) : Nat := (O k).2.1
abbrev pq_pg (O : pq_O) (k : Nat) : Nat := (O k).2.2.1
abbrev pq_fi (O : pq_O) (k : Nat) : Option Nat := (O k).2.2.2.1
abbrev pq_en (O : pq_O) (k : Nat) : Option Nat := (O k).2.2.2.2.1
abbrev pq_wh (O : pq_O) (k : Nat) : Nat := (O k).2.2.2.2.2.1
abbrev pq_le (O : pq_O) (k : Nat) : Int32 := (O k).2.2.2.2.2.2
def pq_id (O : pq_O) (k : Nat) : Nat := 4 * pq_tm O k + pq_pg O k
def pq_pth (O : pq_O) : Nat → Nat → List Nat
  | 0, _ => []
  | n + 1, k => (match pq_fi O k with | none => [] | some p => pq_pth O n p) ++ [pq_id O k]
def pq_pa (O : pq_O) (k : Nat) : List Nat := pq_pth O (k + 1) k
/-- the operations made so far hang together -/
def pq_wf (M : Nat) (O : pq_O) : Prop :=
  (∀ k, k < M → ∀ p, pq_fi O k = some p → p < k ∧ pq_so O p = 0 ∧ pq_id O p < pq_id O k) ∧ (∀ k, k < M → ∀ p, pq_en O k = some p → p < k ∧ pq_so O p = 0) ∧
  (∀ j k, j < M → k < M → j ≠ k → pq_id O j ≠ pq_id O k) ∧ (∀ k, k < M → 1 ≤ pq_tm O k ∧ pq_tm O k ≤ k + 1 ∧ pq_pg O k < 3 ∧ pq_so O k < 3 ∧ pq_wh O k < 8) ∧ (∀ k, k < M → pq_so O k = 0 ∨ ∃ p, pq_fi O k = some p)
/-- a page's knowledge: no operation twice, none ahead of what it speaks of -/
def pq_kn (M : Nat) (O : pq_O) (kn : Nat → Nat) (c : Nat) : Prop :=
  (∀ i, i < c → kn i < M) ∧ (∀ i j, i < c → j < c → kn i = kn j → i = j) ∧ ∀ i, i < c → ∀ p, (pq_fi O (kn i) = some p ∨ pq_en O (kn i) = some p) → ∃ j, j < i ∧ kn j = p
theorem pq_pth_ir {M : Nat} {O : pq_O} (hw : pq_wf M O) : ∀ q, q < M → ∀ m1 m2, q < m1 → q < m2 → pq_pth O m1 q = pq_pth O m2 q := by
  intro q
  induction q using Nat.strongRecOn with
  | ind q ihq =>
    intro hq m1 m2 h1 h2
    obtain ⟨a, rfl⟩ : ∃ a, m1 = a + 1 := ⟨m1 - 1, by omega⟩
    obtain ⟨b, rfl⟩ : ∃ b, m2 = b + 1 := ⟨m2 - 1, by omega⟩
    unfold pq_pth
    cases hfq : pq_fi O q with
    | none => rfl
    | some r =>
      have hr := (hw.1 q hq r hfq).1
      show pq_pth O a r ++ _ = pq_pth O b r ++ _
      rw [ihq r hr (by omega) a b (by omega) (by omega)]
theorem pq_pa_eq {M : Nat} {O : pq_O} (hw : pq_wf M O) {k : Nat} (hk : k < M) : pq_pa O k = (match pq_fi O k with | none => [] | some p => pq_pa O p) ++ [pq_id O k] := by
  show (match pq_fi O k with | none => [] | some p => pq_pth O k p) ++ [pq_id O k] = _
  cases hp : pq_fi O k with
  | none => rfl
  | some p =>
    have h1 := (hw.1 k hk p hp).1
    show pq_pth O k p ++ _ = pq_pa O p ++ _
    rw [pq_pth_ir hw p (by omega) k (p + 1) h1 (by omega)]
    rfl
theorem pq_pa_last {M : Nat} {O : pq_O} (hw : pq_wf M O) {k : Nat} (hk : k < M) : ∃ Q, pq_pa O k = Q ++ [pq_id O k] := ⟨_, pq_pa_eq hw hk⟩
/-- ids grow along a path -/
theorem pq_pa_up {M : Nat} {O : pq_O} (hw : pq_wf M O) : ∀ k, k < M → (pq_pa O k).Pairwise (· < ·) ∧ ∀ z ∈ pq_pa O k, z ≤ pq_id O k := by
  intro k
  induction k using Nat.strongRecOn with
  | ind k ih =>
    intro hk
    rw [pq_pa_eq hw hk]
    cases hp : pq_fi O k with
    | none => simp
    | some p =>
      obtain ⟨h1, -, h3⟩ := hw.1 k hk p hp
      obtain ⟨i1, i2⟩ := ih p h1 (by omega)
      simp only []
      refine ⟨List.pairwise_append.mpr ⟨i1, by simp, fun a ha b hb => ?_⟩, fun z hz => ?_⟩
      · rw [List.mem_singleton] at hb
        have := i2 a ha
        omega
      · rcases List.mem_append.mp hz with h | h
        · have := i2 z h; omega
        · rw [List.mem_singleton.mp h]; exact Nat.le_refl _
theorem pq_pa_inj {M : Nat} {O : pq_O} (hw : pq_wf M O) {j k : Nat} (hj : j < M) (hk : k < M) (h : pq_pa O j = pq_pa O k) : j = k := by
  obtain ⟨Q, hQ⟩ := pq_pa_last hw hj
  obtain ⟨Q', hQ'⟩ := pq_pa_last hw hk
  rw [hQ, hQ'] at h
  by_cases e : j = k
  · exact e
  · exact absurd (pq_last_inj h).2 (hw.2.2.1 j k hj hk e)
/-- every piece of a path from the root is a path -/
theorem pq_pa_cut {M : Nat} {O : pq_O} (hw : pq_wf M O) (S : Nat → Prop) (hS : ∀ k, S k → k < M ∧ ∀ p, pq_fi O k = some p → S p) : ∀ k, S k → ∀ Q d t, pq_pa O k = Q ++ d :: t → ∃ a, S a ∧ pq_pa O a = Q ++ [d] := by
  intro k
  induction k using Nat.strongRecOn with
  | ind k ih =>
    intro hk Q d t ht
    cases t with
    | nil => exact ⟨k, hk, ht⟩
    | cons z t =>
      obtain ⟨hM, hp⟩ := hS k hk
      have e := pq_pa_eq hw hM
      -- the last of the list is the own id; the rest is the parent's path
      have hne : Q ++ d :: z :: t ≠ [] := by simp
      rw [ht] at e
      cases hf : pq_fi O k with
      | none =>
        rw [hf] at e
        have hl := congrArg List.length e
        simp at hl
        omega
      | some p =>
        rw [hf] at e
        simp only [] at e
        have hd : pq_pa O p = Q ++ d :: (z :: t).dropLast := by
          have h1 := congrArg List.dropLast e
          rw [List.dropLast_concat] at h1
          rw [← h1, List.dropLast_append_cons]
          rfl
        exact ih p (hw.1 k hM p hf).1 (hp p hf) Q d _ hd
/-- the place of a writing -/
def pq_st (O : pq_O) (r : List Nat) (k : Nat) : Nat := match pq_fi O k with
  | none => 0
  | some p => r.idxOf p + 1
def pq_ins (O : pq_O) (r : List Nat) (k : Nat) : List Nat :=
  r.take (pq_st O r k) ++ (r.drop (pq_st O r k)).takeWhile (fun x => decide (pq_id O k < pq_id O x)) ++ k :: (r.drop (pq_st O r k)).dropWhile (fun x => decide (pq_id O k < pq_id O x))
def pq_row (O : pq_O) (kn : Nat → Nat) : Nat → List Nat
  | 0 => []
  | c + 1 => if pq_so O (kn c) = 0 then pq_ins O (pq_row O kn c) (kn c) else pq_row O kn c
theorem pq_ins_mem {O : pq_O} {r : List Nat} {k x : Nat} : x ∈ pq_ins O r k ↔ x = k ∨ x ∈ r := by
  unfold pq_ins
  have e : r = r.take (pq_st O r k) ++ ((r.drop (pq_st O r k)).takeWhile (fun x => decide (pq_id O k < pq_id O x)) ++ (r.drop (pq_st O r k)).dropWhile (fun x => decide (pq_id O k < pq_id O x))) := by
    rw [List.takeWhile_append_dropWhile, List.take_append_drop]
  constructor
  · intro h
    rcases List.mem_append.mp h with h | h
    · right
      rw [e]
      rcases List.mem_append.mp h with h | h
      · exact List.mem_append_left _ h
      · exact List.mem_append_right _ (List.mem_append_left _ h)
    · rcases List.mem_cons.mp h with h | h
      · exact Or.inl h
      · right
        rw [e]
        exact List.mem_append_right _ (List.mem_append_right _ h)
  · rintro (rfl | h)
    · simp
    · rw [e] at h
      rcases List.mem_append.mp h with h | h
      · exact List.mem_append_left _ (List.mem_append_left _ h)
      · rcases List.mem_append.mp h with h | h
        · exact List.mem_append_left _ (List.mem_append_right _ h)
        · exact List.mem_append_right _ (List.mem_cons_of_mem _ h)
theorem pq_ins_len (O : pq_O) (r : List Nat) (k : Nat) : (pq_ins O r k).length = r.length + 1 := by
  have e : r = r.take (pq_st O r k) ++ ((r.drop (pq_st O r k)).takeWhile (fun x => decide (pq_id O k < pq_id O x)) ++ (r.drop (pq_st O r k)).dropWhile (fun x => decide (pq_id O k < pq_id O x))) := by
    rw [List.takeWhile_append_dropWhile, List.take_append_drop]
  have e2 := congrArg List.length e
  simp only [List.length_append] at e2
  unfold pq_ins
  simp only [List.length_append, List.length_cons]
  omega
/-- a row holds just the writings that are known, in order -/
theorem pq_row_ok {M : Nat} {O : pq_O} (hw : pq_wf M O) {kn : Nat → Nat} : ∀ c, pq_kn M O kn c →
    (∀ x, x ∈ pq_row O kn c ↔ pq_so O x = 0 ∧ ∃ i, i < c ∧ kn i = x) ∧ (pq_row O kn c).Pairwise (fun a b => pq_lt (pq_pa O a) (pq_pa O b)) := by
  intro c
  induction c with
  | zero =>
    intro _
    refine ⟨fun x => ⟨fun h => (by cases h), fun ⟨_, i, hi, _⟩ => by omega⟩, List.Pairwise.nil⟩
  | succ c ih =>
    intro hk
    have hk' : pq_kn M O kn c := ⟨fun i hi => hk.1 i (by omega), fun i j hi hj => hk.2.1 i j (by omega) (by omega), fun i hi => hk.2.2 i (by omega)⟩
    obtain ⟨hm, hs⟩ := ih hk'
    unfold pq_row
    by_cases hso : pq_so O (kn c) = 0
    · rw [if_pos hso]
      have hMc := hk.1 c (by omega)
      have hfresh : ∀ x ∈ pq_row O kn c, x ≠ kn c := by
        intro x hx e
        obtain ⟨-, i, hi, hix⟩ := (hm x).mp hx
        have := hk.2.1 i c (by omega) (by omega) (by rw [hix, e])
        omega
      have hltM : ∀ x ∈ pq_row O kn c, x < M := by
        intro x hx
        obtain ⟨-, i, hi, rfl⟩ := (hm x).mp hx
        exact hk.1 i (by omega)
      refine ⟨fun x => ?_, ?_⟩
      · rw [pq_ins_mem, hm x]
        constructor
        · rintro (rfl | ⟨h1, i, hi, h2⟩)
          · exact ⟨hso, c, by omega, rfl⟩
          · exact ⟨h1, i, by omega, h2⟩
        · rintro ⟨h1, i, hi, h2⟩
          by_cases e : i = c
          · left; rw [← h2, e]
          · right; exact ⟨h1, i, by omega, h2⟩
      · -- the order
        have hcl : ∀ x ∈ pq_row O kn c, ∀ Q d t, pq_pa O x = Q ++ d :: t → ∃ a ∈ pq_row O kn c, pq_pa O a = Q ++ [d] := by
          intro x hx Q d t ht
          refine pq_pa_cut hw (fun a => a ∈ pq_row O kn c) (fun a ha => ⟨hltM a ha, fun p hp => ?_⟩) x hx Q d t ht
          obtain ⟨-, i, hi, rfl⟩ := (hm a).mp ha
          obtain ⟨j, hj, hjp⟩ := hk'.2.2 i hi p (Or.inl hp)
          exact (hm p).mpr ⟨(hw.1 _ (hk.1 i (by omega)) p hp).2.1, j, by omega, hjp⟩
        have hids : ∀ x ∈ pq_row O kn c, pq_id O x ≠ pq_id O (kn c) := fun x hx => hw.2.2.1 x _ (hltM x hx) hMc (hfresh x hx)
        generalize hr : pq_row O kn c = r at *
        unfold pq_ins
        have happ : ∀ z, r.take z ++ r.drop z = r := fun z => List.take_append_drop z r
        cases hf : pq_fi O (kn c) with
        | none =>
          have e0 : pq_st O r (kn c) = 0 := by unfold pq_st; rw [hf]
          rw [e0]
          refine pq_place (pq_pa O) (pq_id O) (r.take 0) (r.drop 0) (kn c) [] (by rw [happ]; exact hs) (by rw [happ]; exact hcl) (by rw [happ]; exact fun x hx => pq_pa_last hw (hltM x hx)) (by rw [happ]; exact fun x hx => (pq_pa_up hw x (hltM x hx)).1) ?_ ?_ ?_ ?_ (by rw [happ]; exact hids)
          · rw [pq_pa_eq hw hMc, hf]
          · intro x hx; simp at hx
          · intro x hx
            have hx' : x ∈ r := by simpa using hx
            obtain ⟨Q, hQ⟩ := pq_pa_last hw (hltM x hx')
            rw [hQ]
            cases Q <;> exact trivial
          · intro z hz; cases hz
        | some p =>
          have e0 : pq_st O r (kn c) = r.idxOf p + 1 := by unfold pq_st; rw [hf]
          rw [e0]
          obtain ⟨j, hj, hjp⟩ := hk.2.2 c (by omega) p (Or.inl hf)
          obtain ⟨w1, w2, w3⟩ := hw.1 _ hMc p hf
          have hp : p ∈ r := (hm p).mpr ⟨w2, j, by omega, hjp⟩
          obtain ⟨s, t, hst⟩ := List.append_of_mem hp
          have hsort := hs
          rw [hst, List.pairwise_append, List.pairwise_cons] at hsort
          obtain ⟨-, ⟨ht2, -⟩, hs12⟩ := hsort
          have hps : p ∉ s := fun h => pq_lt_irr _ (hs12 p h p (by simp))
          have hix : r.idxOf p + 1 = (s ++ [p]).length := by
            rw [hst, List.idxOf_append]
            simp [hps]
          have e1 : r.take (r.idxOf p + 1) = s ++ [p] := by rw [hix, hst, show s ++ p :: t = (s ++ [p]) ++ t by simp, List.take_left]
          have e2 : r.drop (r.idxOf p + 1) = t := by rw [hix, hst, show s ++ p :: t = (s ++ [p]) ++ t by simp, List.drop_left]
          refine pq_place (pq_pa O) (pq_id O) (r.take (r.idxOf p + 1)) (r.drop (r.idxOf p + 1)) (kn c) (pq_pa O p) (by rw [happ]; exact hs) (by rw [happ]; exact hcl) (by rw [happ]; exact fun x hx => pq_pa_last hw (hltM x hx)) (by rw [happ]; exact fun x hx => (pq_pa_up hw x (hltM x hx)).1) ?_ ?_ ?_ ?_ (by rw [happ]; exact hids)
          · rw [pq_pa_eq hw hMc, hf]
          · rw [e1]
            intro x hx
            rcases List.mem_append.mp hx with h | h
            · exact Or.inr (hs12 x h p (by simp))
            · rw [List.mem_singleton.mp h]; exact Or.inl rfl
          · rw [e2]; exact ht2
          · intro z hz
            have := (pq_pa_up hw p (by omega)).2 z hz
            omega
    · rw [if_neg hso]
      refine ⟨fun x => ?_, hs⟩
      rw [hm x]
      constructor
      · rintro ⟨h1, i, hi, h2⟩; exact ⟨h1, i, by omega, h2⟩
      · rintro ⟨h1, i, hi, h2⟩
        by_cases e : i = c
        · rw [← h2, e] at h1; exact absurd h1 hso
        · exact ⟨h1, i, by omega, h2⟩
theorem pq_row_nodup {M : Nat} {O : pq_O} (hw : pq_wf M O) {kn : Nat → Nat} {c : Nat} (hk : pq_kn M O kn c) : (pq_row O kn c).Nodup := by
  refine List.Pairwise.imp (S := fun a b => a ≠ b) ?_ (pq_row_ok hw c hk).2
  intro a b h e
  subst e
  exact pq_lt_irr _ h
theorem pq_row_len (O : pq_O) (kn : Nat → Nat) : ∀ c, (pq_row O kn c).length ≤ c
  | 0 => Nat.le_refl _
  | c + 1 => by
    unfold pq_row
    have := pq_row_len O kn c
    split
    · rw [pq_ins_len]; omega
    · omega
end
section
/-! What a page knows, what is gone, the text, the markings in order, formats. -/
def pq_kw (kn : Nat → Nat) : Nat → Nat → Bool
  | 0, _ => false
  | c + 1, k => pq_kw kn c k || kn c == k
theorem pq_kw_iff (kn : Nat → Nat) (k : Nat) : ∀ c, pq_kw kn c k = true ↔ ∃ i, i < c ∧ kn i = k
  | 0 => ⟨fun h => (by cases h), fun ⟨i, hi, _⟩ => by omega⟩
  | c + 1 => by
    unfold pq_kw
    rw [Bool.or_eq_true, pq_kw_iff kn k c, beq_iff_eq]
    constructor
    · rintro (⟨i, hi, h⟩ | h)
      · exact ⟨i, by omega, h⟩
      · exact ⟨c, by omega, h⟩
    · rintro ⟨i, hi, h⟩
      by_cases e : i = c
      · right; rw [← e]; exact h
      · left; exact ⟨i, by omega, h⟩
def pq_gn (O : pq_O) (kn : Nat → Nat) : Nat → Nat → Bool
  | 0, _ => false
  | c + 1, k => pq_gn O kn c k || (pq_so O (kn c) == 1 && pq_fi O (kn c) == some k)
theorem pq_gn_iff (O : pq_O) (kn : Nat → Nat) (k : Nat) : ∀ c, pq_gn O kn c k = true ↔ ∃ i, i < c ∧ pq_so O (kn i) = 1 ∧ pq_fi O (kn i) = some k
  | 0 => ⟨fun h => (by cases h), fun ⟨i, hi, _⟩ => by omega⟩
  | c + 1 => by
    unfold pq_gn
    rw [Bool.or_eq_true, pq_gn_iff O kn k c, Bool.and_eq_true, beq_iff_eq, beq_iff_eq]
    constructor
    · rintro (⟨i, hi, h⟩ | h)
      · exact ⟨i, by omega, h⟩
      · exact ⟨c, by omega, h⟩
    · rintro ⟨i, hi, h⟩
      by_cases e : i = c
      · right; rw [← e]; exact h
      · left; exact ⟨i, by omega, h⟩
def pq_tx (O : pq_O) (kn : Nat → Nat) (c : Nat) : List Nat := (pq_row O kn c).filter fun k => !pq_gn O kn c k
def pq_tx_len (O : pq_O) (kn : Nat → Nat) (c : Nat) : (pq_tx O kn c).length ≤ c := Nat.le_trans (List.length_filter_le _ _) (pq_row_len O kn c)
/-- the greatest time -/
def pq_mx (O : pq_O) (kn : Nat → Nat) : Nat → Nat
  | 0 => 0
  | c + 1 => max (pq_mx O kn c) (pq_tm O (kn c))
theorem pq_mx_ge (O : pq_O) (kn : Nat → Nat) : ∀ c i, i < c → pq_tm O (kn i) ≤ pq_mx O kn c
  | 0, _, h => by omega
  | c + 1, i, h => by
    unfold pq_mx
    by_cases e : i = c
    · subst e; omega
    · have := pq_mx_ge O kn c i (by omega)
      omega
theorem pq_mx_le {O : pq_O} {kn : Nat → Nat} {B : Nat} : ∀ c, (∀ i, i < c → pq_tm O (kn i) ≤ B) → pq_mx O kn c ≤ B
  | 0, _ => Nat.zero_le _
  | c + 1, h => by
    unfold pq_mx
    have h1 := pq_mx_le c (fun i hi => h i (by omega))
    have h2 := h c (by omega)
    omega
/-- the markings, by rising ids -/
def pq_mins (O : pq_O) (r : List Nat) (k : Nat) : List Nat := r.takeWhile (fun x => decide (pq_id O x < pq_id O k)) ++ k :: r.dropWhile (fun x => decide (pq_id O x < pq_id O k))
def pq_mk (O : pq_O) (kn : Nat → Nat) : Nat → List Nat
  | 0 => []
  | c + 1 => if pq_so O (kn c) = 2 then pq_mins O (pq_mk O kn c) (kn c) else pq_mk O kn c
theorem pq_mins_mem {O : pq_O} {r : List Nat} {k x : Nat} : x ∈ pq_mins O r k ↔ x = k ∨ x ∈ r := by
  unfold pq_mins
  have e : r = r.takeWhile (fun x => decide (pq_id O x < pq_id O k)) ++ r.dropWhile (fun x => decide (pq_id O x < pq_id O k)) := List.takeWhile_append_dropWhile.symm
  constructor
  · intro h
    rcases List.mem_append.mp h with h | h
    · right; rw [e]; exact List.mem_append_left _ h
    · rcases List.mem_cons.mp h with h | h
      · exact Or.inl h
      · right; rw [e]; exact List.mem_append_right _ h
  · rintro (rfl | h)
    · simp
    · rw [e] at h
      rcases List.mem_append.mp h with h | h
      · exact List.mem_append_left _ h
      · exact List.mem_append_right _ (List.mem_cons_of_mem _ h)
theorem pq_mins_len (O : pq_O) (r : List Nat) (k : Nat) : (pq_mins O r k).length = r.length + 1 := by
  have e2 := congrArg List.length (List.takeWhile_append_dropWhile (p := fun x => decide (pq_id O x < pq_id O k)) (l := r))
  unfold pq_mins
  simp only [List.length_append, List.length_cons] at e2 ⊢
  omega
theorem pq_mk_len (O : pq_O) (kn : Nat → Nat) : ∀ c, (pq_mk O kn c).length ≤ c
  | 0 => Nat.le_refl _
  | c + 1 => by
    unfold pq_mk
    have := pq_mk_len O kn c
    split
    · rw [pq_mins_len]; omega
    · omega
theorem pq_mins_sort {O : pq_O} {r : List Nat} {k : Nat} (hs : r.Pairwise fun a b => pq_id O a < pq_id O b) (hne : ∀ x ∈ r, pq_id O x ≠ pq_id O k) : (pq_mins O r k).Pairwise fun a b => pq_id O a < pq_id O b := by
  unfold pq_mins
  generalize hw : r.takeWhile (fun x => decide (pq_id O x < pq_id O k)) = w
  generalize hv : r.dropWhile (fun x => decide (pq_id O x < pq_id O k)) = v
  have e : r = w ++ v := by rw [← hw, ← hv]; exact List.takeWhile_append_dropWhile.symm
  have hwid : ∀ x ∈ w, pq_id O x < pq_id O k := by
    have ha := List.all_takeWhile (p := fun x => decide (pq_id O x < pq_id O k)) (l := r)
    rw [hw, List.all_eq_true] at ha
    intro x hx
    simpa using ha x hx
  have hvid : ∀ x ∈ v, pq_id O k < pq_id O x := by
    cases hv0 : v with
    | nil => intro x hx; cases hx
    | cons x0 v0 =>
      have hx0 : ¬ pq_id O x0 < pq_id O k := by
        have hd : (r.dropWhile (fun x => decide (pq_id O x < pq_id O k))).head? = some x0 := by rw [hv, hv0]; rfl
        have := List.head?_dropWhile_not (p := fun x => decide (pq_id O x < pq_id O k)) (l := r)
        rw [hd] at this
        simpa using this
      have h0 : pq_id O k < pq_id O x0 := by
        have := hne x0 (by rw [e, hv0]; simp)
        omega
      intro x hx
      rcases List.mem_cons.mp hx with rfl | hx
      · exact h0
      · rw [e, List.pairwise_append, hv0, List.pairwise_cons] at hs
        have := hs.2.1.1 x hx
        omega
  rw [e, List.pairwise_append] at hs
  rw [List.pairwise_append, List.pairwise_cons]
  refine ⟨hs.1, ⟨hvid, hs.2.1⟩, fun a ha b hb => ?_⟩
  rcases List.mem_cons.mp hb with rfl | hb
  · exact hwid a ha
  · exact hs.2.2 a ha b hb
theorem pq_mk_ok {M : Nat} {O : pq_O} (hw : pq_wf M O) {kn : Nat → Nat} : ∀ c, pq_kn M O kn c →
    (∀ x, x ∈ pq_mk O kn c ↔ pq_so O x = 2 ∧ ∃ i, i < c ∧ kn i = x) ∧ (pq_mk O kn c).Pairwise (fun a b => pq_id O a < pq_id O b) := by
  intro c
  induction c with
  | zero =>
    intro _
    exact ⟨fun x => ⟨fun h => (by cases h), fun ⟨_, i, hi, _⟩ => by omega⟩, List.Pairwise.nil⟩
  | succ c ih =>
    intro hk
    have hk' : pq_kn M O kn c := ⟨fun i hi => hk.1 i (by omega), fun i j hi hj => hk.2.1 i j (by omega) (by omega), fun i hi => hk.2.2 i (by omega)⟩
    obtain ⟨hm, hs⟩ := ih hk'
    unfold pq_mk
    by_cases hso : pq_so O (kn c) = 2
    · rw [if_pos hso]
      refine ⟨fun x => ?_, pq_mins_sort hs fun x hx => ?_⟩
      · rw [pq_mins_mem, hm x]
        constructor
        · rintro (rfl | ⟨h1, i, hi, h2⟩)
          · exact ⟨hso, c, by omega, rfl⟩
          · exact ⟨h1, i, by omega, h2⟩
        · rintro ⟨h1, i, hi, h2⟩
          by_cases e : i = c
          · left; rw [← h2, e]
          · right; exact ⟨h1, i, by omega, h2⟩
      · obtain ⟨-, i, hi, rfl⟩ := (hm x).mp hx
        refine hw.2.2.1 _ _ (hk.1 i (by omega)) (hk.1 c (by omega)) (fun e => ?_)
        have := hk.2.1 i c (by omega) (by omega) e
        omega
    · rw [if_neg hso]
      refine ⟨fun x => ?_, hs⟩
      rw [hm x]
      constructor
      · rintro ⟨h1, i, hi, h2⟩; exact ⟨h1, i, by omega, h2⟩
      · rintro ⟨h1, i, hi, h2⟩
        by_cases e : i = c
        · rw [← h2, e] at h1; exact absurd h1 hso
        · exact ⟨h1, i, by omega, h2⟩
/-- does the marking m cover the letter l -/
def pq_cv (O : pq_O) (r : List Nat) (m l : Nat) : Bool :=
  (match pq_fi O m with | none => true | some f => decide (r.idxOf f ≤ r.idxOf l)) && (match pq_en O m with | none => true | some e => if pq_wh O m < 4 then decide (r.idxOf l < r.idxOf e) else decide (r.idxOf l ≤ r.idxOf e))
/-- has the letter l the kind, by the markings ms -/
def pq_hs (O : pq_O) (r : List Nat) (l kind : Nat) (ms : List Nat) : Bool := ms.foldl (fun b m => if (decide (pq_wh O m / 2 = kind) && pq_cv O r m l) = true then decide (pq_wh O m % 2 = 1) else b) false
def pq_b (b : Bool) : Nat := if b then 1 else 0
def pq_fm (O : pq_O) (r : List Nat) (l : Nat) (ms : List Nat) : Nat := pq_b (pq_hs O r l 0 ms) + 2 * pq_b (pq_hs O r l 1 ms) + 4 * pq_b (pq_hs O r l 2 ms) + 8 * pq_b (pq_hs O r l 3 ms)
theorem pq_b_le (b : Bool) : pq_b b ≤ 1 := by cases b <;> simp [pq_b]
theorem pq_fm_lt (O : pq_O) (r : List Nat) (l : Nat) (ms : List Nat) : pq_fm O r l ms < 16 := by
  unfold pq_fm
  have h0 := pq_b_le (pq_hs O r l 0 ms)
  have h1 := pq_b_le (pq_hs O r l 1 ms)
  have h2 := pq_b_le (pq_hs O r l 2 ms)
  have h3 := pq_b_le (pq_hs O r l 3 ms)
  omega
theorem pq_fold_none {c : Nat → Bool} {g : Nat → Bool} : ∀ (ms : List Nat) (d : Bool), (∀ m ∈ ms, c m = false) → ms.foldl (fun b m => if c m = true then g m else b) d = d
  | [], _, _ => rfl
  | m :: ms, d, h => by
    rw [List.foldl_cons, if_neg (by rw [h m (by simp)]; decide)]
    exact pq_fold_none ms d (fun x hx => h x (by simp [hx]))
theorem pq_fold_last {ids : Nat → Nat} {c : Nat → Bool} {g : Nat → Bool} : ∀ (ms : List Nat) (d : Bool) (b : Nat), ms.Pairwise (fun a b => ids a < ids b) → b ∈ ms → c b = true → (∀ m ∈ ms, c m = true → ids m ≤ ids b) → ms.foldl (fun b m => if c m = true then g m else b) d = g b
  | [], _, _, _, h, _, _ => by cases h
  | m :: ms, d, b, hs, hb, hc, hm => by
    rw [List.foldl_cons]
    rw [List.pairwise_cons] at hs
    rcases List.mem_cons.mp hb with rfl | hb
    · rw [if_pos hc]
      refine pq_fold_none ms _ (fun x hx => ?_)
      cases hcx : c x with
      | false => rfl
      | true =>
        have h1 := hs.1 x hx
        have h2 := hm x (by simp [hx]) hcx
        omega
    · exact pq_fold_last ms _ b hs.2 hb hc (fun x hx => hm x (by simp [hx]))
/-- the greatest id decides -/
theorem pq_hs_best {M : Nat} {O : pq_O} (hw : pq_wf M O) {kn : Nat → Nat} {c : Nat} (hk : pq_kn M O kn c) (r : List Nat) (l kind : Nat) :
    pq_hs O r l kind (pq_mk O kn c) = (match pq_best (pq_id O) (fun k => (pq_kw kn c k && pq_so O k == 2) && decide (pq_wh O k / 2 = kind) && pq_cv O r k l) M with | none => false | some b => decide (pq_wh O b % 2 = 1)) := by
  obtain ⟨hm, hs⟩ := pq_mk_ok hw c hk
  obtain ⟨h1, h2⟩ := pq_best_spec (pq_id O) (fun k => (pq_kw kn c k && pq_so O k == 2) && decide (pq_wh O k / 2 = kind) && pq_cv O r k l) M
  have hmem : ∀ x, x ∈ pq_mk O kn c → x < M ∧ (pq_kw kn c x && pq_so O x == 2) = true := by
    intro x hx
    obtain ⟨g1, i, hi, g2⟩ := (hm x).mp hx
    refine ⟨by rw [← g2]; exact hk.1 i hi, ?_⟩
    rw [Bool.and_eq_true, pq_kw_iff, beq_iff_eq]
    exact ⟨⟨i, hi, g2⟩, g1⟩
  unfold pq_hs
  cases hb : pq_best (pq_id O) (fun k => (pq_kw kn c k && pq_so O k == 2) && decide (pq_wh O k / 2 = kind) && pq_cv O r k l) M with
  | none =>
    refine pq_fold_none (c := fun m => decide (pq_wh O m / 2 = kind) && pq_cv O r m l) (g := fun m => decide (pq_wh O m % 2 = 1)) _ _ (fun m hmm => ?_)
    obtain ⟨g1, g2⟩ := hmem m hmm
    have := h2 hb m g1
    simp only [g2, Bool.true_and] at this
    exact this
  | some b =>
    obtain ⟨g1, g2, g3⟩ := h1 b hb
    simp only [Bool.and_eq_true, decide_eq_true_eq, beq_iff_eq] at g2
    obtain ⟨⟨⟨g4, g5⟩, g6⟩, g7⟩ := g2
    obtain ⟨i, hi, g8⟩ := (pq_kw_iff kn b c).mp g4
    refine pq_fold_last (ids := pq_id O) (c := fun m => decide (pq_wh O m / 2 = kind) && pq_cv O r m l) (g := fun m => decide (pq_wh O m % 2 = 1)) _ _ b hs ((hm b).mpr ⟨g5, i, hi, g8⟩) (by simp [g6, g7]) (fun m hmm hc => ?_)
    obtain ⟨e1, e2⟩ := hmem m hmm
    refine g3 m e1 ?_
    simp only [e2, Bool.true_and]
    exact hc
end
section
/-! The state of the whole: how many were made, the operations, what each page knows, how many. -/
abbrev pq_S : Type := Nat × pq_O × (Nat → Nat → Nat) × (Nat → Nat)
def pq_ok (S : pq_S) : Prop := S.1 ≤ 90 ∧ pq_wf S.1 S.2.1 ∧ (∀ j, j < 3 → pq_kn S.1 S.2.1 (S.2.2.1 j) (S.2.2.2 j)) ∧ ∀ k, k < S.1 → ∃ i, i < S.2.2.2 (pq_pg S.2.1 k) ∧ S.2.2.1 (pq_pg S.2.1 k) i = k
theorem pq_php : ∀ (M c : Nat) (f : Nat → Nat), (∀ i, i < c → f i < M) → (∀ i j, i < c → j < c → f i = f j → i = j) → c ≤ M
  | 0, c, f, h, _ => by
    rcases Nat.eq_zero_or_pos c with h0 | h0
    · omega
    · have := h 0 h0; omega
  | M + 1, c, f, h, hi => by
    by_cases hx : ∃ i, i < c ∧ f i = M
    · obtain ⟨i0, h0, h1⟩ := hx
      have := pq_php M (c - 1) (fun i => if i < i0 then f i else f (i + 1)) (fun i hic => by
        show (if i < i0 then f i else f (i + 1)) < M
        split
        · have a := h i (by omega)
          have b : f i ≠ M := fun e => by have := hi i i0 (by omega) h0 (by rw [e, h1]); omega
          omega
        · have a := h (i + 1) (by omega)
          have b : f (i + 1) ≠ M := fun e => by have := hi (i + 1) i0 (by omega) h0 (by rw [e, h1]); omega
          omega) (fun i j hic hjc he => by
        have he : (if i < i0 then f i else f (i + 1)) = (if j < i0 then f j else f (j + 1)) := he
        split at he <;> split at he
        · exact hi i j (by omega) (by omega) he
        · have := hi i (j + 1) (by omega) (by omega) he; omega
        · have := hi (i + 1) j (by omega) (by omega) he; omega
        · have := hi (i + 1) (j + 1) (by omega) (by omega) he; omega)
      omega
    · have := pq_php M c f (fun i hic => by
        have a := h i hic
        have b : f i ≠ M := fun e => hx ⟨i, hic, e⟩
        omega) hi
      omega
theorem pq_kn_le {M : Nat} {O : pq_O} {kn : Nat → Nat} {c : Nat} (h : pq_kn M O kn c) : c ≤ M := pq_php M c kn h.1 h.2.1
/-- a page learns -/
def pq_lrn (S : pq_S) (j k : Nat) : pq_S := (S.1, S.2.1, fun a i => if a = j ∧ i = S.2.2.2 j then k else S.2.2.1 a i, fun a => if a = j then S.2.2.2 j + 1 else S.2.2.2 a)
/-- an operation is made (nobody knows it yet) -/
def pq_add (S : pq_S) (o : Nat × Nat × Nat × Option Nat × Option Nat × Nat × Int32) : pq_S := (S.1 + 1, fun k => if k = S.1 then o else S.2.1 k, S.2.2.1, S.2.2.2)
/-- rows and the rest don't look at what isn't known -/
theorem pq_row_ext {O O' : pq_O} {kn kn' : Nat → Nat} : ∀ c, (∀ i, i < c → kn' i = kn i) → (∀ i, i < c → O' (kn i) = O (kn i)) → (∀ i, i < c → ∀ p, pq_fi O (kn i) = some p → ∃ j, j < i ∧ kn j = p) → pq_row O' kn' c = pq_row O kn c := by
  intro c
  induction c with
  | zero => intro _ _ _; rfl
  | succ c ih =>
    intro h1 h2 h3
    have e := ih (fun i hi => h1 i (by omega)) (fun i hi => h2 i (by omega)) (fun i hi => h3 i (by omega))
    have hmem : ∀ c0, c0 ≤ c → ∀ x ∈ pq_row O kn c0, ∃ i, i < c0 ∧ kn i = x := by
      intro c0
      induction c0 with
      | zero => intro _ x hx; cases hx
      | succ c0 ih0 =>
        intro hc0 x hx
        unfold pq_row at hx
        split at hx
        · rcases pq_ins_mem.mp hx with rfl | hx
          · exact ⟨c0, by omega, rfl⟩
          · obtain ⟨i, hi, hix⟩ := ih0 (by omega) x hx
            exact ⟨i, by omega, hix⟩
        · obtain ⟨i, hi, hix⟩ := ih0 (by omega) x hx
          exact ⟨i, by omega, hix⟩
    unfold pq_row
    rw [h1 c (by omega), e]
    have ec : O' (kn c) = O (kn c) := h2 c (by omega)
    have eso : pq_so O' (kn c) = pq_so O (kn c) := by unfold pq_so; rw [ec]
    rw [eso]
    split
    · have eid : ∀ x ∈ pq_row O kn c, pq_id O' x = pq_id O x := by
        intro x hx
        obtain ⟨i, hi, rfl⟩ := hmem c (Nat.le_refl _) x hx
        unfold pq_id pq_tm pq_pg
        rw [h2 i (by omega)]
      have eidc : pq_id O' (kn c) = pq_id O (kn c) := by unfold pq_id pq_tm pq_pg; rw [ec]
      have est : pq_st O' (pq_row O kn c) (kn c) = pq_st O (pq_row O kn c) (kn c) := by
        unfold pq_st pq_fi
        rw [ec]
      unfold pq_ins
      rw [est, eidc]
      have et : ∀ l : List Nat, (∀ x ∈ l, x ∈ pq_row O kn c) → l.takeWhile (fun x => decide (pq_id O (kn c) < pq_id O' x)) = l.takeWhile (fun x => decide (pq_id O (kn c) < pq_id O x)) ∧ l.dropWhile (fun x => decide (pq_id O (kn c) < pq_id O' x)) = l.dropWhile (fun x => decide (pq_id O (kn c) < pq_id O x)) := by
        intro l
        induction l with
        | nil => intro _; exact ⟨rfl, rfl⟩
        | cons a l ihl =>
          intro hl
          have ea := eid a (hl a (by simp))
          obtain ⟨i1, i2⟩ := ihl (fun x hx => hl x (by simp [hx]))
          rw [List.takeWhile_cons, List.takeWhile_cons, List.dropWhile_cons, List.dropWhile_cons, ea, i1, i2]
          exact ⟨rfl, rfl⟩
      obtain ⟨e1, e2⟩ := et ((pq_row O kn c).drop (pq_st O (pq_row O kn c) (kn c))) (fun x hx => List.mem_of_mem_drop hx)
      rw [e1, e2]
    · rfl
theorem pq_kw_ext {kn kn' : Nat → Nat} (k : Nat) : ∀ c, (∀ i, i < c → kn' i = kn i) → pq_kw kn' c k = pq_kw kn c k
  | 0, _ => rfl
  | c + 1, h => by
    unfold pq_kw
    rw [pq_kw_ext k c (fun i hi => h i (by omega)), h c (by omega)]
theorem pq_gn_ext {O O' : pq_O} {kn kn' : Nat → Nat} (k : Nat) : ∀ c, (∀ i, i < c → kn' i = kn i) → (∀ i, i < c → O' (kn i) = O (kn i)) → pq_gn O' kn' c k = pq_gn O kn c k
  | 0, _, _ => rfl
  | c + 1, h, h2 => by
    unfold pq_gn
    rw [pq_gn_ext k c (fun i hi => h i (by omega)) (fun i hi => h2 i (by omega)), h c (by omega)]
    unfold pq_so pq_fi
    rw [h2 c (by omega)]
theorem pq_mx_ext {O O' : pq_O} {kn kn' : Nat → Nat} : ∀ c, (∀ i, i < c → kn' i = kn i) → (∀ i, i < c → O' (kn i) = O (kn i)) → pq_mx O' kn' c = pq_mx O kn c
  | 0, _, _ => rfl
  | c + 1, h, h2 => by
    unfold pq_mx
    rw [pq_mx_ext c (fun i hi => h i (by omega)) (fun i hi => h2 i (by omega)), h c (by omega)]
    unfold pq_tm
    rw [h2 c (by omega)]
theorem pq_wf_add {S : pq_S} {o : Nat × Nat × Nat × Option Nat × Option Nat × Nat × Int32} (h : pq_wf S.1 S.2.1) (hf : ∀ p, o.2.2.2.1 = some p → p < S.1 ∧ pq_so S.2.1 p = 0 ∧ pq_id S.2.1 p < 4 * o.2.1 + o.2.2.1) (he : ∀ p, o.2.2.2.2.1 = some p → p < S.1 ∧ pq_so S.2.1 p = 0)
    (hid : ∀ k, k < S.1 → pq_id S.2.1 k ≠ 4 * o.2.1 + o.2.2.1) (ht : 1 ≤ o.2.1 ∧ o.2.1 ≤ S.1 + 1 ∧ o.2.2.1 < 3 ∧ o.1 < 3 ∧ o.2.2.2.2.2.1 < 8) (hs : o.1 = 0 ∨ ∃ p, o.2.2.2.1 = some p) : pq_wf (pq_add S o).1 (pq_add S o).2.1 := by
  obtain ⟨w1, w2, w3, w4, w5⟩ := h
  have eo : ∀ k, k < S.1 → (pq_add S o).2.1 k = S.2.1 k := fun k hk => by show (if k = S.1 then o else S.2.1 k) = _; rw [if_neg (by omega)]
  have en : (pq_add S o).2.1 S.1 = o := by show (if S.1 = S.1 then o else S.2.1 S.1) = _; rw [if_pos rfl]
  have eid : ∀ k, k < S.1 → pq_id (pq_add S o).2.1 k = pq_id S.2.1 k := fun k hk => by unfold pq_id pq_tm pq_pg; rw [eo k hk]
  have eidn : pq_id (pq_add S o).2.1 S.1 = 4 * o.2.1 + o.2.2.1 := by unfold pq_id pq_tm pq_pg; rw [en]
  have cases2 : ∀ k, k < (pq_add S o).1 → k < S.1 ∨ k = S.1 := fun k hk => by have : k < S.1 + 1 := hk; omega
  refine ⟨fun k hk p hp => ?_, fun k hk p hp => ?_, fun j k hj hk hjk => ?_, fun k hk => ?_, fun k hk => ?_⟩
  · rcases cases2 k hk with h | rfl
    · have hp' : pq_fi S.2.1 k = some p := by unfold pq_fi at hp ⊢; rw [eo k h] at hp; exact hp
      obtain ⟨a, b, c⟩ := w1 k h p hp'
      exact ⟨a, by unfold pq_so; rw [eo p (by omega)]; exact b, by rw [eid p (by omega), eid k h]; exact c⟩
    · have hp' : o.2.2.2.1 = some p := by unfold pq_fi at hp; rw [en] at hp; exact hp
      obtain ⟨a, b, c⟩ := hf p hp'
      exact ⟨a, by unfold pq_so; rw [eo p a]; exact b, by rw [eid p a, eidn]; exact c⟩
  · rcases cases2 k hk with h | rfl
    · have hp' : pq_en S.2.1 k = some p := by unfold pq_en at hp ⊢; rw [eo k h] at hp; exact hp
      obtain ⟨a, b⟩ := w2 k h p hp'
      exact ⟨a, by unfold pq_so; rw [eo p (by omega)]; exact b⟩
    · have hp' : o.2.2.2.2.1 = some p := by unfold pq_en at hp; rw [en] at hp; exact hp
      obtain ⟨a, b⟩ := he p hp'
      exact ⟨a, by unfold pq_so; rw [eo p a]; exact b⟩
  · rcases cases2 j hj with h | rfl <;> rcases cases2 k hk with h' | h'
    · rw [eid j h, eid k h']; exact w3 j k h h' hjk
    · subst h'; rw [eid j h, eidn]; exact hid j h
    · rw [eid k h', eidn]; exact fun e => hid k h' e.symm
    · exact absurd h'.symm hjk
  · rcases cases2 k hk with h | rfl
    · have := w4 k h
      unfold pq_tm pq_pg pq_so pq_wh
      rw [eo k h]; exact this
    · unfold pq_tm pq_pg pq_so pq_wh
      rw [en]; exact ht
  · rcases cases2 k hk with h | rfl
    · have := w5 k h
      unfold pq_so pq_fi
      rw [eo k h]; exact this
    · unfold pq_so pq_fi
      rw [en]; exact hs
/-- a page learns what it does not know, and knows what it speaks of -/
theorem pq_lrn_kn {S : pq_S} {j k : Nat} (hk : pq_kn S.1 S.2.1 (S.2.2.1 j) (S.2.2.2 j)) (hM : k < S.1) (hn : ∀ i, i < S.2.2.2 j → S.2.2.1 j i ≠ k) (hp : ∀ p, (pq_fi S.2.1 k = some p ∨ pq_en S.2.1 k = some p) → ∃ i, i < S.2.2.2 j ∧ S.2.2.1 j i = p) :
    pq_kn (pq_lrn S j k).1 (pq_lrn S j k).2.1 ((pq_lrn S j k).2.2.1 j) ((pq_lrn S j k).2.2.2 j) := by
  have ec : (pq_lrn S j k).2.2.2 j = S.2.2.2 j + 1 := by simp [pq_lrn]
  have e1 : ∀ i, i < S.2.2.2 j → (pq_lrn S j k).2.2.1 j i = S.2.2.1 j i := fun i hi => by
    show (if j = j ∧ i = S.2.2.2 j then k else S.2.2.1 j i) = _
    rw [if_neg (by omega)]
  have e2 : (pq_lrn S j k).2.2.1 j (S.2.2.2 j) = k := by
    show (if j = j ∧ S.2.2.2 j = S.2.2.2 j then k else _) = _
    rw [if_pos ⟨rfl, rfl⟩]
  rw [ec]
  refine ⟨fun i hi => ?_, fun a b ha hb he => ?_, fun i hi p hpp => ?_⟩
  · rcases Nat.lt_succ_iff_lt_or_eq.mp hi with h | rfl
    · rw [e1 i h]; exact hk.1 i h
    · rw [e2]; exact hM
  · rcases Nat.lt_succ_iff_lt_or_eq.mp ha with h | rfl <;> rcases Nat.lt_succ_iff_lt_or_eq.mp hb with h' | h'
    · rw [e1 a h, e1 b h'] at he; exact hk.2.1 a b h h' he
    · subst h'; rw [e1 a h, e2] at he; exact absurd he (hn a h)
    · rw [e2, e1 b h'] at he; exact absurd he.symm (hn b h')
    · exact h'.symm
  · rcases Nat.lt_succ_iff_lt_or_eq.mp hi with h | rfl
    · rw [e1 i h] at hpp
      obtain ⟨q, hq, hqp⟩ := hk.2.2 i h p hpp
      exact ⟨q, hq, by rw [e1 q (by omega)]; exact hqp⟩
    · rw [e2] at hpp
      obtain ⟨q, hq, hqp⟩ := hp p hpp
      exact ⟨q, hq, by rw [e1 q hq]; exact hqp⟩
end
section
/-! Runs: f p is the format at place p, n the length of the text. -/
def pq_bg (f : Nat → Nat) (p : Nat) : Bool := p == 0 || f p != f (p - 1)
def pq_ru (f : Nat → Nat) : Nat → Nat
  | 0 => 0
  | p + 1 => pq_ru f p + (if pq_bg f p then 1 else 0)
theorem pq_ru_le (f : Nat → Nat) : ∀ p, pq_ru f p ≤ p
  | 0 => Nat.le_refl _
  | p + 1 => by
    unfold pq_ru
    have := pq_ru_le f p
    split <;> omega
theorem pq_ru_mono (f : Nat → Nat) (a : Nat) : ∀ b, a ≤ b → pq_ru f a ≤ pq_ru f b
  | 0, h => by have : a = 0 := by omega
               subst this; exact Nat.le_refl _
  | b + 1, h => by
    by_cases e : a = b + 1
    · rw [e]; exact Nat.le_refl _
    · have := pq_ru_mono f a b (by omega)
      have e : pq_ru f (b + 1) = pq_ru f b + (if pq_bg f b then 1 else 0) := rfl
      rw [e]
      omega
theorem pq_ru_pos (f : Nat → Nat) {p : Nat} (h : 0 < p) : 0 < pq_ru f p := by
  have := pq_ru_mono f 1 p h
  have e : pq_ru f 1 = 1 := by simp [pq_ru, pq_bg]
  omega
/-- the start of run k: the first place whose run is k or later; n if there is none -/
def pq_sr (f : Nat → Nat) (k : Nat) : Nat → Nat
  | 0 => 0
  | n + 1 => if pq_ru f (n + 1) ≤ k then n + 1 else pq_sr f k n
theorem pq_sr_le (f : Nat → Nat) (k : Nat) : ∀ n, pq_sr f k n ≤ n
  | 0 => Nat.le_refl _
  | n + 1 => by
    unfold pq_sr
    have := pq_sr_le f k n
    split <;> omega
/-- places ahead of it belong to earlier runs, those behind it to k or later ones -/
theorem pq_sr_spec (f : Nat → Nat) (k : Nat) : ∀ n p, p < n → (p < pq_sr f k n ↔ pq_ru f (p + 1) ≤ k)
  | 0, p, h => by omega
  | n + 1, p, h => by
    unfold pq_sr
    split
    · rename_i h1
      have := pq_ru_mono f (p + 1) (n + 1) (by omega)
      constructor
      · intro _; omega
      · intro _; exact h
    · rename_i h1
      have hle := pq_sr_le f k n
      by_cases e : p = n
      · subst e
        constructor
        · intro _; omega
        · intro _; omega
      · exact pq_sr_spec f k n p (by omega)
theorem pq_sr_eq {f : Nat → Nat} {k n q : Nat} (hq : q ≤ n) (h1 : ∀ p, p < q → pq_ru f (p + 1) ≤ k) (h2 : ∀ p, q ≤ p → p < n → ¬ pq_ru f (p + 1) ≤ k) : pq_sr f k n = q := by
  have hle := pq_sr_le f k n
  rcases Nat.lt_trichotomy (pq_sr f k n) q with h | h | h
  · have := (pq_sr_spec f k n (pq_sr f k n) (by omega)).mpr (h1 _ h)
    omega
  · exact h
  · exact absurd ((pq_sr_spec f k n q (by omega)).mp h) (h2 q (Nat.le_refl _) (by omega))
/-- a place starts run k just if it is where k starts -/
theorem pq_sr_bg {f : Nat → Nat} {k n p : Nat} (hp : p < n) (hb : pq_bg f p = true) (hr : pq_ru f p = k) : pq_sr f k n = p := by
  refine pq_sr_eq (by omega) (fun q hq => ?_) (fun q hq _ => ?_)
  · have := pq_ru_mono f (q + 1) p (by omega)
    omega
  · have := pq_ru_mono f (p + 1) (q + 1) (by omega)
    have e : pq_ru f (p + 1) = pq_ru f p + 1 := by
      show pq_ru f p + (if pq_bg f p then 1 else 0) = _
      rw [hb]; rfl
    omega
/-- how many places are in run k -/
def pq_mn (f : Nat → Nat) (k : Nat) : Nat → Nat
  | 0 => 0
  | n + 1 => pq_mn f k n + (if pq_ru f (n + 1) = k + 1 then 1 else 0)
theorem pq_mn_eq (f : Nat → Nat) (k : Nat) : ∀ n, pq_mn f k n = pq_sr f (k + 1) n - pq_sr f k n
  | 0 => rfl
  | n + 1 => by
    have ih := pq_mn_eq f k n
    have l1 := pq_sr_le f k n
    have l2 := pq_sr_le f (k + 1) n
    have hx : pq_sr f k n ≤ pq_sr f (k + 1) n := by
      rcases Nat.lt_or_ge (pq_sr f (k + 1) n) (pq_sr f k n) with h | h
      · have h1 := (pq_sr_spec f k n (pq_sr f (k + 1) n) (by omega)).mp h
        have h2 := (pq_sr_spec f (k + 1) n (pq_sr f (k + 1) n) (by omega)).mpr (by omega)
        omega
      · exact h
    have full : ∀ j, pq_ru f (n + 1) ≤ j → pq_sr f j n = n := by
      intro j hj
      refine pq_sr_eq (Nat.le_refl _) (fun p hp => ?_) (fun p hp hp2 => by omega)
      have := pq_ru_mono f (p + 1) (n + 1) (by omega)
      omega
    unfold pq_mn pq_sr
    by_cases c1 : pq_ru f (n + 1) ≤ k
    · rw [if_pos c1, if_neg (show ¬ pq_ru f (n + 1) = k + 1 by omega), if_pos (show pq_ru f (n + 1) ≤ k + 1 by omega), ih, full k c1, full (k + 1) (by omega)]
      omega
    · rw [if_neg c1]
      by_cases c2 : pq_ru f (n + 1) = k + 1
      · rw [if_pos c2, if_pos (show pq_ru f (n + 1) ≤ k + 1 by omega), ih, full (k + 1) (by omega)]
        omega
      · rw [if_neg c2, if_neg (show ¬ pq_ru f (n + 1) ≤ k + 1 by omega), ih]
        omega
end
