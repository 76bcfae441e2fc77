/-- a private method of a class that the tables say can be made, by its rows of tables_1 -/
def lw_okq (q : MethodName × Nat) : Prop := (q.1.cls ≠ "java/lang/invoke/MethodHandle" ∧ q.1.cls ≠ "java/lang/invoke/VarHandle") ∧ Cond.instantiable q.1.cls q.2 ∈ tables_1 ∧ Cond.privateMethod q.1 ∈ tables_1 ∧ Cond.instanceMethod q.1 ∈ tables_1
theorem lw_p0 : lw_okq (⟨"Bookgrafter", "refuse", "()I"⟩, 8) := ⟨⟨by decide +kernel, by decide +kernel⟩, List.mem_of_getElem? (i := 26) (by decide +kernel), List.mem_of_getElem? (i := 133) (by decide +kernel), List.mem_of_getElem? (i := 134) (by decide +kernel)⟩
theorem lw_p1 : lw_okq (⟨"Bookgrafter$Row", "turned", "(I)I"⟩, 4) := ⟨⟨by decide +kernel, by decide +kernel⟩, List.mem_of_getElem? (i := 35) (by decide +kernel), List.mem_of_getElem? (i := 157) (by decide +kernel), List.mem_of_getElem? (i := 158) (by decide +kernel)⟩
theorem lw_p2 : lw_okq (⟨"Bookgrafter", "houseFact", "(I)I"⟩, 8) := ⟨⟨by decide +kernel, by decide +kernel⟩, List.mem_of_getElem? (i := 26) (by decide +kernel), List.mem_of_getElem? (i := 297) (by decide +kernel), List.mem_of_getElem? (i := 298) (by decide +kernel)⟩
theorem lw_p3 : lw_okq (⟨"Bookgrafter", "bookAt", "(I)LBookgrafter$Row;"⟩, 8) := ⟨⟨by decide +kernel, by decide +kernel⟩, List.mem_of_getElem? (i := 26) (by decide +kernel), List.mem_of_getElem? (i := 324) (by decide +kernel), List.mem_of_getElem? (i := 325) (by decide +kernel)⟩
theorem lw_p4 : lw_okq (⟨"java/lang/Throwable", "fillInStackTrace", "(I)Ljava/lang/Throwable;"⟩, 6) := ⟨⟨by decide +kernel, by decide +kernel⟩, List.mem_of_getElem? (i := 365) (by decide +kernel), List.mem_of_getElem? (i := 363) (by decide +kernel), List.mem_of_getElem? (i := 364) (by decide +kernel)⟩
theorem lw_p5 : lw_okq (⟨"Bookgrafter", "write", "(LBookgrafter$Row;)V"⟩, 8) := ⟨⟨by decide +kernel, by decide +kernel⟩, List.mem_of_getElem? (i := 26) (by decide +kernel), List.mem_of_getElem? (i := 435) (by decide +kernel), List.mem_of_getElem? (i := 436) (by decide +kernel)⟩
theorem lw_p6 : lw_okq (⟨"Bookgrafter", "keyOrRefuse", "(LBookgrafter$Row;I)I"⟩, 8) := ⟨⟨by decide +kernel, by decide +kernel⟩, List.mem_of_getElem? (i := 26) (by decide +kernel), List.mem_of_getElem? (i := 556) (by decide +kernel), List.mem_of_getElem? (i := 557) (by decide +kernel)⟩
theorem lw_p7 : lw_okq (⟨"Bookgrafter", "viewAt", "(I)LBookgrafter$View;"⟩, 8) := ⟨⟨by decide +kernel, by decide +kernel⟩, List.mem_of_getElem? (i := 26) (by decide +kernel), List.mem_of_getElem? (i := 862) (by decide +kernel), List.mem_of_getElem? (i := 863) (by decide +kernel)⟩
theorem lw_p8 : lw_okq (⟨"Bookgrafter", "shelfAt", "(I)LBookgrafter$Row;"⟩, 8) := ⟨⟨by decide +kernel, by decide +kernel⟩, List.mem_of_getElem? (i := 26) (by decide +kernel), List.mem_of_getElem? (i := 953) (by decide +kernel), List.mem_of_getElem? (i := 954) (by decide +kernel)⟩
theorem lw_p9 : lw_okq (⟨"BookgrafterModel", "isLet", "(ZZ)Z"⟩, 11) := ⟨⟨by decide +kernel, by decide +kernel⟩, List.mem_of_getElem? (i := 1044) (by decide +kernel), List.mem_of_getElem? (i := 1114) (by decide +kernel), List.mem_of_getElem? (i := 1115) (by decide +kernel)⟩
theorem lw_p10 : lw_okq (⟨"BookgrafterModel", "did", "(I)I"⟩, 11) := ⟨⟨by decide +kernel, by decide +kernel⟩, List.mem_of_getElem? (i := 1044) (by decide +kernel), List.mem_of_getElem? (i := 1130) (by decide +kernel), List.mem_of_getElem? (i := 1131) (by decide +kernel)⟩
theorem lw_p11 : lw_okq (⟨"BookgrafterModel", "refuse", "()I"⟩, 11) := ⟨⟨by decide +kernel, by decide +kernel⟩, List.mem_of_getElem? (i := 1044) (by decide +kernel), List.mem_of_getElem? (i := 1154) (by decide +kernel), List.mem_of_getElem? (i := 1155) (by decide +kernel)⟩
theorem lw_p12 : lw_okq (⟨"BookgrafterModel", "write", "(LBookgrafterModel$Book;)V"⟩, 11) := ⟨⟨by decide +kernel, by decide +kernel⟩, List.mem_of_getElem? (i := 1044) (by decide +kernel), List.mem_of_getElem? (i := 1162) (by decide +kernel), List.mem_of_getElem? (i := 1163) (by decide +kernel)⟩
theorem lw_p13 : lw_okq (⟨"BookgrafterModel", "set", "(LBookgrafterModel$Book;II)I"⟩, 11) := ⟨⟨by decide +kernel, by decide +kernel⟩, List.mem_of_getElem? (i := 1044) (by decide +kernel), List.mem_of_getElem? (i := 1167) (by decide +kernel), List.mem_of_getElem? (i := 1168) (by decide +kernel)⟩
theorem lw_p14 : lw_okq (⟨"BookgrafterModel", "change", "(LBookgrafterModel$Book;IZI)I"⟩, 11) := ⟨⟨by decide +kernel, by decide +kernel⟩, List.mem_of_getElem? (i := 1044) (by decide +kernel), List.mem_of_getElem? (i := 1188) (by decide +kernel), List.mem_of_getElem? (i := 1189) (by decide +kernel)⟩
theorem lw_p15 : lw_okq (⟨"BookgrafterModel", "dropped", "(LBookgrafterModel$Book;III)I"⟩, 11) := ⟨⟨by decide +kernel, by decide +kernel⟩, List.mem_of_getElem? (i := 1044) (by decide +kernel), List.mem_of_getElem? (i := 1204) (by decide +kernel), List.mem_of_getElem? (i := 1205) (by decide +kernel)⟩
def lw_privs_1 : List (MethodName × Nat) := [(⟨"Bookgrafter", "refuse", "()I"⟩, 8), (⟨"Bookgrafter$Row", "turned", "(I)I"⟩, 4), (⟨"Bookgrafter", "houseFact", "(I)I"⟩, 8), (⟨"Bookgrafter", "bookAt", "(I)LBookgrafter$Row;"⟩, 8), (⟨"java/lang/Throwable", "fillInStackTrace", "(I)Ljava/lang/Throwable;"⟩, 6), (⟨"Bookgrafter", "write", "(LBookgrafter$Row;)V"⟩, 8), (⟨"Bookgrafter", "keyOrRefuse", "(LBookgrafter$Row;I)I"⟩, 8), (⟨"Bookgrafter", "viewAt", "(I)LBookgrafter$View;"⟩, 8), (⟨"Bookgrafter", "shelfAt", "(I)LBookgrafter$Row;"⟩, 8), (⟨"BookgrafterModel", "isLet", "(ZZ)Z"⟩, 11), (⟨"BookgrafterModel", "did", "(I)I"⟩, 11), (⟨"BookgrafterModel", "refuse", "()I"⟩, 11), (⟨"BookgrafterModel", "write", "(LBookgrafterModel$Book;)V"⟩, 11), (⟨"BookgrafterModel", "set", "(LBookgrafterModel$Book;II)I"⟩, 11), (⟨"BookgrafterModel", "change", "(LBookgrafterModel$Book;IZI)I"⟩, 11), (⟨"BookgrafterModel", "dropped", "(LBookgrafterModel$Book;III)I"⟩, 11)]
theorem lw_r1 : ∀ q ∈ lw_privs_1, lw_okq q := List.forall_mem_cons.mpr ⟨lw_p0, List.forall_mem_cons.mpr ⟨lw_p1, List.forall_mem_cons.mpr ⟨lw_p2, List.forall_mem_cons.mpr ⟨lw_p3, List.forall_mem_cons.mpr ⟨lw_p4, List.forall_mem_cons.mpr ⟨lw_p5, List.forall_mem_cons.mpr ⟨lw_p6, List.forall_mem_cons.mpr ⟨lw_p7, List.forall_mem_cons.mpr ⟨lw_p8, List.forall_mem_cons.mpr ⟨lw_p9, List.forall_mem_cons.mpr ⟨lw_p10, List.forall_mem_cons.mpr ⟨lw_p11, List.forall_mem_cons.mpr ⟨lw_p12, List.forall_mem_cons.mpr ⟨lw_p13, List.forall_mem_cons.mpr ⟨lw_p14, List.forall_mem_cons.mpr ⟨lw_p15, fun _ h => absurd h List.not_mem_nil⟩⟩⟩⟩⟩⟩⟩⟩⟩⟩⟩⟩⟩⟩⟩⟩
theorem lw_p16 : lw_okq (⟨"BookgrafterModel", "seen", "(I)I"⟩, 11) := ⟨⟨by decide +kernel, by decide +kernel⟩, List.mem_of_getElem? (i := 1044) (by decide +kernel), List.mem_of_getElem? (i := 1294) (by decide +kernel), List.mem_of_getElem? (i := 1295) (by decide +kernel)⟩
theorem lw_p17 : lw_okq (⟨"BookgrafterModel", "isWithin", "(II)Z"⟩, 11) := ⟨⟨by decide +kernel, by decide +kernel⟩, List.mem_of_getElem? (i := 1044) (by decide +kernel), List.mem_of_getElem? (i := 1302) (by decide +kernel), List.mem_of_getElem? (i := 1303) (by decide +kernel)⟩
theorem lw_p18 : lw_okq (⟨"BookgrafterModel", "sum", "(I)I"⟩, 11) := ⟨⟨by decide +kernel, by decide +kernel⟩, List.mem_of_getElem? (i := 1044) (by decide +kernel), List.mem_of_getElem? (i := 1330) (by decide +kernel), List.mem_of_getElem? (i := 1331) (by decide +kernel)⟩
theorem lw_p19 : lw_okq (⟨"BookgrafterModel", "isGoing", "()Z"⟩, 11) := ⟨⟨by decide +kernel, by decide +kernel⟩, List.mem_of_getElem? (i := 1044) (by decide +kernel), List.mem_of_getElem? (i := 1343) (by decide +kernel), List.mem_of_getElem? (i := 1344) (by decide +kernel)⟩
theorem lw_p20 : lw_okq (⟨"BookgrafterModel", "laid", "(I)I"⟩, 11) := ⟨⟨by decide +kernel, by decide +kernel⟩, List.mem_of_getElem? (i := 1044) (by decide +kernel), List.mem_of_getElem? (i := 1362) (by decide +kernel), List.mem_of_getElem? (i := 1363) (by decide +kernel)⟩
def lw_privs_2 : List (MethodName × Nat) := [(⟨"BookgrafterModel", "seen", "(I)I"⟩, 11), (⟨"BookgrafterModel", "isWithin", "(II)Z"⟩, 11), (⟨"BookgrafterModel", "sum", "(I)I"⟩, 11), (⟨"BookgrafterModel", "isGoing", "()Z"⟩, 11), (⟨"BookgrafterModel", "laid", "(I)I"⟩, 11)]
theorem lw_r2 : ∀ q ∈ lw_privs_2, lw_okq q := List.forall_mem_cons.mpr ⟨lw_p16, List.forall_mem_cons.mpr ⟨lw_p17, List.forall_mem_cons.mpr ⟨lw_p18, List.forall_mem_cons.mpr ⟨lw_p19, List.forall_mem_cons.mpr ⟨lw_p20, fun _ h => absurd h List.not_mem_nil⟩⟩⟩⟩⟩
def lw_privs : List (MethodName × Nat) := lw_privs_1 ++ (lw_privs_2)
def lw_tbl : List Cond := k2_sels lw_privs ++ tables_1
theorem lw_privs_ok : ∀ q ∈ lw_privs, lw_okq q := by
  show ∀ q ∈ lw_privs_1 ++ (lw_privs_2), lw_okq q
  exact List.forall_mem_append.mpr ⟨lw_r1, lw_r2⟩
def Tt : List Cond := lw_tbl.filter goodWord
theorem inT0 {w : Cond} {i : Nat} (h : (k2_sels lw_privs)[i]? = some w) (g : goodWord w = true) : w ∈ Tt := List.mem_filter.mpr ⟨List.mem_append_left _ (List.mem_of_getElem? h), g⟩
theorem inT1 {w : Cond} {i : Nat} (h : tables_1_1[i]? = some w) (g : goodWord w = true) : w ∈ Tt := List.mem_filter.mpr ⟨List.mem_append_right _ (List.mem_append_left _ (List.mem_of_getElem? h)), g⟩
theorem inT2 {w : Cond} {i : Nat} (h : tables_1_2[i]? = some w) (g : goodWord w = true) : w ∈ Tt := List.mem_filter.mpr ⟨List.mem_append_right _ (List.mem_append_right _ (List.mem_append_left _ (List.mem_of_getElem? h))), g⟩
theorem inT3 {w : Cond} {i : Nat} (h : tables_1_3[i]? = some w) (g : goodWord w = true) : w ∈ Tt := List.mem_filter.mpr ⟨List.mem_append_right _ (List.mem_append_right _ (List.mem_append_right _ (List.mem_append_left _ (List.mem_of_getElem? h)))), g⟩
theorem inT4 {w : Cond} {i : Nat} (h : tables_1_4[i]? = some w) (g : goodWord w = true) : w ∈ Tt := List.mem_filter.mpr ⟨List.mem_append_right _ (List.mem_append_right _ (List.mem_append_right _ (List.mem_append_right _ (List.mem_append_left _ (List.mem_of_getElem? h))))), g⟩
theorem inT5 {w : Cond} {i : Nat} (h : tables_1_5[i]? = some w) (g : goodWord w = true) : w ∈ Tt := List.mem_filter.mpr ⟨List.mem_append_right _ (List.mem_append_right _ (List.mem_append_right _ (List.mem_append_right _ (List.mem_append_right _ (List.mem_append_left _ (List.mem_of_getElem? h)))))), g⟩
theorem inT6 {w : Cond} {i : Nat} (h : tables_1_6[i]? = some w) (g : goodWord w = true) : w ∈ Tt := List.mem_filter.mpr ⟨List.mem_append_right _ (List.mem_append_right _ (List.mem_append_right _ (List.mem_append_right _ (List.mem_append_right _ (List.mem_append_right _ (List.mem_of_getElem? h)))))), g⟩
def RX0 : String := "Bookgrafter$Row"
def TX0 : u_T := fun k => match k with
  | 0 => ("Bookgrafter$Row", "order", "I", true)
  | 1 => ("Bookgrafter$Row", "worths", "[I", true)
  | 2 => ("Bookgrafter$Row", "count", "I", false)
  | _ => ("Bookgrafter$Row", "changes", "I", false)
def tyX0 : Nat → FieldType := fun k => match k with
  | 0 => .int
  | 1 => .array .int
  | 2 => .int
  | _ => .int
abbrev wsX00 : List Cond := u_ws RX0 TX0 4
theorem nmX0 : ∀ a, a < 4 → ∀ b, b < 4 → a ≠ b → (TX0 a).2.1 ≠ (TX0 b).2.1 := by decide +kernel
theorem tyX0_ok : ∀ k, k < 4 → parseFieldDescriptor (TX0 k).2.2.1 = some (tyX0 k) := by decide +kernel
abbrev cX0_init : ByteArray := prog_2_method_1_code
def yX0_init : MethodName := ⟨RX0, "<init>", "(I)V"⟩
abbrev cX0_turned : ByteArray := prog_2_method_2_code
def yX0_turned : MethodName := ⟨RX0, "turned", "(I)I"⟩
abbrev cX0_rankOf : ByteArray := prog_2_method_3_code
def yX0_rankOf : MethodName := ⟨RX0, "rankOf", "(I)I"⟩
abbrev cX0_keyOf : ByteArray := prog_2_method_4_code
def yX0_keyOf : MethodName := ⟨RX0, "keyOf", "(I)I"⟩
abbrev cX0_isAhead : ByteArray := prog_2_method_5_code
def yX0_isAhead : MethodName := ⟨RX0, "isAhead", "(II)Z"⟩
abbrev cX0_worthAt : ByteArray := prog_2_method_6_code
def yX0_worthAt : MethodName := ⟨RX0, "worthAt", "(I)I"⟩
abbrev cX0_isThere : ByteArray := prog_2_method_7_code
def yX0_isThere : MethodName := ⟨RX0, "isThere", "(I)Z"⟩
abbrev cX0_pairAt : ByteArray := prog_2_method_8_code
def yX0_pairAt : MethodName := ⟨RX0, "pairAt", "(I)I"⟩
abbrev cX0_come : ByteArray := prog_2_method_9_code
def yX0_come : MethodName := ⟨RX0, "come", "(II)I"⟩
abbrev cX0_go : ByteArray := prog_2_method_10_code
def yX0_go : MethodName := ⟨RX0, "go", "(I)I"⟩
abbrev cX0_firstInPart : ByteArray := prog_2_method_11_code
def yX0_firstInPart : MethodName := ⟨RX0, "firstInPart", "(II)I"⟩
abbrev cX0_lastInPart : ByteArray := prog_2_method_12_code
def yX0_lastInPart : MethodName := ⟨RX0, "lastInPart", "(II)I"⟩
abbrev cX0_endOfPart : ByteArray := prog_2_method_13_code
def yX0_endOfPart : MethodName := ⟨RX0, "endOfPart", "(IIZ)I"⟩
abbrev cX0_nearInPart : ByteArray := prog_2_method_14_code
def yX0_nearInPart : MethodName := ⟨RX0, "nearInPart", "(IIII)I"⟩
abbrev cX0_rankBehind : ByteArray := prog_2_method_15_code
def yX0_rankBehind : MethodName := ⟨RX0, "rankBehind", "(I)I"⟩
abbrev cX0_countOfPart : ByteArray := prog_2_method_16_code
def yX0_countOfPart : MethodName := ⟨RX0, "countOfPart", "(II)I"⟩
abbrev cX0_worthsOfPart : ByteArray := prog_2_method_17_code
def yX0_worthsOfPart : MethodName := ⟨RX0, "worthsOfPart", "(II)I"⟩
abbrev cX0_sumOfKeys : ByteArray := prog_2_method_18_code
def yX0_sumOfKeys : MethodName := ⟨RX0, "sumOfKeys", "()I"⟩
abbrev cX0_hash : ByteArray := prog_2_method_19_code
def yX0_hash : MethodName := ⟨RX0, "hash", "()I"⟩
abbrev cX0_hasWorth : ByteArray := prog_2_method_20_code
def yX0_hasWorth : MethodName := ⟨RX0, "hasWorth", "(I)Z"⟩
abbrev cX0_hasKeysOf : ByteArray := prog_2_method_21_code
def yX0_hasKeysOf : MethodName := ⟨RX0, "hasKeysOf", "(LBookgrafter$Row;)Z"⟩
abbrev cX0_isSameAs : ByteArray := prog_2_method_22_code
def yX0_isSameAs : MethodName := ⟨RX0, "isSameAs", "(LBookgrafter$Row;)Z"⟩
abbrev cX0_copyOfPart : ByteArray := prog_2_method_23_code
def yX0_copyOfPart : MethodName := ⟨RX0, "copyOfPart", "(III)LBookgrafter$Row;"⟩
abbrev cX0_copyOfKeys : ByteArray := prog_2_method_24_code
def yX0_copyOfKeys : MethodName := ⟨RX0, "copyOfKeys", "()LBookgrafter$Row;"⟩
abbrev cX0_addPart : ByteArray := prog_2_method_25_code
def yX0_addPart : MethodName := ⟨RX0, "addPart", "(LBookgrafter$Row;II)I"⟩
abbrev cX0_addSteps : ByteArray := prog_2_method_26_code
def yX0_addSteps : MethodName := ⟨RX0, "addSteps", "(IIII)I"⟩
abbrev cX0_addKeySteps : ByteArray := prog_2_method_27_code
def yX0_addKeySteps : MethodName := ⟨RX0, "addKeySteps", "(III)I"⟩
abbrev cX0_removeSteps : ByteArray := prog_2_method_28_code
def yX0_removeSteps : MethodName := ⟨RX0, "removeSteps", "(III)I"⟩
abbrev cX0_retain : ByteArray := prog_2_method_29_code
def yX0_retain : MethodName := ⟨RX0, "retain", "(LBookgrafter$Row;Z)I"⟩
abbrev cX0_clearPart : ByteArray := prog_2_method_30_code
def yX0_clearPart : MethodName := ⟨RX0, "clearPart", "(II)I"⟩
abbrev cX0_dropOfPart : ByteArray := prog_2_method_31_code
def yX0_dropOfPart : MethodName := ⟨RX0, "dropOfPart", "(III)I"⟩
abbrev cX0_dropKeyOfPart : ByteArray := prog_2_method_32_code
def yX0_dropKeyOfPart : MethodName := ⟨RX0, "dropKeyOfPart", "(IIZ)I"⟩
def RX1 : String := "Bookgrafter$View"
def TX1 : u_T := fun k => match k with
  | 0 => ("Bookgrafter$View", "row", "LBookgrafter$Row;", false)
  | 1 => ("Bookgrafter$View", "low", "I", false)
  | _ => ("Bookgrafter$View", "high", "I", false)
def tyX1 : Nat → FieldType := fun k => match k with
  | 0 => .object "Bookgrafter$Row"
  | 1 => .int
  | _ => .int
abbrev wsX10 : List Cond := u_ws RX1 TX1 3
theorem nmX1 : ∀ a, a < 3 → ∀ b, b < 3 → a ≠ b → (TX1 a).2.1 ≠ (TX1 b).2.1 := by decide +kernel
theorem tyX1_ok : ∀ k, k < 3 → parseFieldDescriptor (TX1 k).2.2.1 = some (tyX1 k) := by decide +kernel
abbrev cX1_init : ByteArray := prog_3_method_1_code
def yX1_init : MethodName := ⟨RX1, "<init>", "(LBookgrafter$Row;)V"⟩
abbrev cX1_isWithin : ByteArray := prog_3_method_2_code
def yX1_isWithin : MethodName := ⟨RX1, "isWithin", "(I)Z"⟩
def RX2 : String := "Bookgrafter$Walk"
def TX2 : u_T := fun k => match k with
  | 0 => ("Bookgrafter$Walk", "row", "LBookgrafter$Row;", false)
  | 1 => ("Bookgrafter$Walk", "knownChanges", "I", false)
  | 2 => ("Bookgrafter$Walk", "lastRank", "I", false)
  | _ => ("Bookgrafter$Walk", "isLastTold", "Z", false)
def tyX2 : Nat → FieldType := fun k => match k with
  | 0 => .object "Bookgrafter$Row"
  | 1 => .int
  | 2 => .int
  | _ => .boolean
abbrev wsX20 : List Cond := u_ws RX2 TX2 4
theorem nmX2 : ∀ a, a < 4 → ∀ b, b < 4 → a ≠ b → (TX2 a).2.1 ≠ (TX2 b).2.1 := by decide +kernel
theorem tyX2_ok : ∀ k, k < 4 → parseFieldDescriptor (TX2 k).2.2.1 = some (tyX2 k) := by decide +kernel
abbrev cX2_init : ByteArray := prog_4_method_1_code
def yX2_init : MethodName := ⟨RX2, "<init>", "()V"⟩
abbrev cX2_begin : ByteArray := prog_4_method_2_code
def yX2_begin : MethodName := ⟨RX2, "begin", "(LBookgrafter$Row;)V"⟩
abbrev cX2_isGoing : ByteArray := prog_4_method_3_code
def yX2_isGoing : MethodName := ⟨RX2, "isGoing", "()Z"⟩
abbrev cX2_isTelling : ByteArray := prog_4_method_4_code
def yX2_isTelling : MethodName := ⟨RX2, "isTelling", "()Z"⟩
abbrev cX2_forgetIfOn : ByteArray := prog_4_method_5_code
def yX2_forgetIfOn : MethodName := ⟨RX2, "forgetIfOn", "(LBookgrafter$Row;)V"⟩
abbrev cX2_tellNext : ByteArray := prog_4_method_6_code
def yX2_tellNext : MethodName := ⟨RX2, "tellNext", "()I"⟩
abbrev cX2_setTold : ByteArray := prog_4_method_7_code
def yX2_setTold : MethodName := ⟨RX2, "setTold", "(I)I"⟩
abbrev cX2_removeTold : ByteArray := prog_4_method_8_code
def yX2_removeTold : MethodName := ⟨RX2, "removeTold", "()I"⟩
abbrev cX2_toldKey : ByteArray := prog_4_method_9_code
def yX2_toldKey : MethodName := ⟨RX2, "toldKey", "()I"⟩
def RX3 : String := "Bookgrafter"
def TX3 : u_T := fun k => match k with
  | 0 => ("Bookgrafter", "books", "[LBookgrafter$Row;", true)
  | 1 => ("Bookgrafter", "shelves", "[LBookgrafter$Row;", true)
  | 2 => ("Bookgrafter", "views", "[LBookgrafter$View;", true)
  | 3 => ("Bookgrafter", "walk", "LBookgrafter$Walk;", true)
  | 4 => ("Bookgrafter", "bookActs", "I", false)
  | 5 => ("Bookgrafter", "shelfActs", "I", false)
  | 6 => ("Bookgrafter", "refusals", "I", false)
  | _ => ("Bookgrafter", "knocks", "I", false)
def tyX3 : Nat → FieldType := fun k => match k with
  | 0 => .array (.object "Bookgrafter$Row")
  | 1 => .array (.object "Bookgrafter$Row")
  | 2 => .array (.object "Bookgrafter$View")
  | 3 => .object "Bookgrafter$Walk"
  | 4 => .int
  | 5 => .int
  | 6 => .int
  | _ => .int
abbrev wsX30 : List Cond := u_ws RX3 TX3 8
theorem nmX3 : ∀ a, a < 8 → ∀ b, b < 8 → a ≠ b → (TX3 a).2.1 ≠ (TX3 b).2.1 := by decide +kernel
theorem tyX3_ok : ∀ k, k < 8 → parseFieldDescriptor (TX3 k).2.2.1 = some (tyX3 k) := by decide +kernel
abbrev cX3_init : ByteArray := prog_1_method_1_code
def yX3_init : MethodName := ⟨RX3, "<init>", "()V"⟩
abbrev cX3_freshBook : ByteArray := prog_1_method_2_code
def yX3_freshBook : MethodName := ⟨RX3, "freshBook", "(II)I"⟩
abbrev cX3_buildBook : ByteArray := prog_1_method_3_code
def yX3_buildBook : MethodName := ⟨RX3, "buildBook", "(III)I"⟩
abbrev cX3_splitBook : ByteArray := prog_1_method_4_code
def yX3_splitBook : MethodName := ⟨RX3, "splitBook", "(III)I"⟩
abbrev cX3_fill : ByteArray := prog_1_method_5_code
def yX3_fill : MethodName := ⟨RX3, "fill", "(IIIII)I"⟩
abbrev cX3_pour : ByteArray := prog_1_method_6_code
def yX3_pour : MethodName := ⟨RX3, "pour", "(II)I"⟩
abbrev cX3_keep : ByteArray := prog_1_method_7_code
def yX3_keep : MethodName := ⟨RX3, "keep", "(IIZ)I"⟩
abbrev cX3_put : ByteArray := prog_1_method_8_code
def yX3_put : MethodName := ⟨RX3, "put", "(IIII)I"⟩
abbrev cX3_exchange : ByteArray := prog_1_method_9_code
def yX3_exchange : MethodName := ⟨RX3, "exchange", "(IIII)I"⟩
abbrev cX3_take : ByteArray := prog_1_method_10_code
def yX3_take : MethodName := ⟨RX3, "take", "(II)I"⟩
abbrev cX3_drop : ByteArray := prog_1_method_11_code
def yX3_drop : MethodName := ⟨RX3, "drop", "(II)I"⟩
abbrev cX3_has : ByteArray := prog_1_method_12_code
def yX3_has : MethodName := ⟨RX3, "has", "(IZI)Z"⟩
abbrev cX3_near : ByteArray := prog_1_method_13_code
def yX3_near : MethodName := ⟨RX3, "near", "(IIIZ)I"⟩
abbrev cX3_end : ByteArray := prog_1_method_14_code
def yX3_end : MethodName := ⟨RX3, "end", "(IZZ)I"⟩
abbrev cX3_keyAt : ByteArray := prog_1_method_15_code
def yX3_keyAt : MethodName := ⟨RX3, "keyAt", "(IIZ)I"⟩
abbrev cX3_tellBook : ByteArray := prog_1_method_16_code
def yX3_tellBook : MethodName := ⟨RX3, "tellBook", "(II)I"⟩
abbrev cX3_bookText : ByteArray := prog_1_method_17_code
def yX3_bookText : MethodName := ⟨RX3, "bookText", "(I)Ljava/lang/String;"⟩
abbrev cX3_sameBooks : ByteArray := prog_1_method_18_code
def yX3_sameBooks : MethodName := ⟨RX3, "sameBooks", "(II)Z"⟩
abbrev cX3_openView : ByteArray := prog_1_method_19_code
def yX3_openView : MethodName := ⟨RX3, "openView", "(IIIIII)I"⟩
abbrev cX3_narrowView : ByteArray := prog_1_method_20_code
def yX3_narrowView : MethodName := ⟨RX3, "narrowView", "(IIII)I"⟩
abbrev cX3_buildFromView : ByteArray := prog_1_method_21_code
def yX3_buildFromView : MethodName := ⟨RX3, "buildFromView", "(III)I"⟩
abbrev cX3_viewPut : ByteArray := prog_1_method_22_code
def yX3_viewPut : MethodName := ⟨RX3, "viewPut", "(III)I"⟩
abbrev cX3_viewTake : ByteArray := prog_1_method_23_code
def yX3_viewTake : MethodName := ⟨RX3, "viewTake", "(II)I"⟩
abbrev cX3_viewDrop : ByteArray := prog_1_method_24_code
def yX3_viewDrop : MethodName := ⟨RX3, "viewDrop", "(II)I"⟩
abbrev cX3_viewNear : ByteArray := prog_1_method_25_code
def yX3_viewNear : MethodName := ⟨RX3, "viewNear", "(III)I"⟩
abbrev cX3_viewTell : ByteArray := prog_1_method_26_code
def yX3_viewTell : MethodName := ⟨RX3, "viewTell", "(II)I"⟩
abbrev cX3_startWalk : ByteArray := prog_1_method_27_code
def yX3_startWalk : MethodName := ⟨RX3, "startWalk", "(I)I"⟩
abbrev cX3_walkNext : ByteArray := prog_1_method_28_code
def yX3_walkNext : MethodName := ⟨RX3, "walkNext", "()I"⟩
abbrev cX3_walkSet : ByteArray := prog_1_method_29_code
def yX3_walkSet : MethodName := ⟨RX3, "walkSet", "(I)I"⟩
abbrev cX3_walkTake : ByteArray := prog_1_method_30_code
def yX3_walkTake : MethodName := ⟨RX3, "walkTake", "()I"⟩
abbrev cX3_freshShelf : ByteArray := prog_1_method_31_code
def yX3_freshShelf : MethodName := ⟨RX3, "freshShelf", "(II)I"⟩
abbrev cX3_buildShelf : ByteArray := prog_1_method_32_code
def yX3_buildShelf : MethodName := ⟨RX3, "buildShelf", "(III)I"⟩
abbrev cX3_keysOf : ByteArray := prog_1_method_33_code
def yX3_keysOf : MethodName := ⟨RX3, "keysOf", "(II)I"⟩
abbrev cX3_lay : ByteArray := prog_1_method_34_code
def yX3_lay : MethodName := ⟨RX3, "lay", "(IIIIZ)I"⟩
abbrev cX3_shelfBoth : ByteArray := prog_1_method_35_code
def yX3_shelfBoth : MethodName := ⟨RX3, "shelfBoth", "(III)I"⟩
abbrev cX3_shelfDrop : ByteArray := prog_1_method_36_code
def yX3_shelfDrop : MethodName := ⟨RX3, "shelfDrop", "(II)I"⟩
abbrev cX3_shelfCut : ByteArray := prog_1_method_37_code
def yX3_shelfCut : MethodName := ⟨RX3, "shelfCut", "(IIIII)I"⟩
abbrev cX3_shelfNear : ByteArray := prog_1_method_38_code
def yX3_shelfNear : MethodName := ⟨RX3, "shelfNear", "(III)I"⟩
abbrev cX3_shelfTell : ByteArray := prog_1_method_39_code
def yX3_shelfTell : MethodName := ⟨RX3, "shelfTell", "(II)I"⟩
abbrev cX3_sameShelves : ByteArray := prog_1_method_40_code
def yX3_sameShelves : MethodName := ⟨RX3, "sameShelves", "(III)Z"⟩
abbrev cX3_house : ByteArray := prog_1_method_41_code
def yX3_house : MethodName := ⟨RX3, "house", "(I)I"⟩
abbrev cX3_knock : ByteArray := prog_1_method_42_code
def yX3_knock : MethodName := ⟨RX3, "knock", "()I"⟩
abbrev cX3_isSound : ByteArray := prog_1_method_43_code
def yX3_isSound : MethodName := ⟨RX3, "isSound", "()Z"⟩
abbrev cX3_digest : ByteArray := prog_1_method_44_code
def yX3_digest : MethodName := ⟨RX3, "digest", "()J"⟩
abbrev cX3_bookAt : ByteArray := prog_1_method_45_code
def yX3_bookAt : MethodName := ⟨RX3, "bookAt", "(I)LBookgrafter$Row;"⟩
abbrev cX3_shelfAt : ByteArray := prog_1_method_46_code
def yX3_shelfAt : MethodName := ⟨RX3, "shelfAt", "(I)LBookgrafter$Row;"⟩
abbrev cX3_viewAt : ByteArray := prog_1_method_47_code
def yX3_viewAt : MethodName := ⟨RX3, "viewAt", "(I)LBookgrafter$View;"⟩
abbrev cX3_checkUpTo : ByteArray := prog_1_method_48_code
def yX3_checkUpTo : MethodName := ⟨RX3, "checkUpTo", "(II)V"⟩
abbrev cX3_checkKey : ByteArray := prog_1_method_49_code
def yX3_checkKey : MethodName := ⟨RX3, "checkKey", "(I)V"⟩
abbrev cX3_checkWorth : ByteArray := prog_1_method_50_code
def yX3_checkWorth : MethodName := ⟨RX3, "checkWorth", "(I)V"⟩
abbrev cX3_checkWorthOrNone : ByteArray := prog_1_method_51_code
def yX3_checkWorthOrNone : MethodName := ⟨RX3, "checkWorthOrNone", "(I)V"⟩
abbrev cX3_checkSteps : ByteArray := prog_1_method_52_code
def yX3_checkSteps : MethodName := ⟨RX3, "checkSteps", "(III)V"⟩
abbrev cX3_checkKindAndBounds : ByteArray := prog_1_method_53_code
def yX3_checkKindAndBounds : MethodName := ⟨RX3, "checkKindAndBounds", "(III)V"⟩
abbrev cX3_refuse : ByteArray := prog_1_method_54_code
def yX3_refuse : MethodName := ⟨RX3, "refuse", "()I"⟩
abbrev cX3_keyOrRefuse : ByteArray := prog_1_method_55_code
def yX3_keyOrRefuse : MethodName := ⟨RX3, "keyOrRefuse", "(LBookgrafter$Row;I)I"⟩
abbrev cX3_write : ByteArray := prog_1_method_56_code
def yX3_write : MethodName := ⟨RX3, "write", "(LBookgrafter$Row;)V"⟩
abbrev cX3_builtOrder : ByteArray := prog_1_method_57_code
def yX3_builtOrder : MethodName := ⟨RX3, "builtOrder", "(LBookgrafter$Row;I)I"⟩
abbrev cX3_bookFact : ByteArray := prog_1_method_58_code
def yX3_bookFact : MethodName := ⟨RX3, "bookFact", "(LBookgrafter$Row;I)I"⟩
abbrev cX3_shelfFact : ByteArray := prog_1_method_59_code
def yX3_shelfFact : MethodName := ⟨RX3, "shelfFact", "(LBookgrafter$Row;I)I"⟩
abbrev cX3_houseFact : ByteArray := prog_1_method_60_code
def yX3_houseFact : MethodName := ⟨RX3, "houseFact", "(I)I"⟩
abbrev cX3_isRowSound : ByteArray := prog_1_method_61_code
def yX3_isRowSound : MethodName := ⟨RX3, "isRowSound", "(LBookgrafter$Row;)Z"⟩
abbrev cX3_isViewSound : ByteArray := prog_1_method_62_code
def yX3_isViewSound : MethodName := ⟨RX3, "isViewSound", "(LBookgrafter$View;)Z"⟩
abbrev cX3_isToldInOrder : ByteArray := prog_1_method_63_code
def yX3_isToldInOrder : MethodName := ⟨RX3, "isToldInOrder", "(LBookgrafter$Row;III)Z"⟩
abbrev cX3_isToldBackwards : ByteArray := prog_1_method_64_code
def yX3_isToldBackwards : MethodName := ⟨RX3, "isToldBackwards", "(LBookgrafter$Row;)Z"⟩
abbrev cX3_areNeighboursFound : ByteArray := prog_1_method_65_code
def yX3_areNeighboursFound : MethodName := ⟨RX3, "areNeighboursFound", "(LBookgrafter$Row;)Z"⟩
abbrev cX3_mixed : ByteArray := prog_1_method_66_code
def yX3_mixed : MethodName := ⟨RX3, "mixed", "(JI)J"⟩
abbrev cX3_digestBook : ByteArray := prog_1_method_67_code
def yX3_digestBook : MethodName := ⟨RX3, "digestBook", "(JLBookgrafter$Row;)J"⟩
abbrev cX3_digestView : ByteArray := prog_1_method_68_code
def yX3_digestView : MethodName := ⟨RX3, "digestView", "(JLBookgrafter$View;)J"⟩
abbrev cX3_digestShelf : ByteArray := prog_1_method_69_code
def yX3_digestShelf : MethodName := ⟨RX3, "digestShelf", "(JLBookgrafter$Row;)J"⟩
def RX4 : String := "BookgrafterLaw$Out"
def TX4 : u_T := fun k => match k with
  | 0 => ("BookgrafterLaw$Out", "n", "J", false)
  | _ => ("BookgrafterLaw$Out", "s", "Ljava/lang/String;", false)
def tyX4 : Nat → FieldType := fun k => match k with
  | 0 => .long
  | _ => .object "java/lang/String"
abbrev wsX40 : List Cond := u_ws RX4 TX4 2
theorem nmX4 : ∀ a, a < 2 → ∀ b, b < 2 → a ≠ b → (TX4 a).2.1 ≠ (TX4 b).2.1 := by decide +kernel
theorem tyX4_ok : ∀ k, k < 2 → parseFieldDescriptor (TX4 k).2.2.1 = some (tyX4 k) := by decide +kernel
abbrev cX4_init : ByteArray := prog_6_method_1_code
def yX4_init : MethodName := ⟨RX4, "<init>", "()V"⟩
def RX5 : String := "BookgrafterModel$Book"
def TX5 : u_T := fun k => match k with
  | 0 => ("BookgrafterModel$Book", "order", "I", true)
  | _ => ("BookgrafterModel$Book", "worths", "[I", true)
def tyX5 : Nat → FieldType := fun k => match k with
  | 0 => .int
  | _ => .array .int
abbrev wsX50 : List Cond := u_ws RX5 TX5 2
theorem nmX5 : ∀ a, a < 2 → ∀ b, b < 2 → a ≠ b → (TX5 a).2.1 ≠ (TX5 b).2.1 := by decide +kernel
theorem tyX5_ok : ∀ k, k < 2 → parseFieldDescriptor (TX5 k).2.2.1 = some (tyX5 k) := by decide +kernel
abbrev cX5_init : ByteArray := prog_8_method_1_code
def yX5_init : MethodName := ⟨RX5, "<init>", "(I)V"⟩
abbrev cX5_rank : ByteArray := prog_8_method_2_code
def yX5_rank : MethodName := ⟨RX5, "rank", "(I)I"⟩
abbrev cX5_key : ByteArray := prog_8_method_3_code
def yX5_key : MethodName := ⟨RX5, "key", "(I)I"⟩
abbrev cX5_has : ByteArray := prog_8_method_4_code
def yX5_has : MethodName := ⟨RX5, "has", "(I)Z"⟩
abbrev cX5_pair : ByteArray := prog_8_method_5_code
def yX5_pair : MethodName := ⟨RX5, "pair", "(I)I"⟩
abbrev cX5_many : ByteArray := prog_8_method_6_code
def yX5_many : MethodName := ⟨RX5, "many", "(II)I"⟩
abbrev cX5_first : ByteArray := prog_8_method_7_code
def yX5_first : MethodName := ⟨RX5, "first", "(II)I"⟩
abbrev cX5_last : ByteArray := prog_8_method_8_code
def yX5_last : MethodName := ⟨RX5, "last", "(II)I"⟩
abbrev cX5_near : ByteArray := prog_8_method_9_code
def yX5_near : MethodName := ⟨RX5, "near", "(IIII)I"⟩
abbrev cX5_like : ByteArray := prog_8_method_10_code
def yX5_like : MethodName := ⟨RX5, "like", "(III)LBookgrafterModel$Book;"⟩
def RX6 : String := "BookgrafterModel"
def TX6 : u_T := fun k => match k with
  | 0 => ("BookgrafterModel", "books", "[LBookgrafterModel$Book;", true)
  | 1 => ("BookgrafterModel", "shelves", "[LBookgrafterModel$Book;", true)
  | 2 => ("BookgrafterModel", "viewed", "[LBookgrafterModel$Book;", true)
  | 3 => ("BookgrafterModel", "from", "[I", true)
  | 4 => ("BookgrafterModel", "to", "[I", true)
  | 5 => ("BookgrafterModel", "walked", "LBookgrafterModel$Book;", false)
  | 6 => ("BookgrafterModel", "isBroken", "Z", false)
  | 7 => ("BookgrafterModel", "told", "I", false)
  | 8 => ("BookgrafterModel", "behind", "I", false)
  | 9 => ("BookgrafterModel", "counts", "[I", true)
  | _ => ("BookgrafterModel", "thrown", "I", false)
def tyX6 : Nat → FieldType := fun k => match k with
  | 0 => .array (.object "BookgrafterModel$Book")
  | 1 => .array (.object "BookgrafterModel$Book")
  | 2 => .array (.object "BookgrafterModel$Book")
  | 3 => .array .int
  | 4 => .array .int
  | 5 => .object "BookgrafterModel$Book"
  | 6 => .boolean
  | 7 => .int
  | 8 => .int
  | 9 => .array .int
  | _ => .int
abbrev wsX60 : List Cond := u_ws RX6 TX6 11
theorem nmX6 : ∀ a, a < 11 → ∀ b, b < 11 → a ≠ b → (TX6 a).2.1 ≠ (TX6 b).2.1 := by decide +kernel
theorem tyX6_ok : ∀ k, k < 11 → parseFieldDescriptor (TX6 k).2.2.1 = some (tyX6 k) := by decide +kernel
abbrev cX6_init : ByteArray := prog_7_method_1_code
def yX6_init : MethodName := ⟨RX6, "<init>", "()V"⟩
abbrev cX6_thrown : ByteArray := prog_7_method_2_code
def yX6_thrown : MethodName := ⟨RX6, "thrown", "()I"⟩
abbrev cX6_isIn : ByteArray := prog_7_method_3_code
def yX6_isIn : MethodName := ⟨RX6, "isIn", "(III)Z"⟩
abbrev cX6_isKey : ByteArray := prog_7_method_4_code
def yX6_isKey : MethodName := ⟨RX6, "isKey", "(I)Z"⟩
abbrev cX6_isBook : ByteArray := prog_7_method_5_code
def yX6_isBook : MethodName := ⟨RX6, "isBook", "(I)Z"⟩
abbrev cX6_isView : ByteArray := prog_7_method_6_code
def yX6_isView : MethodName := ⟨RX6, "isView", "(I)Z"⟩
abbrev cX6_isShelf : ByteArray := prog_7_method_7_code
def yX6_isShelf : MethodName := ⟨RX6, "isShelf", "(I)Z"⟩
abbrev cX6_isLet : ByteArray := prog_7_method_8_code
def yX6_isLet : MethodName := ⟨RX6, "isLet", "(ZZ)Z"⟩
abbrev cX6_did : ByteArray := prog_7_method_9_code
def yX6_did : MethodName := ⟨RX6, "did", "(I)I"⟩
abbrev cX6_laid : ByteArray := prog_7_method_10_code
def yX6_laid : MethodName := ⟨RX6, "laid", "(I)I"⟩
abbrev cX6_refuse : ByteArray := prog_7_method_11_code
def yX6_refuse : MethodName := ⟨RX6, "refuse", "()I"⟩
abbrev cX6_write : ByteArray := prog_7_method_12_code
def yX6_write : MethodName := ⟨RX6, "write", "(LBookgrafterModel$Book;)V"⟩
abbrev cX6_set : ByteArray := prog_7_method_13_code
def yX6_set : MethodName := ⟨RX6, "set", "(LBookgrafterModel$Book;II)I"⟩
abbrev cX6_freshBook : ByteArray := prog_7_method_14_code
def yX6_freshBook : MethodName := ⟨RX6, "freshBook", "(II)I"⟩
abbrev cX6_built : ByteArray := prog_7_method_15_code
def yX6_built : MethodName := ⟨RX6, "built", "(LBookgrafterModel$Book;I)LBookgrafterModel$Book;"⟩
abbrev cX6_buildBook : ByteArray := prog_7_method_16_code
def yX6_buildBook : MethodName := ⟨RX6, "buildBook", "(III)I"⟩
abbrev cX6_splitBook : ByteArray := prog_7_method_17_code
def yX6_splitBook : MethodName := ⟨RX6, "splitBook", "(III)I"⟩
abbrev cX6_fill : ByteArray := prog_7_method_18_code
def yX6_fill : MethodName := ⟨RX6, "fill", "(IIIII)I"⟩
abbrev cX6_pour : ByteArray := prog_7_method_19_code
def yX6_pour : MethodName := ⟨RX6, "pour", "(II)I"⟩
abbrev cX6_keep : ByteArray := prog_7_method_20_code
def yX6_keep : MethodName := ⟨RX6, "keep", "(IIZ)I"⟩
abbrev cX6_change : ByteArray := prog_7_method_21_code
def yX6_change : MethodName := ⟨RX6, "change", "(LBookgrafterModel$Book;IZI)I"⟩
abbrev cX6_put : ByteArray := prog_7_method_22_code
def yX6_put : MethodName := ⟨RX6, "put", "(IIII)I"⟩
abbrev cX6_exchange : ByteArray := prog_7_method_23_code
def yX6_exchange : MethodName := ⟨RX6, "exchange", "(IIII)I"⟩
abbrev cX6_take : ByteArray := prog_7_method_24_code
def yX6_take : MethodName := ⟨RX6, "take", "(II)I"⟩
abbrev cX6_dropped : ByteArray := prog_7_method_25_code
def yX6_dropped : MethodName := ⟨RX6, "dropped", "(LBookgrafterModel$Book;III)I"⟩
abbrev cX6_drop : ByteArray := prog_7_method_26_code
def yX6_drop : MethodName := ⟨RX6, "drop", "(II)I"⟩
abbrev cX6_has : ByteArray := prog_7_method_27_code
def yX6_has : MethodName := ⟨RX6, "has", "(IZI)Z"⟩
abbrev cX6_told : ByteArray := prog_7_method_28_code
def yX6_told : MethodName := ⟨RX6, "told", "(LBookgrafterModel$Book;IZ)I"⟩
abbrev cX6_near : ByteArray := prog_7_method_29_code
def yX6_near : MethodName := ⟨RX6, "near", "(IIIZ)I"⟩
abbrev cX6_end : ByteArray := prog_7_method_30_code
def yX6_end : MethodName := ⟨RX6, "end", "(IZZ)I"⟩
abbrev cX6_keyAt : ByteArray := prog_7_method_31_code
def yX6_keyAt : MethodName := ⟨RX6, "keyAt", "(IIZ)I"⟩
abbrev cX6_hash : ByteArray := prog_7_method_32_code
def yX6_hash : MethodName := ⟨RX6, "hash", "(LBookgrafterModel$Book;)I"⟩
abbrev cX6_tellBook : ByteArray := prog_7_method_33_code
def yX6_tellBook : MethodName := ⟨RX6, "tellBook", "(II)I"⟩
abbrev cX6_bookText : ByteArray := prog_7_method_34_code
def yX6_bookText : MethodName := ⟨RX6, "bookText", "(I)Ljava/lang/String;"⟩
abbrev cX6_same : ByteArray := prog_7_method_35_code
def yX6_same : MethodName := ⟨RX6, "same", "(LBookgrafterModel$Book;LBookgrafterModel$Book;)Z"⟩
abbrev cX6_sameBooks : ByteArray := prog_7_method_36_code
def yX6_sameBooks : MethodName := ⟨RX6, "sameBooks", "(II)Z"⟩
abbrev cX6_seen : ByteArray := prog_7_method_37_code
def yX6_seen : MethodName := ⟨RX6, "seen", "(I)I"⟩
abbrev cX6_isWithin : ByteArray := prog_7_method_38_code
def yX6_isWithin : MethodName := ⟨RX6, "isWithin", "(II)Z"⟩
abbrev cX6_openView : ByteArray := prog_7_method_39_code
def yX6_openView : MethodName := ⟨RX6, "openView", "(IIIIII)I"⟩
abbrev cX6_narrowView : ByteArray := prog_7_method_40_code
def yX6_narrowView : MethodName := ⟨RX6, "narrowView", "(IIII)I"⟩
abbrev cX6_buildFromView : ByteArray := prog_7_method_41_code
def yX6_buildFromView : MethodName := ⟨RX6, "buildFromView", "(III)I"⟩
abbrev cX6_viewPut : ByteArray := prog_7_method_42_code
def yX6_viewPut : MethodName := ⟨RX6, "viewPut", "(III)I"⟩
abbrev cX6_viewTake : ByteArray := prog_7_method_43_code
def yX6_viewTake : MethodName := ⟨RX6, "viewTake", "(II)I"⟩
abbrev cX6_viewDrop : ByteArray := prog_7_method_44_code
def yX6_viewDrop : MethodName := ⟨RX6, "viewDrop", "(II)I"⟩
abbrev cX6_viewNear : ByteArray := prog_7_method_45_code
def yX6_viewNear : MethodName := ⟨RX6, "viewNear", "(III)I"⟩
abbrev cX6_sum : ByteArray := prog_7_method_46_code
def yX6_sum : MethodName := ⟨RX6, "sum", "(I)I"⟩
abbrev cX6_viewTell : ByteArray := prog_7_method_47_code
def yX6_viewTell : MethodName := ⟨RX6, "viewTell", "(II)I"⟩
abbrev cX6_isGoing : ByteArray := prog_7_method_48_code
def yX6_isGoing : MethodName := ⟨RX6, "isGoing", "()Z"⟩
abbrev cX6_startWalk : ByteArray := prog_7_method_49_code
def yX6_startWalk : MethodName := ⟨RX6, "startWalk", "(I)I"⟩
abbrev cX6_walkNext : ByteArray := prog_7_method_50_code
def yX6_walkNext : MethodName := ⟨RX6, "walkNext", "()I"⟩
abbrev cX6_walkSet : ByteArray := prog_7_method_51_code
def yX6_walkSet : MethodName := ⟨RX6, "walkSet", "(I)I"⟩
abbrev cX6_walkTake : ByteArray := prog_7_method_52_code
def yX6_walkTake : MethodName := ⟨RX6, "walkTake", "()I"⟩
abbrev cX6_freshShelf : ByteArray := prog_7_method_53_code
def yX6_freshShelf : MethodName := ⟨RX6, "freshShelf", "(II)I"⟩
abbrev cX6_buildShelf : ByteArray := prog_7_method_54_code
def yX6_buildShelf : MethodName := ⟨RX6, "buildShelf", "(III)I"⟩
abbrev cX6_keysOf : ByteArray := prog_7_method_55_code
def yX6_keysOf : MethodName := ⟨RX6, "keysOf", "(II)I"⟩
abbrev cX6_lay : ByteArray := prog_7_method_56_code
def yX6_lay : MethodName := ⟨RX6, "lay", "(IIIIZ)I"⟩
abbrev cX6_shelfBoth : ByteArray := prog_7_method_57_code
def yX6_shelfBoth : MethodName := ⟨RX6, "shelfBoth", "(III)I"⟩
abbrev cX6_key : ByteArray := prog_7_method_58_code
def yX6_key : MethodName := ⟨RX6, "key", "(I)I"⟩
abbrev cX6_shelfDrop : ByteArray := prog_7_method_59_code
def yX6_shelfDrop : MethodName := ⟨RX6, "shelfDrop", "(II)I"⟩
abbrev cX6_shelfCut : ByteArray := prog_7_method_60_code
def yX6_shelfCut : MethodName := ⟨RX6, "shelfCut", "(IIIII)I"⟩
abbrev cX6_shelfNear : ByteArray := prog_7_method_61_code
def yX6_shelfNear : MethodName := ⟨RX6, "shelfNear", "(III)I"⟩
abbrev cX6_sum_ : ByteArray := prog_7_method_62_code
def yX6_sum_ : MethodName := ⟨RX6, "sum", "(LBookgrafterModel$Book;)I"⟩
abbrev cX6_shelfTell : ByteArray := prog_7_method_63_code
def yX6_shelfTell : MethodName := ⟨RX6, "shelfTell", "(II)I"⟩
abbrev cX6_sameShelves : ByteArray := prog_7_method_64_code
def yX6_sameShelves : MethodName := ⟨RX6, "sameShelves", "(III)Z"⟩
abbrev cX6_house : ByteArray := prog_7_method_65_code
def yX6_house : MethodName := ⟨RX6, "house", "(I)I"⟩
abbrev cX6_knock : ByteArray := prog_7_method_66_code
def yX6_knock : MethodName := ⟨RX6, "knock", "()I"⟩
abbrev cX6_isSound : ByteArray := prog_7_method_67_code
def yX6_isSound : MethodName := ⟨RX6, "isSound", "()Z"⟩
abbrev cX6_add : ByteArray := prog_7_method_68_code
def yX6_add : MethodName := ⟨RX6, "add", "(JJ)J"⟩
abbrev cX6_digest : ByteArray := prog_7_method_69_code
def yX6_digest : MethodName := ⟨RX6, "digest", "()J"⟩
def RJx145de : String := "java/io/Serializable"
def TJx145de : u_T := fun k => match k with
  | _ => ("", "", "", false)
def tyJx145de : Nat → FieldType := fun k => match k with
  | _ => .int
abbrev wsJx145de0 : List Cond := u_ws RJx145de TJx145de 0
theorem nmJx145de : ∀ a, a < 0 → ∀ b, b < 0 → a ≠ b → (TJx145de a).2.1 ≠ (TJx145de b).2.1 := by decide +kernel
theorem tyJx145de_ok : ∀ k, k < 0 → parseFieldDescriptor (TJx145de k).2.2.1 = some (tyJx145de k) := by decide +kernel
def RJ5 : String := "java/lang/AbstractStringBuilder"
def TJ5 : u_T := fun k => match k with
  | _ => ("", "", "", false)
def tyJ5 : Nat → FieldType := fun k => match k with
  | _ => .int
abbrev wsJ50 : List Cond := u_ws RJ5 TJ5 0
theorem nmJ5 : ∀ a, a < 0 → ∀ b, b < 0 → a ≠ b → (TJ5 a).2.1 ≠ (TJ5 b).2.1 := by decide +kernel
theorem tyJ5_ok : ∀ k, k < 0 → parseFieldDescriptor (TJ5 k).2.2.1 = some (tyJ5 k) := by decide +kernel
abbrev cJ5_init_d00df : ByteArray := prog_9_method_2_code
def yJ5_init_d00df : MethodName := ⟨RJ5, "<init>", "(I)V"⟩
abbrev cJ5_init_a7421 : ByteArray := prog_9_method_3_code
def yJ5_init_a7421 : MethodName := ⟨RJ5, "<init>", "(Ljava/lang/String;)V"⟩
abbrev cJ5_length_8abf5 : ByteArray := prog_9_method_6_code
def yJ5_length_8abf5 : MethodName := ⟨RJ5, "length", "()I"⟩
abbrev cJ5_ensureCapacityInternal_d00df : ByteArray := prog_9_method_9_code
def yJ5_ensureCapacityInternal_d00df : MethodName := ⟨RJ5, "ensureCapacityInternal", "(I)V"⟩
abbrev cJ5_newCapacity_0f7a4 : ByteArray := prog_9_method_10_code
def yJ5_newCapacity_0f7a4 : MethodName := ⟨RJ5, "newCapacity", "(I)I"⟩
abbrev cJ5_inflate_da8c8 : ByteArray := prog_9_method_11_code
def yJ5_inflate_da8c8 : MethodName := ⟨RJ5, "inflate", "()V"⟩
abbrev cJ5_append_cf1ce : ByteArray := prog_9_method_22_code
def yJ5_append_cf1ce : MethodName := ⟨RJ5, "append", "(Ljava/lang/String;)Ljava/lang/AbstractStringBuilder;"⟩
abbrev cJ5_appendNull_278bc : ByteArray := prog_9_method_26_code
def yJ5_appendNull_278bc : MethodName := ⟨RJ5, "appendNull", "()Ljava/lang/AbstractStringBuilder;"⟩
abbrev cJ5_append_3fe6f : ByteArray := prog_9_method_31_code
def yJ5_append_3fe6f : MethodName := ⟨RJ5, "append", "(C)Ljava/lang/AbstractStringBuilder;"⟩
abbrev cJ5_append_c97b9 : ByteArray := prog_9_method_32_code
def yJ5_append_c97b9 : MethodName := ⟨RJ5, "append", "(I)Ljava/lang/AbstractStringBuilder;"⟩
abbrev cJ5_getValue_6d5f1 : ByteArray := prog_9_method_64_code
def yJ5_getValue_6d5f1 : MethodName := ⟨RJ5, "getValue", "()[B"⟩
abbrev cJ5_isLatin1_aae02 : ByteArray := prog_9_method_68_code
def yJ5_isLatin1_aae02 : MethodName := ⟨RJ5, "isLatin1", "()Z"⟩
abbrev cJ5_inflateIfNeededFor_a7421 : ByteArray := prog_9_method_71_code
def yJ5_inflateIfNeededFor_a7421 : MethodName := ⟨RJ5, "inflateIfNeededFor", "(Ljava/lang/String;)V"⟩
abbrev cJ5_putStringAt_47b60 : ByteArray := prog_9_method_73_code
def yJ5_putStringAt_47b60 : MethodName := ⟨RJ5, "putStringAt", "(ILjava/lang/String;)V"⟩
def RJx2cfe8 : String := "java/lang/Appendable"
def TJx2cfe8 : u_T := fun k => match k with
  | _ => ("", "", "", false)
def tyJx2cfe8 : Nat → FieldType := fun k => match k with
  | _ => .int
abbrev wsJx2cfe80 : List Cond := u_ws RJx2cfe8 TJx2cfe8 0
theorem nmJx2cfe8 : ∀ a, a < 0 → ∀ b, b < 0 → a ≠ b → (TJx2cfe8 a).2.1 ≠ (TJx2cfe8 b).2.1 := by decide +kernel
theorem tyJx2cfe8_ok : ∀ k, k < 0 → parseFieldDescriptor (TJx2cfe8 k).2.2.1 = some (tyJx2cfe8 k) := by decide +kernel
def RJx9f9b0 : String := "java/lang/CharSequence"
def TJx9f9b0 : u_T := fun k => match k with
  | _ => ("", "", "", false)
def tyJx9f9b0 : Nat → FieldType := fun k => match k with
  | _ => .int
abbrev wsJx9f9b00 : List Cond := u_ws RJx9f9b0 TJx9f9b0 0
theorem nmJx9f9b0 : ∀ a, a < 0 → ∀ b, b < 0 → a ≠ b → (TJx9f9b0 a).2.1 ≠ (TJx9f9b0 b).2.1 := by decide +kernel
theorem tyJx9f9b0_ok : ∀ k, k < 0 → parseFieldDescriptor (TJx9f9b0 k).2.2.1 = some (tyJx9f9b0 k) := by decide +kernel
def RJx8e188 : String := "java/lang/Cloneable"
def TJx8e188 : u_T := fun k => match k with
  | _ => ("", "", "", false)
def tyJx8e188 : Nat → FieldType := fun k => match k with
  | _ => .int
abbrev wsJx8e1880 : List Cond := u_ws RJx8e188 TJx8e188 0
theorem nmJx8e188 : ∀ a, a < 0 → ∀ b, b < 0 → a ≠ b → (TJx8e188 a).2.1 ≠ (TJx8e188 b).2.1 := by decide +kernel
theorem tyJx8e188_ok : ∀ k, k < 0 → parseFieldDescriptor (TJx8e188 k).2.2.1 = some (tyJx8e188 k) := by decide +kernel
def RJxb160c : String := "java/lang/Comparable"
def TJxb160c : u_T := fun k => match k with
  | _ => ("", "", "", false)
def tyJxb160c : Nat → FieldType := fun k => match k with
  | _ => .int
abbrev wsJxb160c0 : List Cond := u_ws RJxb160c TJxb160c 0
theorem nmJxb160c : ∀ a, a < 0 → ∀ b, b < 0 → a ≠ b → (TJxb160c a).2.1 ≠ (TJxb160c b).2.1 := by decide +kernel
theorem tyJxb160c_ok : ∀ k, k < 0 → parseFieldDescriptor (TJxb160c k).2.2.1 = some (tyJxb160c k) := by decide +kernel
def RJ6 : String := "java/lang/Integer"
def TJ6 : u_T := fun k => match k with
  | _ => ("", "", "", false)
def tyJ6 : Nat → FieldType := fun k => match k with
  | _ => .int
abbrev wsJ60 : List Cond := u_ws RJ6 TJ6 0
theorem nmJ6 : ∀ a, a < 0 → ∀ b, b < 0 → a ≠ b → (TJ6 a).2.1 ≠ (TJ6 b).2.1 := by decide +kernel
theorem tyJ6_ok : ∀ k, k < 0 → parseFieldDescriptor (TJ6 k).2.2.1 = some (tyJ6 k) := by decide +kernel
abbrev cJ6_getChars_ba4f3 : ByteArray := prog_14_method_12_code
def yJ6_getChars_ba4f3 : MethodName := ⟨RJ6, "getChars", "(II[B)I"⟩
abbrev cJ6_stringSize_0f7a4 : ByteArray := prog_14_method_13_code
def yJ6_stringSize_0f7a4 : MethodName := ⟨RJ6, "stringSize", "(I)I"⟩
def RJ9 : String := "java/lang/Math"
def TJ9 : u_T := fun k => match k with
  | _ => ("", "", "", false)
def tyJ9 : Nat → FieldType := fun k => match k with
  | _ => .int
abbrev wsJ90 : List Cond := u_ws RJ9 TJ9 0
theorem nmJ9 : ∀ a, a < 0 → ∀ b, b < 0 → a ≠ b → (TJ9 a).2.1 ≠ (TJ9 b).2.1 := by decide +kernel
theorem tyJ9_ok : ∀ k, k < 0 → parseFieldDescriptor (TJ9 k).2.2.1 = some (tyJ9 k) := by decide +kernel
abbrev cJ9_max_7cf53 : ByteArray := prog_15_method_65_code
def yJ9_max_7cf53 : MethodName := ⟨RJ9, "max", "(II)I"⟩
abbrev cJ9_min_7cf53 : ByteArray := prog_15_method_69_code
def yJ9_min_7cf53 : MethodName := ⟨RJ9, "min", "(II)I"⟩
def RJxd2413 : String := "java/lang/Number"
def TJxd2413 : u_T := fun k => match k with
  | _ => ("", "", "", false)
def tyJxd2413 : Nat → FieldType := fun k => match k with
  | _ => .int
abbrev wsJxd24130 : List Cond := u_ws RJxd2413 TJxd2413 0
theorem nmJxd2413 : ∀ a, a < 0 → ∀ b, b < 0 → a ≠ b → (TJxd2413 a).2.1 ≠ (TJxd2413 b).2.1 := by decide +kernel
theorem tyJxd2413_ok : ∀ k, k < 0 → parseFieldDescriptor (TJxd2413 k).2.2.1 = some (tyJxd2413 k) := by decide +kernel
def RJ0 : String := "java/lang/String"
def TJ0 : u_T := fun k => match k with
  | 0 => ("java/lang/String", "value", "[B", true)
  | 1 => ("java/lang/String", "coder", "B", true)
  | 2 => ("java/lang/String", "hash", "I", false)
  | _ => ("java/lang/String", "hashIsZero", "Z", false)
def tyJ0 : Nat → FieldType := fun k => match k with
  | 0 => .array .byte
  | 1 => .byte
  | 2 => .int
  | _ => .boolean
abbrev wsJ00 : List Cond := u_ws RJ0 TJ0 4
theorem nmJ0 : ∀ a, a < 4 → ∀ b, b < 4 → a ≠ b → (TJ0 a).2.1 ≠ (TJ0 b).2.1 := by decide +kernel
theorem tyJ0_ok : ∀ k, k < 4 → parseFieldDescriptor (TJ0 k).2.2.1 = some (tyJ0 k) := by decide +kernel
abbrev cJ0_init_81219 : ByteArray := prog_18_method_53_code
def yJ0_init_81219 : MethodName := ⟨RJ0, "<init>", "(Ljava/lang/StringBuilder;)V"⟩
abbrev cJ0_length_8abf5 : ByteArray := prog_18_method_54_code
def yJ0_length_8abf5 : MethodName := ⟨RJ0, "length", "()I"⟩
abbrev cJ0_getBytes_840e7 : ByteArray := prog_18_method_147_code
def yJ0_getBytes_840e7 : MethodName := ⟨RJ0, "getBytes", "([BIB)V"⟩
abbrev cJ0_init_db425 : ByteArray := prog_18_method_150_code
def yJ0_init_db425 : MethodName := ⟨RJ0, "<init>", "(Ljava/lang/AbstractStringBuilder;Ljava/lang/Void;)V"⟩
abbrev cJ0_coder_7d493 : ByteArray := prog_18_method_152_code
def yJ0_coder_7d493 : MethodName := ⟨RJ0, "coder", "()B"⟩
abbrev cJ0_checkIndex_df160 : ByteArray := prog_18_method_155_code
def yJ0_checkIndex_df160 : MethodName := ⟨RJ0, "checkIndex", "(II)V"⟩
abbrev cJ0_checkBoundsOffCount_cabcc : ByteArray := prog_18_method_157_code
def yJ0_checkBoundsOffCount_cabcc : MethodName := ⟨RJ0, "checkBoundsOffCount", "(III)I"⟩
abbrev cJ0_checkBoundsBeginEnd_23922 : ByteArray := prog_18_method_158_code
def yJ0_checkBoundsBeginEnd_23922 : MethodName := ⟨RJ0, "checkBoundsBeginEnd", "(III)V"⟩
def RJ4 : String := "java/lang/StringBuilder"
def TJ4 : u_T := fun k => match k with
  | 0 => ("java/lang/AbstractStringBuilder", "value", "[B", false)
  | 1 => ("java/lang/AbstractStringBuilder", "coder", "B", false)
  | 2 => ("java/lang/AbstractStringBuilder", "maybeLatin1", "Z", false)
  | _ => ("java/lang/AbstractStringBuilder", "count", "I", false)
def tyJ4 : Nat → FieldType := fun k => match k with
  | 0 => .array .byte
  | 1 => .byte
  | 2 => .boolean
  | _ => .int
abbrev wsJ40 : List Cond := u_ws RJ4 TJ4 4
theorem nmJ4 : ∀ a, a < 4 → ∀ b, b < 4 → a ≠ b → (TJ4 a).2.1 ≠ (TJ4 b).2.1 := by decide +kernel
theorem tyJ4_ok : ∀ k, k < 4 → parseFieldDescriptor (TJ4 k).2.2.1 = some (tyJ4 k) := by decide +kernel
abbrev cJ4_init_da8c8 : ByteArray := prog_19_method_1_code
def yJ4_init_da8c8 : MethodName := ⟨RJ4, "<init>", "()V"⟩
abbrev cJ4_init_a7421 : ByteArray := prog_19_method_3_code
def yJ4_init_a7421 : MethodName := ⟨RJ4, "<init>", "(Ljava/lang/String;)V"⟩
abbrev cJ4_append_15ec4 : ByteArray := prog_19_method_7_code
def yJ4_append_15ec4 : MethodName := ⟨RJ4, "append", "(Ljava/lang/String;)Ljava/lang/StringBuilder;"⟩
abbrev cJ4_append_cf468 : ByteArray := prog_19_method_14_code
def yJ4_append_cf468 : MethodName := ⟨RJ4, "append", "(C)Ljava/lang/StringBuilder;"⟩
abbrev cJ4_append_bf812 : ByteArray := prog_19_method_15_code
def yJ4_append_bf812 : MethodName := ⟨RJ4, "append", "(I)Ljava/lang/StringBuilder;"⟩
abbrev cJ4_toString_0e30d : ByteArray := prog_19_method_42_code
def yJ4_toString_0e30d : MethodName := ⟨RJ4, "toString", "()Ljava/lang/String;"⟩
abbrev cJ4_append_cf1ce : ByteArray := prog_19_method_80_code
def yJ4_append_cf1ce : MethodName := ⟨RJ4, "append", "(Ljava/lang/String;)Ljava/lang/AbstractStringBuilder;"⟩
abbrev cJ4_length_8abf5 : ByteArray := prog_19_method_93_code
def yJ4_length_8abf5 : MethodName := ⟨RJ4, "length", "()I"⟩
def RJ1 : String := "java/lang/StringLatin1"
def TJ1 : u_T := fun k => match k with
  | _ => ("", "", "", false)
def tyJ1 : Nat → FieldType := fun k => match k with
  | _ => .int
abbrev wsJ10 : List Cond := u_ws RJ1 TJ1 0
theorem nmJ1 : ∀ a, a < 0 → ∀ b, b < 0 → a ≠ b → (TJ1 a).2.1 ≠ (TJ1 b).2.1 := by decide +kernel
theorem tyJ1_ok : ∀ k, k < 0 → parseFieldDescriptor (TJ1 k).2.2.1 = some (tyJ1 k) := by decide +kernel
abbrev cJ1_canEncode_fc78d : ByteArray := prog_20_method_3_code
def yJ1_canEncode_fc78d : MethodName := ⟨RJ1, "canEncode", "(C)Z"⟩
abbrev cJ1_inflate_0e8fd : ByteArray := prog_20_method_50_code
def yJ1_inflate_0e8fd : MethodName := ⟨RJ1, "inflate", "([BI[BII)V"⟩
def RJ2 : String := "java/lang/StringUTF16"
def TJ2 : u_T := fun k => match k with
  | _ => ("", "", "", false)
def tyJ2 : Nat → FieldType := fun k => match k with
  | _ => .int
abbrev wsJ20 : List Cond := u_ws RJ2 TJ2 0
theorem nmJ2 : ∀ a, a < 0 → ∀ b, b < 0 → a ≠ b → (TJ2 a).2.1 ≠ (TJ2 b).2.1 := by decide +kernel
theorem tyJ2_ok : ∀ k, k < 0 → parseFieldDescriptor (TJ2 k).2.2.1 = some (tyJ2 k) := by decide +kernel
abbrev cJ2_newBytesFor_77867 : ByteArray := prog_21_method_2_code
def yJ2_newBytesFor_77867 : MethodName := ⟨RJ2, "newBytesFor", "(I)[B"⟩
abbrev cJ2_newBytesLength_0f7a4 : ByteArray := prog_21_method_3_code
def yJ2_newBytesLength_0f7a4 : MethodName := ⟨RJ2, "newBytesLength", "(I)I"⟩
abbrev cJ2_putChar_b72d1 : ByteArray := prog_21_method_4_code
def yJ2_putChar_b72d1 : MethodName := ⟨RJ2, "putChar", "([BII)V"⟩
abbrev cJ2_getChar_3b067 : ByteArray := prog_21_method_5_code
def yJ2_getChar_3b067 : MethodName := ⟨RJ2, "getChar", "([BI)C"⟩
abbrev cJ2_length_9d52b : ByteArray := prog_21_method_6_code
def yJ2_length_9d52b : MethodName := ⟨RJ2, "length", "([B)I"⟩
abbrev cJ2_coderFromArrayLen_85cad : ByteArray := prog_21_method_15_code
def yJ2_coderFromArrayLen_85cad : MethodName := ⟨RJ2, "coderFromArrayLen", "([BI)B"⟩
abbrev cJ2_compress_39247 : ByteArray := prog_21_method_17_code
def yJ2_compress_39247 : MethodName := ⟨RJ2, "compress", "([BII)[B"⟩
abbrev cJ2_compress_5af95 : ByteArray := prog_21_method_22_code
def yJ2_compress_5af95 : MethodName := ⟨RJ2, "compress", "([BI[BII)I"⟩
abbrev cJ2_putCharSB_b72d1 : ByteArray := prog_21_method_71_code
def yJ2_putCharSB_b72d1 : MethodName := ⟨RJ2, "putCharSB", "([BII)V"⟩
abbrev cJ2_getChars_46870 : ByteArray := prog_21_method_77_code
def yJ2_getChars_46870 : MethodName := ⟨RJ2, "getChars", "(III[B)I"⟩
abbrev cJ2_putCharsAt_cd4e5 : ByteArray := prog_21_method_81_code
def yJ2_putCharsAt_cd4e5 : MethodName := ⟨RJ2, "putCharsAt", "([BICCCC)I"⟩
abbrev cJ2_inflate_0e8fd : ByteArray := prog_21_method_86_code
def yJ2_inflate_0e8fd : MethodName := ⟨RJ2, "inflate", "([BI[BII)V"⟩
abbrev cJ2_getChars_ba4f3 : ByteArray := prog_21_method_89_code
def yJ2_getChars_ba4f3 : MethodName := ⟨RJ2, "getChars", "(II[B)I"⟩
abbrev cJ2_checkIndex_2214a : ByteArray := prog_21_method_91_code
def yJ2_checkIndex_2214a : MethodName := ⟨RJ2, "checkIndex", "(I[B)V"⟩
abbrev cJ2_checkBoundsBeginEnd_d044e : ByteArray := prog_21_method_93_code
def yJ2_checkBoundsBeginEnd_d044e : MethodName := ⟨RJ2, "checkBoundsBeginEnd", "(II[B)V"⟩
abbrev cJ2_checkBoundsOffCount_d044e : ByteArray := prog_21_method_94_code
def yJ2_checkBoundsOffCount_d044e : MethodName := ⟨RJ2, "checkBoundsOffCount", "(II[B)V"⟩
def RJ10 : String := "java/lang/System"
def TJ10 : u_T := fun k => match k with
  | _ => ("", "", "", false)
def tyJ10 : Nat → FieldType := fun k => match k with
  | _ => .int
abbrev wsJ100 : List Cond := u_ws RJ10 TJ10 0
theorem nmJ10 : ∀ a, a < 0 → ∀ b, b < 0 → a ≠ b → (TJ10 a).2.1 ≠ (TJ10 b).2.1 := by decide +kernel
theorem tyJ10_ok : ∀ k, k < 0 → parseFieldDescriptor (TJ10 k).2.2.1 = some (tyJ10 k) := by decide +kernel
def RJxfd54e : String := "java/lang/constant/Constable"
def TJxfd54e : u_T := fun k => match k with
  | _ => ("", "", "", false)
def tyJxfd54e : Nat → FieldType := fun k => match k with
  | _ => .int
abbrev wsJxfd54e0 : List Cond := u_ws RJxfd54e TJxfd54e 0
theorem nmJxfd54e : ∀ a, a < 0 → ∀ b, b < 0 → a ≠ b → (TJxfd54e a).2.1 ≠ (TJxfd54e b).2.1 := by decide +kernel
theorem tyJxfd54e_ok : ∀ k, k < 0 → parseFieldDescriptor (TJxfd54e k).2.2.1 = some (tyJxfd54e k) := by decide +kernel
def RJx3cf43 : String := "java/lang/constant/ConstantDesc"
def TJx3cf43 : u_T := fun k => match k with
  | _ => ("", "", "", false)
def tyJx3cf43 : Nat → FieldType := fun k => match k with
  | _ => .int
abbrev wsJx3cf430 : List Cond := u_ws RJx3cf43 TJx3cf43 0
theorem nmJx3cf43 : ∀ a, a < 0 → ∀ b, b < 0 → a ≠ b → (TJx3cf43 a).2.1 ≠ (TJx3cf43 b).2.1 := by decide +kernel
theorem tyJx3cf43_ok : ∀ k, k < 0 → parseFieldDescriptor (TJx3cf43 k).2.2.1 = some (tyJx3cf43 k) := by decide +kernel
def RJ7 : String := "java/util/Arrays"
def TJ7 : u_T := fun k => match k with
  | _ => ("", "", "", false)
def tyJ7 : Nat → FieldType := fun k => match k with
  | _ => .int
abbrev wsJ70 : List Cond := u_ws RJ7 TJ7 0
theorem nmJ7 : ∀ a, a < 0 → ∀ b, b < 0 → a ≠ b → (TJ7 a).2.1 ≠ (TJ7 b).2.1 := by decide +kernel
theorem tyJ7_ok : ∀ k, k < 0 → parseFieldDescriptor (TJ7 k).2.2.1 = some (tyJ7 k) := by decide +kernel
abbrev cJ7_fill_53178 : ByteArray := prog_24_method_103_code
def yJ7_fill_53178 : MethodName := ⟨RJ7, "fill", "([II)V"⟩
abbrev cJ7_copyOf_9075b : ByteArray := prog_24_method_121_code
def yJ7_copyOf_9075b : MethodName := ⟨RJ7, "copyOf", "([BI)[B"⟩
abbrev cJ7_checkLength_df160 : ByteArray := prog_24_method_131_code
def yJ7_checkLength_df160 : MethodName := ⟨RJ7, "checkLength", "(II)V"⟩
abbrev cJ7_copyOfRange_39247 : ByteArray := prog_24_method_132_code
def yJ7_copyOfRange_39247 : MethodName := ⟨RJ7, "copyOfRange", "([BII)[B"⟩
abbrev cJ7_copyOfRangeByte_39247 : ByteArray := prog_24_method_133_code
def yJ7_copyOfRangeByte_39247 : MethodName := ⟨RJ7, "copyOfRangeByte", "([BII)[B"⟩
def RJ8 : String := "jdk/internal/util/ArraysSupport"
def TJ8 : u_T := fun k => match k with
  | _ => ("", "", "", false)
def tyJ8 : Nat → FieldType := fun k => match k with
  | _ => .int
abbrev wsJ80 : List Cond := u_ws RJ8 TJ8 0
theorem nmJ8 : ∀ a, a < 0 → ∀ b, b < 0 → a ≠ b → (TJ8 a).2.1 ≠ (TJ8 b).2.1 := by decide +kernel
theorem tyJ8_ok : ∀ k, k < 0 → parseFieldDescriptor (TJ8 k).2.2.1 = some (tyJ8 k) := by decide +kernel
abbrev cJ8_newLength_cabcc : ByteArray := prog_25_method_27_code
def yJ8_newLength_cabcc : MethodName := ⟨RJ8, "newLength", "(III)I"⟩
abbrev cJ8_hugeLength_7cf53 : ByteArray := prog_25_method_28_code
def yJ8_hugeLength_7cf53 : MethodName := ⟨RJ8, "hugeLength", "(II)I"⟩
def RJ3 : String := "jdk/internal/util/Preconditions"
def TJ3 : u_T := fun k => match k with
  | _ => ("", "", "", false)
def tyJ3 : Nat → FieldType := fun k => match k with
  | _ => .int
abbrev wsJ30 : List Cond := u_ws RJ3 TJ3 0
theorem nmJ3 : ∀ a, a < 0 → ∀ b, b < 0 → a ≠ b → (TJ3 a).2.1 ≠ (TJ3 b).2.1 := by decide +kernel
theorem tyJ3_ok : ∀ k, k < 0 → parseFieldDescriptor (TJ3 k).2.2.1 = some (tyJ3 k) := by decide +kernel
abbrev cJ3_checkIndex_8e157 : ByteArray := prog_26_method_11_code
def yJ3_checkIndex_8e157 : MethodName := ⟨RJ3, "checkIndex", "(IILjava/util/function/BiFunction;)I"⟩
abbrev cJ3_checkFromToIndex_8c36e : ByteArray := prog_26_method_12_code
def yJ3_checkFromToIndex_8c36e : MethodName := ⟨RJ3, "checkFromToIndex", "(IIILjava/util/function/BiFunction;)I"⟩
abbrev cJ3_checkFromIndexSize_8c36e : ByteArray := prog_26_method_13_code
def yJ3_checkFromIndexSize_8c36e : MethodName := ⟨RJ3, "checkFromIndexSize", "(IIILjava/util/function/BiFunction;)I"⟩
def RL : String := "BookgrafterLaw"
abbrev cL_freshBook : ByteArray := method_2_code
def yL_freshBook : MethodName := ⟨RL, "freshBook", "(LBookgrafter;IILBookgrafterLaw$Out;)I"⟩
abbrev cL_buildBook : ByteArray := method_3_code
def yL_buildBook : MethodName := ⟨RL, "buildBook", "(LBookgrafter;IIILBookgrafterLaw$Out;)I"⟩
abbrev cL_splitBook : ByteArray := method_4_code
def yL_splitBook : MethodName := ⟨RL, "splitBook", "(LBookgrafter;IIILBookgrafterLaw$Out;)I"⟩
abbrev cL_fill : ByteArray := method_5_code
def yL_fill : MethodName := ⟨RL, "fill", "(LBookgrafter;IIIIILBookgrafterLaw$Out;)I"⟩
abbrev cL_pour : ByteArray := method_6_code
def yL_pour : MethodName := ⟨RL, "pour", "(LBookgrafter;IILBookgrafterLaw$Out;)I"⟩
abbrev cL_keep : ByteArray := method_7_code
def yL_keep : MethodName := ⟨RL, "keep", "(LBookgrafter;IIZLBookgrafterLaw$Out;)I"⟩
abbrev cL_put : ByteArray := method_8_code
def yL_put : MethodName := ⟨RL, "put", "(LBookgrafter;IIIILBookgrafterLaw$Out;)I"⟩
abbrev cL_exchange : ByteArray := method_9_code
def yL_exchange : MethodName := ⟨RL, "exchange", "(LBookgrafter;IIIILBookgrafterLaw$Out;)I"⟩
abbrev cL_take : ByteArray := method_10_code
def yL_take : MethodName := ⟨RL, "take", "(LBookgrafter;IILBookgrafterLaw$Out;)I"⟩
abbrev cL_drop : ByteArray := method_11_code
def yL_drop : MethodName := ⟨RL, "drop", "(LBookgrafter;IILBookgrafterLaw$Out;)I"⟩
abbrev cL_has : ByteArray := method_12_code
def yL_has : MethodName := ⟨RL, "has", "(LBookgrafter;IZILBookgrafterLaw$Out;)I"⟩
abbrev cL_near : ByteArray := method_13_code
def yL_near : MethodName := ⟨RL, "near", "(LBookgrafter;IIIZLBookgrafterLaw$Out;)I"⟩
abbrev cL_end : ByteArray := method_14_code
def yL_end : MethodName := ⟨RL, "end", "(LBookgrafter;IZZLBookgrafterLaw$Out;)I"⟩
abbrev cL_keyAt : ByteArray := method_15_code
def yL_keyAt : MethodName := ⟨RL, "keyAt", "(LBookgrafter;IIZLBookgrafterLaw$Out;)I"⟩
abbrev cL_tellBook : ByteArray := method_16_code
def yL_tellBook : MethodName := ⟨RL, "tellBook", "(LBookgrafter;IILBookgrafterLaw$Out;)I"⟩
abbrev cL_bookText : ByteArray := method_17_code
def yL_bookText : MethodName := ⟨RL, "bookText", "(LBookgrafter;ILBookgrafterLaw$Out;)I"⟩
abbrev cL_sameBooks : ByteArray := method_18_code
def yL_sameBooks : MethodName := ⟨RL, "sameBooks", "(LBookgrafter;IILBookgrafterLaw$Out;)I"⟩
abbrev cL_openView : ByteArray := method_19_code
def yL_openView : MethodName := ⟨RL, "openView", "(LBookgrafter;IIIIIILBookgrafterLaw$Out;)I"⟩
abbrev cL_narrowView : ByteArray := method_20_code
def yL_narrowView : MethodName := ⟨RL, "narrowView", "(LBookgrafter;IIIILBookgrafterLaw$Out;)I"⟩
abbrev cL_buildFromView : ByteArray := method_21_code
def yL_buildFromView : MethodName := ⟨RL, "buildFromView", "(LBookgrafter;IIILBookgrafterLaw$Out;)I"⟩
abbrev cL_viewPut : ByteArray := method_22_code
def yL_viewPut : MethodName := ⟨RL, "viewPut", "(LBookgrafter;IIILBookgrafterLaw$Out;)I"⟩
abbrev cL_viewTake : ByteArray := method_23_code
def yL_viewTake : MethodName := ⟨RL, "viewTake", "(LBookgrafter;IILBookgrafterLaw$Out;)I"⟩
abbrev cL_viewDrop : ByteArray := method_24_code
def yL_viewDrop : MethodName := ⟨RL, "viewDrop", "(LBookgrafter;IILBookgrafterLaw$Out;)I"⟩
abbrev cL_viewNear : ByteArray := method_25_code
def yL_viewNear : MethodName := ⟨RL, "viewNear", "(LBookgrafter;IIILBookgrafterLaw$Out;)I"⟩
abbrev cL_viewTell : ByteArray := method_26_code
def yL_viewTell : MethodName := ⟨RL, "viewTell", "(LBookgrafter;IILBookgrafterLaw$Out;)I"⟩
abbrev cL_startWalk : ByteArray := method_27_code
def yL_startWalk : MethodName := ⟨RL, "startWalk", "(LBookgrafter;ILBookgrafterLaw$Out;)I"⟩
abbrev cL_walkSet : ByteArray := method_28_code
def yL_walkSet : MethodName := ⟨RL, "walkSet", "(LBookgrafter;ILBookgrafterLaw$Out;)I"⟩
abbrev cL_freshShelf : ByteArray := method_29_code
def yL_freshShelf : MethodName := ⟨RL, "freshShelf", "(LBookgrafter;IILBookgrafterLaw$Out;)I"⟩
abbrev cL_buildShelf : ByteArray := method_30_code
def yL_buildShelf : MethodName := ⟨RL, "buildShelf", "(LBookgrafter;IIILBookgrafterLaw$Out;)I"⟩
abbrev cL_keysOf : ByteArray := method_31_code
def yL_keysOf : MethodName := ⟨RL, "keysOf", "(LBookgrafter;IILBookgrafterLaw$Out;)I"⟩
abbrev cL_lay : ByteArray := method_32_code
def yL_lay : MethodName := ⟨RL, "lay", "(LBookgrafter;IIIIZLBookgrafterLaw$Out;)I"⟩
abbrev cL_shelfBoth : ByteArray := method_33_code
def yL_shelfBoth : MethodName := ⟨RL, "shelfBoth", "(LBookgrafter;IIILBookgrafterLaw$Out;)I"⟩
abbrev cL_shelfDrop : ByteArray := method_34_code
def yL_shelfDrop : MethodName := ⟨RL, "shelfDrop", "(LBookgrafter;IILBookgrafterLaw$Out;)I"⟩
abbrev cL_shelfCut : ByteArray := method_35_code
def yL_shelfCut : MethodName := ⟨RL, "shelfCut", "(LBookgrafter;IIIIILBookgrafterLaw$Out;)I"⟩
abbrev cL_shelfNear : ByteArray := method_36_code
def yL_shelfNear : MethodName := ⟨RL, "shelfNear", "(LBookgrafter;IIILBookgrafterLaw$Out;)I"⟩
abbrev cL_shelfTell : ByteArray := method_37_code
def yL_shelfTell : MethodName := ⟨RL, "shelfTell", "(LBookgrafter;IILBookgrafterLaw$Out;)I"⟩
abbrev cL_sameShelves : ByteArray := method_38_code
def yL_sameShelves : MethodName := ⟨RL, "sameShelves", "(LBookgrafter;IIILBookgrafterLaw$Out;)I"⟩
abbrev cL_house : ByteArray := method_39_code
def yL_house : MethodName := ⟨RL, "house", "(LBookgrafter;ILBookgrafterLaw$Out;)I"⟩
abbrev cL_law : ByteArray := code
def yL_law : MethodName := ⟨RL, "law", "([I)Z"⟩
abbrev vwCl : List vw_C := [(RJ0, TJ0, 4), (RJ4, TJ4, 4), (RX0, TX0, 4), (RX1, TX1, 3), (RX2, TX2, 4), (RX3, TX3, 8), (RX4, TX4, 2), (RX5, TX5, 2), (RX6, TX6, 11)]
