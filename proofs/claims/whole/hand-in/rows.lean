section
/-! Names and words. PART A of the skeleton first. -/
-- ===== PART A: goes FIRST, ahead of the names: the tables' words, and 'selects' of the private methods out of them =====
/-- a private method of a class that the tables say can be made, by its rows of tables_1 -/
def lw_okq (q : MethodName × Nat) : Prop := (q.1.cls ≠ "java/lang/invoke/MethodHandle" ∧ q.1.cls ≠ "java/lang/invoke/VarHandle") ∧ Cond.instantiable q.1.cls q.2 ∈ tables_1 ∧ Cond.privateMethod q.1 ∈ tables_1 ∧ Cond.instanceMethod q.1 ∈ tables_1
theorem lw_p0 : lw_okq (⟨"java/lang/Throwable", "fillInStackTrace", "(I)Ljava/lang/Throwable;"⟩, 6) := ⟨⟨by decide +kernel, by decide +kernel⟩, List.mem_of_getElem? (i := 82) (by decide +kernel), List.mem_of_getElem? (i := 80) (by decide +kernel), List.mem_of_getElem? (i := 81) (by decide +kernel)⟩
theorem lw_p1 : lw_okq (⟨"PackedBits", "requireRoom", "(I)V"⟩, 3) := ⟨⟨by decide +kernel, by decide +kernel⟩, List.mem_of_getElem? (i := 13) (by decide +kernel), List.mem_of_getElem? (i := 112) (by decide +kernel), List.mem_of_getElem? (i := 113) (by decide +kernel)⟩
theorem lw_p2 : lw_okq (⟨"PackedBits", "append", "(JI)V"⟩, 3) := ⟨⟨by decide +kernel, by decide +kernel⟩, List.mem_of_getElem? (i := 13) (by decide +kernel), List.mem_of_getElem? (i := 133) (by decide +kernel), List.mem_of_getElem? (i := 134) (by decide +kernel)⟩
theorem lw_p3 : lw_okq (⟨"PackedBits", "setBit", "(IJ)V"⟩, 3) := ⟨⟨by decide +kernel, by decide +kernel⟩, List.mem_of_getElem? (i := 13) (by decide +kernel), List.mem_of_getElem? (i := 137) (by decide +kernel), List.mem_of_getElem? (i := 138) (by decide +kernel)⟩
theorem lw_p4 : lw_okq (⟨"PackedBits", "appendNumber", "(IJ)V"⟩, 3) := ⟨⟨by decide +kernel, by decide +kernel⟩, List.mem_of_getElem? (i := 13) (by decide +kernel), List.mem_of_getElem? (i := 193) (by decide +kernel), List.mem_of_getElem? (i := 194) (by decide +kernel)⟩
theorem lw_p5 : lw_okq (⟨"PackedBits", "bitsAt", "(II)J"⟩, 3) := ⟨⟨by decide +kernel, by decide +kernel⟩, List.mem_of_getElem? (i := 13) (by decide +kernel), List.mem_of_getElem? (i := 221) (by decide +kernel), List.mem_of_getElem? (i := 222) (by decide +kernel)⟩
theorem lw_p6 : lw_okq (⟨"PackedBits", "bit", "(I)J"⟩, 3) := ⟨⟨by decide +kernel, by decide +kernel⟩, List.mem_of_getElem? (i := 13) (by decide +kernel), List.mem_of_getElem? (i := 241) (by decide +kernel), List.mem_of_getElem? (i := 242) (by decide +kernel)⟩
theorem lw_p7 : lw_okq (⟨"PackedBits", "lengthAt", "(I)I"⟩, 3) := ⟨⟨by decide +kernel, by decide +kernel⟩, List.mem_of_getElem? (i := 13) (by decide +kernel), List.mem_of_getElem? (i := 268) (by decide +kernel), List.mem_of_getElem? (i := 269) (by decide +kernel)⟩
theorem lw_p8 : lw_okq (⟨"PackedBits", "longLengthAt", "(I)I"⟩, 3) := ⟨⟨by decide +kernel, by decide +kernel⟩, List.mem_of_getElem? (i := 13) (by decide +kernel), List.mem_of_getElem? (i := 272) (by decide +kernel), List.mem_of_getElem? (i := 273) (by decide +kernel)⟩
theorem lw_p9 : lw_okq (⟨"PackedBits", "piecesAt", "(I)I"⟩, 3) := ⟨⟨by decide +kernel, by decide +kernel⟩, List.mem_of_getElem? (i := 13) (by decide +kernel), List.mem_of_getElem? (i := 277) (by decide +kernel), List.mem_of_getElem? (i := 278) (by decide +kernel)⟩
theorem lw_p10 : lw_okq (⟨"PackedBits", "smallAt", "(I)J"⟩, 3) := ⟨⟨by decide +kernel, by decide +kernel⟩, List.mem_of_getElem? (i := 13) (by decide +kernel), List.mem_of_getElem? (i := 289) (by decide +kernel), List.mem_of_getElem? (i := 290) (by decide +kernel)⟩
theorem lw_p11 : lw_okq (⟨"PackedBits", "numberAt", "(II)J"⟩, 3) := ⟨⟨by decide +kernel, by decide +kernel⟩, List.mem_of_getElem? (i := 13) (by decide +kernel), List.mem_of_getElem? (i := 293) (by decide +kernel), List.mem_of_getElem? (i := 294) (by decide +kernel)⟩
theorem lw_p12 : lw_okq (⟨"PackedBits", "requireCut", "(I)V"⟩, 3) := ⟨⟨by decide +kernel, by decide +kernel⟩, List.mem_of_getElem? (i := 13) (by decide +kernel), List.mem_of_getElem? (i := 307) (by decide +kernel), List.mem_of_getElem? (i := 308) (by decide +kernel)⟩
theorem lw_p13 : lw_okq (⟨"PackedBitsModel", "fail", "(I)I"⟩, 6) := ⟨⟨by decide +kernel, by decide +kernel⟩, List.mem_of_getElem? (i := 335) (by decide +kernel), List.mem_of_getElem? (i := 370) (by decide +kernel), List.mem_of_getElem? (i := 371) (by decide +kernel)⟩
theorem lw_p14 : lw_okq (⟨"PackedBitsModel", "write", "(JII)I"⟩, 6) := ⟨⟨by decide +kernel, by decide +kernel⟩, List.mem_of_getElem? (i := 335) (by decide +kernel), List.mem_of_getElem? (i := 374) (by decide +kernel), List.mem_of_getElem? (i := 375) (by decide +kernel)⟩
theorem lw_p15 : lw_okq (⟨"PackedBitsModel", "append", "(JI)V"⟩, 6) := ⟨⟨by decide +kernel, by decide +kernel⟩, List.mem_of_getElem? (i := 335) (by decide +kernel), List.mem_of_getElem? (i := 378) (by decide +kernel), List.mem_of_getElem? (i := 379) (by decide +kernel)⟩
def lw_privs_1 : List (MethodName × Nat) := [(⟨"java/lang/Throwable", "fillInStackTrace", "(I)Ljava/lang/Throwable;"⟩, 6), (⟨"PackedBits", "requireRoom", "(I)V"⟩, 3), (⟨"PackedBits", "append", "(JI)V"⟩, 3), (⟨"PackedBits", "setBit", "(IJ)V"⟩, 3), (⟨"PackedBits", "appendNumber", "(IJ)V"⟩, 3), (⟨"PackedBits", "bitsAt", "(II)J"⟩, 3), (⟨"PackedBits", "bit", "(I)J"⟩, 3), (⟨"PackedBits", "lengthAt", "(I)I"⟩, 3), (⟨"PackedBits", "longLengthAt", "(I)I"⟩, 3), (⟨"PackedBits", "piecesAt", "(I)I"⟩, 3), (⟨"PackedBits", "smallAt", "(I)J"⟩, 3), (⟨"PackedBits", "numberAt", "(II)J"⟩, 3), (⟨"PackedBits", "requireCut", "(I)V"⟩, 3), (⟨"PackedBitsModel", "fail", "(I)I"⟩, 6), (⟨"PackedBitsModel", "write", "(JII)I"⟩, 6), (⟨"PackedBitsModel", "append", "(JI)V"⟩, 6)]
theorem lw_r1 : ∀ q ∈ lw_privs_1, lw_okq q := List.forall_mem_cons.mpr ⟨lw_p0, List.forall_mem_cons.mpr ⟨lw_p1, List.forall_mem_cons.mpr ⟨lw_p2, List.forall_mem_cons.mpr ⟨lw_p3, List.forall_mem_cons.mpr ⟨lw_p4, List.forall_mem_cons.mpr ⟨lw_p5, List.forall_mem_cons.mpr ⟨lw_p6, List.forall_mem_cons.mpr ⟨lw_p7, List.forall_mem_cons.mpr ⟨lw_p8, List.forall_mem_cons.mpr ⟨lw_p9, List.forall_mem_cons.mpr ⟨lw_p10, List.forall_mem_cons.mpr ⟨lw_p11, List.forall_mem_cons.mpr ⟨lw_p12, List.forall_mem_cons.mpr ⟨lw_p13, List.forall_mem_cons.mpr ⟨lw_p14, List.forall_mem_cons.mpr ⟨lw_p15, fun _ h => absurd h List.not_mem_nil⟩⟩⟩⟩⟩⟩⟩⟩⟩⟩⟩⟩⟩⟩⟩⟩
theorem lw_p16 : lw_okq (⟨"PackedBitsModel", "width", "(J)I"⟩, 6) := ⟨⟨by decide +kernel, by decide +kernel⟩, List.mem_of_getElem? (i := 335) (by decide +kernel), List.mem_of_getElem? (i := 386) (by decide +kernel), List.mem_of_getElem? (i := 387) (by decide +kernel)⟩
theorem lw_p17 : lw_okq (⟨"PackedBitsModel", "complement", "(J)I"⟩, 6) := ⟨⟨by decide +kernel, by decide +kernel⟩, List.mem_of_getElem? (i := 335) (by decide +kernel), List.mem_of_getElem? (i := 402) (by decide +kernel), List.mem_of_getElem? (i := 403) (by decide +kernel)⟩
theorem lw_p18 : lw_okq (⟨"PackedBitsModel", "bytesOf", "(J)I"⟩, 6) := ⟨⟨by decide +kernel, by decide +kernel⟩, List.mem_of_getElem? (i := 335) (by decide +kernel), List.mem_of_getElem? (i := 407) (by decide +kernel), List.mem_of_getElem? (i := 408) (by decide +kernel)⟩
theorem lw_p19 : lw_okq (⟨"PackedBitsModel", "begin", "()V"⟩, 6) := ⟨⟨by decide +kernel, by decide +kernel⟩, List.mem_of_getElem? (i := 335) (by decide +kernel), List.mem_of_getElem? (i := 419) (by decide +kernel), List.mem_of_getElem? (i := 420) (by decide +kernel)⟩
theorem lw_p20 : lw_okq (⟨"PackedBitsModel", "get", "(I)J"⟩, 6) := ⟨⟨by decide +kernel, by decide +kernel⟩, List.mem_of_getElem? (i := 335) (by decide +kernel), List.mem_of_getElem? (i := 423) (by decide +kernel), List.mem_of_getElem? (i := 424) (by decide +kernel)⟩
theorem lw_p21 : lw_okq (⟨"PackedBitsModel", "done", "(JI)J"⟩, 6) := ⟨⟨by decide +kernel, by decide +kernel⟩, List.mem_of_getElem? (i := 335) (by decide +kernel), List.mem_of_getElem? (i := 427) (by decide +kernel), List.mem_of_getElem? (i := 428) (by decide +kernel)⟩
theorem lw_p22 : lw_okq (⟨"PackedBitsModel", "length", "()I"⟩, 6) := ⟨⟨by decide +kernel, by decide +kernel⟩, List.mem_of_getElem? (i := 335) (by decide +kernel), List.mem_of_getElem? (i := 439) (by decide +kernel), List.mem_of_getElem? (i := 440) (by decide +kernel)⟩
def lw_privs_2 : List (MethodName × Nat) := [(⟨"PackedBitsModel", "width", "(J)I"⟩, 6), (⟨"PackedBitsModel", "complement", "(J)I"⟩, 6), (⟨"PackedBitsModel", "bytesOf", "(J)I"⟩, 6), (⟨"PackedBitsModel", "begin", "()V"⟩, 6), (⟨"PackedBitsModel", "get", "(I)J"⟩, 6), (⟨"PackedBitsModel", "done", "(JI)J"⟩, 6), (⟨"PackedBitsModel", "length", "()I"⟩, 6)]
theorem lw_r2 : ∀ q ∈ lw_privs_2, lw_okq q := List.forall_mem_cons.mpr ⟨lw_p16, List.forall_mem_cons.mpr ⟨lw_p17, List.forall_mem_cons.mpr ⟨lw_p18, List.forall_mem_cons.mpr ⟨lw_p19, List.forall_mem_cons.mpr ⟨lw_p20, List.forall_mem_cons.mpr ⟨lw_p21, List.forall_mem_cons.mpr ⟨lw_p22, fun _ h => absurd h List.not_mem_nil⟩⟩⟩⟩⟩⟩⟩
def lw_privs : List (MethodName × Nat) := lw_privs_1 ++ (lw_privs_2)
def lw_tbl : List Cond := k2_sels lw_privs ++ tables_1
theorem lw_privs_ok : ∀ q ∈ lw_privs, lw_okq q := by
  show ∀ q ∈ lw_privs_1 ++ (lw_privs_2), lw_okq q
  exact List.forall_mem_append.mpr ⟨lw_r1, lw_r2⟩
/-- words that stay true under warmer tables -/
def xG : Cond → Bool
  | .castable .. => true
  | .declares .. => true
  | .stringRef .. => true
  | w => goodWord w
def XT : List Cond := lw_tbl.filter xG
theorem xT_in {w : Cond} (i : Nat) (h : tables_1[i]? = some w) (hg : xG w = true) : w ∈ XT := List.mem_filter.mpr ⟨List.mem_append_right _ (List.mem_of_getElem? h), hg⟩
theorem xT_sel {w : Cond} (i : Nat) (h : (k2_sels lw_privs)[i]? = some w) (hg : xG w = true) : w ∈ XT := List.mem_filter.mpr ⟨List.mem_append_left _ (List.mem_of_getElem? h), hg⟩
theorem xT_good : ∀ w ∈ XT, xG w = true := fun w h => (List.mem_filter.mp h).2
def R_X : String := "PackedBits"
def R_M : String := "PackedBitsModel"
def R_L : String := "PackedBitsLaw"
def R_J : String := "java/lang/Long"
def R_I : String := "java/lang/Integer"
def E_IA : String := "java/lang/IllegalArgumentException"
def E_IO : String := "java/lang/IndexOutOfBoundsException"
def E_UO : String := "java/lang/UnsupportedOperationException"
def F_X : u_T := fun k => match k with
  | 0 => ("PackedBits", "words", "[J", true)
  | 1 => ("PackedBits", "size", "I", false)
  | _ => ("PackedBits", "place", "I", false)
def t_X : Nat → FieldType := fun k => match k with
  | 0 => .array .long
  | 1 => .int
  | _ => .int
theorem n_X : ∀ a, a < 3 → ∀ b, b < 3 → a ≠ b → (F_X a).2.1 ≠ (F_X b).2.1 := by decide +kernel
theorem t_X_ok : ∀ k, k < 3 → parseFieldDescriptor (F_X k).2.2.1 = some (t_X k) := by decide +kernel
theorem in_X : ∀ w ∈ u_ws R_X F_X 3, w ∈ XT := by decide +kernel
def F_M : u_T := fun k => match k with
  | 0 => ("PackedBitsModel", "failed", "I", false)
  | 1 => ("PackedBitsModel", "row", "[Z", true)
  | 2 => ("PackedBitsModel", "size", "I", false)
  | 3 => ("PackedBitsModel", "place", "I", false)
  | 4 => ("PackedBitsModel", "reading", "I", false)
  | _ => ("PackedBitsModel", "good", "Z", false)
def t_M : Nat → FieldType := fun k => match k with
  | 0 => .int
  | 1 => .array .boolean
  | 2 => .int
  | 3 => .int
  | 4 => .int
  | _ => .boolean
theorem n_M : ∀ a, a < 6 → ∀ b, b < 6 → a ≠ b → (F_M a).2.1 ≠ (F_M b).2.1 := by decide +kernel
theorem t_M_ok : ∀ k, k < 6 → parseFieldDescriptor (F_M k).2.2.1 = some (t_M k) := by decide +kernel
theorem in_M : ∀ w ∈ u_ws R_M F_M 6, w ∈ XT := by decide +kernel
abbrev ix_words : Nat := 9
theorem fl_X_words : Cond.fieldLink R_X 9 "PackedBits" "words" "[J" ∈ XT := xT_in 20 rfl rfl
abbrev ix_size : Nat := 13
theorem fl_X_size : Cond.fieldLink R_X 13 "PackedBits" "size" "I" ∈ XT := xT_in 21 rfl rfl
abbrev ix_place : Nat := 17
theorem fl_X_place : Cond.fieldLink R_X 17 "PackedBits" "place" "I" ∈ XT := xT_in 22 rfl rfl
abbrev im_row : Nat := 8
theorem fl_M_row : Cond.fieldLink R_M 8 "PackedBitsModel" "row" "[Z" ∈ XT := xT_in 342 rfl rfl
abbrev im_failed : Nat := 14
theorem fl_M_failed : Cond.fieldLink R_M 14 "PackedBitsModel" "failed" "I" ∈ XT := xT_in 341 rfl rfl
abbrev im_size : Nat := 24
theorem fl_M_size : Cond.fieldLink R_M 24 "PackedBitsModel" "size" "I" ∈ XT := xT_in 343 rfl rfl
abbrev im_reading : Nat := 57
theorem fl_M_reading : Cond.fieldLink R_M 57 "PackedBitsModel" "reading" "I" ∈ XT := xT_in 345 rfl rfl
abbrev im_good : Nat := 60
theorem fl_M_good : Cond.fieldLink R_M 60 "PackedBitsModel" "good" "Z" ∈ XT := xT_in 346 rfl rfl
abbrev im_place : Nat := 64
theorem fl_M_place : Cond.fieldLink R_M 64 "PackedBitsModel" "place" "I" ∈ XT := xT_in 344 rfl rfl
abbrev b_X_init : ByteArray := prog_1_method_1_code
def y_X_init : MethodName := ⟨R_X, "<init>", "()V"⟩
theorem cw_X_init : Cond.code y_X_init b_X_init 1 none ∈ XT := xT_in 16 rfl rfl
abbrev w_X_init : List Cond := Cond.code y_X_init b_X_init 1 none :: XT
abbrev b_L_put : ByteArray := method_3_code
def y_L_put : MethodName := ⟨R_L, "put", "(LPackedBits;JI[J)I"⟩
theorem cw_L_put : Cond.codeWith y_L_put b_L_put 6 (some .int) [(0, 11, 14, 13), (0, 11, 18, 15)] ∈ XT := xT_in 33 rfl rfl
abbrev w_L_put : List Cond := Cond.codeWith y_L_put b_L_put 6 (some .int) [(0, 11, 14, 13), (0, 11, 18, 15)] :: XT
abbrev b_X_put : ByteArray := prog_1_method_2_code
def y_X_put : MethodName := ⟨R_X, "put", "(JI)I"⟩
theorem cw_X_put : Cond.code y_X_put b_X_put 4 (some .int) ∈ XT := xT_in 39 rfl rfl
abbrev w_X_put : List Cond := Cond.code y_X_put b_X_put 4 (some .int) :: XT
abbrev b_X_requireWidth : ByteArray := prog_1_method_15_code
def y_X_requireWidth : MethodName := ⟨R_X, "requireWidth", "(I)V"⟩
theorem cw_X_requireWidth : Cond.code y_X_requireWidth b_X_requireWidth 1 none ∈ XT := xT_in 42 rfl rfl
abbrev w_X_requireWidth : List Cond := Cond.code y_X_requireWidth b_X_requireWidth 1 none :: XT
abbrev b_X_requireRoom : ByteArray := prog_1_method_18_code
def y_X_requireRoom : MethodName := ⟨R_X, "requireRoom", "(I)V"⟩
theorem cw_X_requireRoom : Cond.code y_X_requireRoom b_X_requireRoom 2 none ∈ XT := xT_in 114 rfl rfl
abbrev w_X_requireRoom : List Cond := Cond.code y_X_requireRoom b_X_requireRoom 2 none :: XT
abbrev b_X_append : ByteArray := prog_1_method_19_code
def y_X_append : MethodName := ⟨R_X, "append", "(JI)V"⟩
theorem cw_X_append : Cond.code y_X_append b_X_append 5 none ∈ XT := xT_in 135 rfl rfl
abbrev w_X_append : List Cond := Cond.code y_X_append b_X_append 5 none :: XT
abbrev b_X_setBit : ByteArray := prog_1_method_21_code
def y_X_setBit : MethodName := ⟨R_X, "setBit", "(IJ)V"⟩
theorem cw_X_setBit : Cond.code y_X_setBit b_X_setBit 7 none ∈ XT := xT_in 139 rfl rfl
abbrev w_X_setBit : List Cond := Cond.code y_X_setBit b_X_setBit 7 none :: XT
abbrev b_L_putRange : ByteArray := method_4_code
def y_L_putRange : MethodName := ⟨R_L, "putRange", "(LPackedBits;JJJ[J)I"⟩
theorem cw_L_putRange : Cond.codeWith y_L_putRange b_L_putRange 9 (some .int) [(0, 13, 16, 13), (0, 13, 20, 15)] ∈ XT := xT_in 143 rfl rfl
abbrev w_L_putRange : List Cond := Cond.codeWith y_L_putRange b_L_putRange 9 (some .int) [(0, 13, 16, 13), (0, 13, 20, 15)] :: XT
abbrev b_X_putRange : ByteArray := prog_1_method_3_code
def y_X_putRange : MethodName := ⟨R_X, "putRange", "(JJJ)I"⟩
theorem cw_X_putRange : Cond.code y_X_putRange b_X_putRange 8 (some .int) ∈ XT := xT_in 147 rfl rfl
abbrev w_X_putRange : List Cond := Cond.code y_X_putRange b_X_putRange 8 (some .int) :: XT
abbrev b_X_bitsToHold : ByteArray := prog_1_method_30_code
def y_X_bitsToHold : MethodName := ⟨R_X, "bitsToHold", "(J)I"⟩
theorem cw_X_bitsToHold : Cond.code y_X_bitsToHold b_X_bitsToHold 2 (some .int) ∈ XT := xT_in 151 rfl rfl
abbrev w_X_bitsToHold : List Cond := Cond.code y_X_bitsToHold b_X_bitsToHold 2 (some .int) :: XT
abbrev b_J_numberOfLeadingZeros : ByteArray := prog_8_method_48_code
def y_J_numberOfLeadingZeros : MethodName := ⟨R_J, "numberOfLeadingZeros", "(J)I"⟩
theorem cw_J_numberOfLeadingZeros : Cond.code y_J_numberOfLeadingZeros b_J_numberOfLeadingZeros 3 (some .int) ∈ XT := xT_in 154 rfl rfl
abbrev w_J_numberOfLeadingZeros : List Cond := Cond.code y_J_numberOfLeadingZeros b_J_numberOfLeadingZeros 3 (some .int) :: XT
abbrev b_I_numberOfLeadingZeros : ByteArray := prog_7_method_47_code
def y_I_numberOfLeadingZeros : MethodName := ⟨R_I, "numberOfLeadingZeros", "(I)I"⟩
theorem cw_I_numberOfLeadingZeros : Cond.code y_I_numberOfLeadingZeros b_I_numberOfLeadingZeros 2 (some .int) ∈ XT := xT_in 157 rfl rfl
abbrev w_I_numberOfLeadingZeros : List Cond := Cond.code y_I_numberOfLeadingZeros b_I_numberOfLeadingZeros 2 (some .int) :: XT
abbrev b_L_putLength : ByteArray := method_5_code
def y_L_putLength : MethodName := ⟨R_L, "putLength", "(LPackedBits;I[J)I"⟩
theorem cw_L_putLength : Cond.codeWith y_L_putLength b_L_putLength 4 (some .int) [(0, 9, 12, 13), (0, 9, 15, 15)] ∈ XT := xT_in 161 rfl rfl
abbrev w_L_putLength : List Cond := Cond.codeWith y_L_putLength b_L_putLength 4 (some .int) [(0, 9, 12, 13), (0, 9, 15, 15)] :: XT
abbrev b_X_putLength : ByteArray := prog_1_method_4_code
def y_X_putLength : MethodName := ⟨R_X, "putLength", "(I)I"⟩
theorem cw_X_putLength : Cond.code y_X_putLength b_X_putLength 3 (some .int) ∈ XT := xT_in 165 rfl rfl
abbrev w_X_putLength : List Cond := Cond.code y_X_putLength b_X_putLength 3 (some .int) :: XT
abbrev b_X_lengthWidth : ByteArray := prog_1_method_32_code
def y_X_lengthWidth : MethodName := ⟨R_X, "lengthWidth", "(I)I"⟩
theorem cw_X_lengthWidth : Cond.code y_X_lengthWidth b_X_lengthWidth 1 (some .int) ∈ XT := xT_in 172 rfl rfl
abbrev w_X_lengthWidth : List Cond := Cond.code y_X_lengthWidth b_X_lengthWidth 1 (some .int) :: XT
abbrev b_X_lengthCode : ByteArray := prog_1_method_33_code
def y_X_lengthCode : MethodName := ⟨R_X, "lengthCode", "(I)I"⟩
theorem cw_X_lengthCode : Cond.code y_X_lengthCode b_X_lengthCode 1 (some .int) ∈ XT := xT_in 175 rfl rfl
abbrev w_X_lengthCode : List Cond := Cond.code y_X_lengthCode b_X_lengthCode 1 (some .int) :: XT
abbrev b_L_putNumber : ByteArray := method_6_code
def y_L_putNumber : MethodName := ⟨R_L, "putNumber", "(LPackedBits;IJ[J)I"⟩
theorem cw_L_putNumber : Cond.codeWith y_L_putNumber b_L_putNumber 6 (some .int) [(0, 11, 14, 13), (0, 11, 18, 15)] ∈ XT := xT_in 179 rfl rfl
abbrev w_L_putNumber : List Cond := Cond.codeWith y_L_putNumber b_L_putNumber 6 (some .int) [(0, 11, 14, 13), (0, 11, 18, 15)] :: XT
abbrev b_X_putNumber : ByteArray := prog_1_method_5_code
def y_X_putNumber : MethodName := ⟨R_X, "putNumber", "(IJ)I"⟩
theorem cw_X_putNumber : Cond.code y_X_putNumber b_X_putNumber 4 (some .int) ∈ XT := xT_in 183 rfl rfl
abbrev w_X_putNumber : List Cond := Cond.code y_X_putNumber b_X_putNumber 4 (some .int) :: XT
abbrev b_X_requireKind : ByteArray := prog_1_method_16_code
def y_X_requireKind : MethodName := ⟨R_X, "requireKind", "(I)V"⟩
theorem cw_X_requireKind : Cond.code y_X_requireKind b_X_requireKind 1 none ∈ XT := xT_in 186 rfl rfl
abbrev w_X_requireKind : List Cond := Cond.code y_X_requireKind b_X_requireKind 1 none :: XT
abbrev b_X_isSmall : ByteArray := prog_1_method_29_code
def y_X_isSmall : MethodName := ⟨R_X, "isSmall", "(J)Z"⟩
theorem cw_X_isSmall : Cond.code y_X_isSmall b_X_isSmall 2 (some .boolean) ∈ XT := xT_in 190 rfl rfl
abbrev w_X_isSmall : List Cond := Cond.code y_X_isSmall b_X_isSmall 2 (some .boolean) :: XT
abbrev b_X_appendNumber : ByteArray := prog_1_method_20_code
def y_X_appendNumber : MethodName := ⟨R_X, "appendNumber", "(IJ)V"⟩
theorem cw_X_appendNumber : Cond.code y_X_appendNumber b_X_appendNumber 5 none ∈ XT := xT_in 195 rfl rfl
abbrev w_X_appendNumber : List Cond := Cond.code y_X_appendNumber b_X_appendNumber 5 none :: XT
abbrev b_X_bytesToHold : ByteArray := prog_1_method_31_code
def y_X_bytesToHold : MethodName := ⟨R_X, "bytesToHold", "(IJ)I"⟩
theorem cw_X_bytesToHold : Cond.code y_X_bytesToHold b_X_bytesToHold 4 (some .int) ∈ XT := xT_in 198 rfl rfl
abbrev w_X_bytesToHold : List Cond := Cond.code y_X_bytesToHold b_X_bytesToHold 4 (some .int) :: XT
abbrev b_X_numberWidth : ByteArray := prog_1_method_34_code
def y_X_numberWidth : MethodName := ⟨R_X, "numberWidth", "(IJ)I"⟩
theorem cw_X_numberWidth : Cond.code y_X_numberWidth b_X_numberWidth 4 (some .int) ∈ XT := xT_in 204 rfl rfl
abbrev w_X_numberWidth : List Cond := Cond.code y_X_numberWidth b_X_numberWidth 4 (some .int) :: XT
abbrev b_L_fill : ByteArray := method_7_code
def y_L_fill : MethodName := ⟨R_L, "fill", "(LPackedBits;[J)I"⟩
theorem cw_L_fill : Cond.codeWith y_L_fill b_L_fill 3 (some .int) [(0, 8, 11, 15)] ∈ XT := xT_in 207 rfl rfl
abbrev w_L_fill : List Cond := Cond.codeWith y_L_fill b_L_fill 3 (some .int) [(0, 8, 11, 15)] :: XT
abbrev b_X_fill : ByteArray := prog_1_method_6_code
def y_X_fill : MethodName := ⟨R_X, "fill", "()I"⟩
theorem cw_X_fill : Cond.code y_X_fill b_X_fill 2 (some .int) ∈ XT := xT_in 211 rfl rfl
abbrev w_X_fill : List Cond := Cond.code y_X_fill b_X_fill 2 (some .int) :: XT
abbrev b_L_take : ByteArray := method_8_code
def y_L_take : MethodName := ⟨R_L, "take", "(LPackedBits;I[J)I"⟩
theorem cw_L_take : Cond.codeWith y_L_take b_L_take 4 (some .int) [(0, 8, 11, 13), (0, 8, 14, 37)] ∈ XT := xT_in 214 rfl rfl
abbrev w_L_take : List Cond := Cond.codeWith y_L_take b_L_take 4 (some .int) [(0, 8, 11, 13), (0, 8, 14, 37)] :: XT
abbrev b_X_take : ByteArray := prog_1_method_7_code
def y_X_take : MethodName := ⟨R_X, "take", "(I)J"⟩
theorem cw_X_take : Cond.code y_X_take b_X_take 4 (some .long) ∈ XT := xT_in 219 rfl rfl
abbrev w_X_take : List Cond := Cond.code y_X_take b_X_take 4 (some .long) :: XT
abbrev b_X_bitsAt : ByteArray := prog_1_method_23_code
def y_X_bitsAt : MethodName := ⟨R_X, "bitsAt", "(II)J"⟩
theorem cw_X_bitsAt : Cond.code y_X_bitsAt b_X_bitsAt 6 (some .long) ∈ XT := xT_in 223 rfl rfl
abbrev w_X_bitsAt : List Cond := Cond.code y_X_bitsAt b_X_bitsAt 6 (some .long) :: XT
abbrev b_X_bit : ByteArray := prog_1_method_22_code
def y_X_bit : MethodName := ⟨R_X, "bit", "(I)J"⟩
theorem cw_X_bit : Cond.code y_X_bit b_X_bit 2 (some .long) ∈ XT := xT_in 243 rfl rfl
abbrev w_X_bit : List Cond := Cond.code y_X_bit b_X_bit 2 (some .long) :: XT
abbrev b_L_takeRange : ByteArray := method_9_code
def y_L_takeRange : MethodName := ⟨R_L, "takeRange", "(LPackedBits;JJ[J)I"⟩
theorem cw_L_takeRange : Cond.codeWith y_L_takeRange b_L_takeRange 7 (some .int) [(0, 10, 13, 13), (0, 10, 17, 37)] ∈ XT := xT_in 246 rfl rfl
abbrev w_L_takeRange : List Cond := Cond.codeWith y_L_takeRange b_L_takeRange 7 (some .int) [(0, 10, 13, 13), (0, 10, 17, 37)] :: XT
abbrev b_X_takeRange : ByteArray := prog_1_method_8_code
def y_X_takeRange : MethodName := ⟨R_X, "takeRange", "(JJ)J"⟩
theorem cw_X_takeRange : Cond.code y_X_takeRange b_X_takeRange 8 (some .long) ∈ XT := xT_in 250 rfl rfl
abbrev w_X_takeRange : List Cond := Cond.code y_X_takeRange b_X_takeRange 8 (some .long) :: XT
abbrev b_J_compareUnsigned : ByteArray := prog_8_method_43_code
def y_J_compareUnsigned : MethodName := ⟨R_J, "compareUnsigned", "(JJ)I"⟩
theorem cw_J_compareUnsigned : Cond.code y_J_compareUnsigned b_J_compareUnsigned 4 (some .int) ∈ XT := xT_in 254 rfl rfl
abbrev w_J_compareUnsigned : List Cond := Cond.code y_J_compareUnsigned b_J_compareUnsigned 4 (some .int) :: XT
abbrev b_J_compare : ByteArray := prog_8_method_42_code
def y_J_compare : MethodName := ⟨R_J, "compare", "(JJ)I"⟩
theorem cw_J_compare : Cond.code y_J_compare b_J_compare 4 (some .int) ∈ XT := xT_in 258 rfl rfl
abbrev w_J_compare : List Cond := Cond.code y_J_compare b_J_compare 4 (some .int) :: XT
abbrev b_L_takeLength : ByteArray := method_10_code
def y_L_takeLength : MethodName := ⟨R_L, "takeLength", "(LPackedBits;[J)I"⟩
theorem cw_L_takeLength : Cond.codeWith y_L_takeLength b_L_takeLength 3 (some .int) [(0, 8, 11, 37)] ∈ XT := xT_in 262 rfl rfl
abbrev w_L_takeLength : List Cond := Cond.codeWith y_L_takeLength b_L_takeLength 3 (some .int) [(0, 8, 11, 37)] :: XT
abbrev b_X_takeLength : ByteArray := prog_1_method_9_code
def y_X_takeLength : MethodName := ⟨R_X, "takeLength", "()I"⟩
theorem cw_X_takeLength : Cond.code y_X_takeLength b_X_takeLength 2 (some .int) ∈ XT := xT_in 266 rfl rfl
abbrev w_X_takeLength : List Cond := Cond.code y_X_takeLength b_X_takeLength 2 (some .int) :: XT
abbrev b_X_lengthAt : ByteArray := prog_1_method_24_code
def y_X_lengthAt : MethodName := ⟨R_X, "lengthAt", "(I)I"⟩
theorem cw_X_lengthAt : Cond.code y_X_lengthAt b_X_lengthAt 2 (some .int) ∈ XT := xT_in 270 rfl rfl
abbrev w_X_lengthAt : List Cond := Cond.code y_X_lengthAt b_X_lengthAt 2 (some .int) :: XT
abbrev b_X_longLengthAt : ByteArray := prog_1_method_25_code
def y_X_longLengthAt : MethodName := ⟨R_X, "longLengthAt", "(I)I"⟩
theorem cw_X_longLengthAt : Cond.code y_X_longLengthAt b_X_longLengthAt 3 (some .int) ∈ XT := xT_in 274 rfl rfl
abbrev w_X_longLengthAt : List Cond := Cond.code y_X_longLengthAt b_X_longLengthAt 3 (some .int) :: XT
abbrev b_X_piecesAt : ByteArray := prog_1_method_26_code
def y_X_piecesAt : MethodName := ⟨R_X, "piecesAt", "(I)I"⟩
theorem cw_X_piecesAt : Cond.code y_X_piecesAt b_X_piecesAt 3 (some .int) ∈ XT := xT_in 279 rfl rfl
abbrev w_X_piecesAt : List Cond := Cond.code y_X_piecesAt b_X_piecesAt 3 (some .int) :: XT
abbrev b_L_takeNumber : ByteArray := method_11_code
def y_L_takeNumber : MethodName := ⟨R_L, "takeNumber", "(LPackedBits;I[J)I"⟩
theorem cw_L_takeNumber : Cond.codeWith y_L_takeNumber b_L_takeNumber 4 (some .int) [(0, 8, 11, 13), (0, 8, 14, 37)] ∈ XT := xT_in 283 rfl rfl
abbrev w_L_takeNumber : List Cond := Cond.codeWith y_L_takeNumber b_L_takeNumber 4 (some .int) [(0, 8, 11, 13), (0, 8, 14, 37)] :: XT
abbrev b_X_takeNumber : ByteArray := prog_1_method_10_code
def y_X_takeNumber : MethodName := ⟨R_X, "takeNumber", "(I)J"⟩
theorem cw_X_takeNumber : Cond.code y_X_takeNumber b_X_takeNumber 4 (some .long) ∈ XT := xT_in 287 rfl rfl
abbrev w_X_takeNumber : List Cond := Cond.code y_X_takeNumber b_X_takeNumber 4 (some .long) :: XT
abbrev b_X_smallAt : ByteArray := prog_1_method_27_code
def y_X_smallAt : MethodName := ⟨R_X, "smallAt", "(I)J"⟩
theorem cw_X_smallAt : Cond.code y_X_smallAt b_X_smallAt 4 (some .long) ∈ XT := xT_in 291 rfl rfl
abbrev w_X_smallAt : List Cond := Cond.code y_X_smallAt b_X_smallAt 4 (some .long) :: XT
abbrev b_X_numberAt : ByteArray := prog_1_method_28_code
def y_X_numberAt : MethodName := ⟨R_X, "numberAt", "(II)J"⟩
theorem cw_X_numberAt : Cond.code y_X_numberAt b_X_numberAt 7 (some .long) ∈ XT := xT_in 295 rfl rfl
abbrev w_X_numberAt : List Cond := Cond.code y_X_numberAt b_X_numberAt 7 (some .long) :: XT
abbrev b_L_go : ByteArray := method_12_code
def y_L_go : MethodName := ⟨R_L, "go", "(LPackedBits;I[J)I"⟩
theorem cw_L_go : Cond.codeWith y_L_go b_L_go 4 (some .int) [(0, 9, 12, 13)] ∈ XT := xT_in 301 rfl rfl
abbrev w_L_go : List Cond := Cond.codeWith y_L_go b_L_go 4 (some .int) [(0, 9, 12, 13)] :: XT
abbrev b_X_go : ByteArray := prog_1_method_11_code
def y_X_go : MethodName := ⟨R_X, "go", "(I)I"⟩
theorem cw_X_go : Cond.code y_X_go b_X_go 3 (some .int) ∈ XT := xT_in 305 rfl rfl
abbrev w_X_go : List Cond := Cond.code y_X_go b_X_go 3 (some .int) :: XT
abbrev b_X_requireCut : ByteArray := prog_1_method_17_code
def y_X_requireCut : MethodName := ⟨R_X, "requireCut", "(I)V"⟩
theorem cw_X_requireCut : Cond.code y_X_requireCut b_X_requireCut 2 none ∈ XT := xT_in 309 rfl rfl
abbrev w_X_requireCut : List Cond := Cond.code y_X_requireCut b_X_requireCut 2 none :: XT
abbrev b_L_turn : ByteArray := method_13_code
def y_L_turn : MethodName := ⟨R_L, "turn", "(LPackedBits;I[J)I"⟩
theorem cw_L_turn : Cond.codeWith y_L_turn b_L_turn 4 (some .int) [(0, 16, 19, 13)] ∈ XT := xT_in 313 rfl rfl
abbrev w_L_turn : List Cond := Cond.codeWith y_L_turn b_L_turn 4 (some .int) [(0, 16, 19, 13)] :: XT
abbrev b_X_turn : ByteArray := prog_1_method_12_code
def y_X_turn : MethodName := ⟨R_X, "turn", "(I)Z"⟩
theorem cw_X_turn : Cond.code y_X_turn b_X_turn 4 (some .boolean) ∈ XT := xT_in 317 rfl rfl
abbrev w_X_turn : List Cond := Cond.code y_X_turn b_X_turn 4 (some .boolean) :: XT
abbrev b_L_cut : ByteArray := method_14_code
def y_L_cut : MethodName := ⟨R_L, "cut", "(LPackedBits;I[J)I"⟩
theorem cw_L_cut : Cond.codeWith y_L_cut b_L_cut 4 (some .int) [(0, 9, 12, 13)] ∈ XT := xT_in 321 rfl rfl
abbrev w_L_cut : List Cond := Cond.codeWith y_L_cut b_L_cut 4 (some .int) [(0, 9, 12, 13)] :: XT
abbrev b_X_cut : ByteArray := prog_1_method_13_code
def y_X_cut : MethodName := ⟨R_X, "cut", "(I)I"⟩
theorem cw_X_cut : Cond.code y_X_cut b_X_cut 3 (some .int) ∈ XT := xT_in 325 rfl rfl
abbrev w_X_cut : List Cond := Cond.code y_X_cut b_X_cut 3 (some .int) :: XT
abbrev b_L_count : ByteArray := method_15_code
def y_L_count : MethodName := ⟨R_L, "count", "(LPackedBits;I[J)I"⟩
theorem cw_L_count : Cond.codeWith y_L_count b_L_count 4 (some .int) [(0, 9, 12, 13)] ∈ XT := xT_in 328 rfl rfl
abbrev w_L_count : List Cond := Cond.codeWith y_L_count b_L_count 4 (some .int) [(0, 9, 12, 13)] :: XT
abbrev b_X_count : ByteArray := prog_1_method_14_code
def y_X_count : MethodName := ⟨R_X, "count", "(I)I"⟩
theorem cw_X_count : Cond.code y_X_count b_X_count 2 (some .int) ∈ XT := xT_in 332 rfl rfl
abbrev w_X_count : List Cond := Cond.code y_X_count b_X_count 2 (some .int) :: XT
abbrev b_M_init : ByteArray := prog_3_method_1_code
def y_M_init : MethodName := ⟨R_M, "<init>", "()V"⟩
theorem cw_M_init : Cond.code y_M_init b_M_init 1 none ∈ XT := xT_in 338 rfl rfl
abbrev w_M_init : List Cond := Cond.code y_M_init b_M_init 1 none :: XT
abbrev b_M_thrown : ByteArray := prog_3_method_2_code
def y_M_thrown : MethodName := ⟨R_M, "thrown", "()I"⟩
theorem cw_M_thrown : Cond.code y_M_thrown b_M_thrown 1 (some .int) ∈ XT := xT_in 364 rfl rfl
abbrev w_M_thrown : List Cond := Cond.code y_M_thrown b_M_thrown 1 (some .int) :: XT
abbrev b_M_put : ByteArray := prog_3_method_9_code
def y_M_put : MethodName := ⟨R_M, "put", "(JI)I"⟩
theorem cw_M_put : Cond.code y_M_put b_M_put 4 (some .int) ∈ XT := xT_in 368 rfl rfl
abbrev w_M_put : List Cond := Cond.code y_M_put b_M_put 4 (some .int) :: XT
abbrev b_M_fail : ByteArray := prog_3_method_3_code
def y_M_fail : MethodName := ⟨R_M, "fail", "(I)I"⟩
theorem cw_M_fail : Cond.code y_M_fail b_M_fail 2 (some .int) ∈ XT := xT_in 372 rfl rfl
abbrev w_M_fail : List Cond := Cond.code y_M_fail b_M_fail 2 (some .int) :: XT
abbrev b_M_write : ByteArray := prog_3_method_8_code
def y_M_write : MethodName := ⟨R_M, "write", "(JII)I"⟩
theorem cw_M_write : Cond.code y_M_write b_M_write 5 (some .int) ∈ XT := xT_in 376 rfl rfl
abbrev w_M_write : List Cond := Cond.code y_M_write b_M_write 5 (some .int) :: XT
abbrev b_M_append : ByteArray := prog_3_method_7_code
def y_M_append : MethodName := ⟨R_M, "append", "(JI)V"⟩
theorem cw_M_append : Cond.code y_M_append b_M_append 5 none ∈ XT := xT_in 380 rfl rfl
abbrev w_M_append : List Cond := Cond.code y_M_append b_M_append 5 none :: XT
abbrev b_M_putRange : ByteArray := prog_3_method_10_code
def y_M_putRange : MethodName := ⟨R_M, "putRange", "(JJJ)I"⟩
theorem cw_M_putRange : Cond.code y_M_putRange b_M_putRange 7 (some .int) ∈ XT := xT_in 384 rfl rfl
abbrev w_M_putRange : List Cond := Cond.code y_M_putRange b_M_putRange 7 (some .int) :: XT
abbrev b_M_width : ByteArray := prog_3_method_4_code
def y_M_width : MethodName := ⟨R_M, "width", "(J)I"⟩
theorem cw_M_width : Cond.code y_M_width b_M_width 4 (some .int) ∈ XT := xT_in 388 rfl rfl
abbrev w_M_width : List Cond := Cond.code y_M_width b_M_width 4 (some .int) :: XT
abbrev b_M_putLength : ByteArray := prog_3_method_11_code
def y_M_putLength : MethodName := ⟨R_M, "putLength", "(I)I"⟩
theorem cw_M_putLength : Cond.code y_M_putLength b_M_putLength 4 (some .int) ∈ XT := xT_in 392 rfl rfl
abbrev w_M_putLength : List Cond := Cond.code y_M_putLength b_M_putLength 4 (some .int) :: XT
abbrev b_M_putNumber : ByteArray := prog_3_method_12_code
def y_M_putNumber : MethodName := ⟨R_M, "putNumber", "(IJ)I"⟩
theorem cw_M_putNumber : Cond.code y_M_putNumber b_M_putNumber 7 (some .int) ∈ XT := xT_in 399 rfl rfl
abbrev w_M_putNumber : List Cond := Cond.code y_M_putNumber b_M_putNumber 7 (some .int) :: XT
abbrev b_M_complement : ByteArray := prog_3_method_6_code
def y_M_complement : MethodName := ⟨R_M, "complement", "(J)I"⟩
theorem cw_M_complement : Cond.code y_M_complement b_M_complement 4 (some .int) ∈ XT := xT_in 404 rfl rfl
abbrev w_M_complement : List Cond := Cond.code y_M_complement b_M_complement 4 (some .int) :: XT
abbrev b_M_bytesOf : ByteArray := prog_3_method_5_code
def y_M_bytesOf : MethodName := ⟨R_M, "bytesOf", "(J)I"⟩
theorem cw_M_bytesOf : Cond.code y_M_bytesOf b_M_bytesOf 3 (some .int) ∈ XT := xT_in 409 rfl rfl
abbrev w_M_bytesOf : List Cond := Cond.code y_M_bytesOf b_M_bytesOf 3 (some .int) :: XT
abbrev b_M_fill : ByteArray := prog_3_method_13_code
def y_M_fill : MethodName := ⟨R_M, "fill", "()I"⟩
theorem cw_M_fill : Cond.code y_M_fill b_M_fill 2 (some .int) ∈ XT := xT_in 413 rfl rfl
abbrev w_M_fill : List Cond := Cond.code y_M_fill b_M_fill 2 (some .int) :: XT
abbrev b_M_take : ByteArray := prog_3_method_17_code
def y_M_take : MethodName := ⟨R_M, "take", "(I)J"⟩
theorem cw_M_take : Cond.code y_M_take b_M_take 2 (some .long) ∈ XT := xT_in 417 rfl rfl
abbrev w_M_take : List Cond := Cond.code y_M_take b_M_take 2 (some .long) :: XT
abbrev b_M_begin : ByteArray := prog_3_method_15_code
def y_M_begin : MethodName := ⟨R_M, "begin", "()V"⟩
theorem cw_M_begin : Cond.code y_M_begin b_M_begin 1 none ∈ XT := xT_in 421 rfl rfl
abbrev w_M_begin : List Cond := Cond.code y_M_begin b_M_begin 1 none :: XT
abbrev b_M_get : ByteArray := prog_3_method_14_code
def y_M_get : MethodName := ⟨R_M, "get", "(I)J"⟩
theorem cw_M_get : Cond.code y_M_get b_M_get 5 (some .long) ∈ XT := xT_in 425 rfl rfl
abbrev w_M_get : List Cond := Cond.code y_M_get b_M_get 5 (some .long) :: XT
abbrev b_M_done : ByteArray := prog_3_method_16_code
def y_M_done : MethodName := ⟨R_M, "done", "(JI)J"⟩
theorem cw_M_done : Cond.code y_M_done b_M_done 4 (some .long) ∈ XT := xT_in 429 rfl rfl
abbrev w_M_done : List Cond := Cond.code y_M_done b_M_done 4 (some .long) :: XT
abbrev b_M_takeRange : ByteArray := prog_3_method_18_code
def y_M_takeRange : MethodName := ⟨R_M, "takeRange", "(JJ)J"⟩
theorem cw_M_takeRange : Cond.code y_M_takeRange b_M_takeRange 9 (some .long) ∈ XT := xT_in 433 rfl rfl
abbrev w_M_takeRange : List Cond := Cond.code y_M_takeRange b_M_takeRange 9 (some .long) :: XT
abbrev b_M_takeLength : ByteArray := prog_3_method_20_code
def y_M_takeLength : MethodName := ⟨R_M, "takeLength", "()I"⟩
theorem cw_M_takeLength : Cond.code y_M_takeLength b_M_takeLength 1 (some .int) ∈ XT := xT_in 437 rfl rfl
abbrev w_M_takeLength : List Cond := Cond.code y_M_takeLength b_M_takeLength 1 (some .int) :: XT
abbrev b_M_length : ByteArray := prog_3_method_19_code
def y_M_length : MethodName := ⟨R_M, "length", "()I"⟩
theorem cw_M_length : Cond.code y_M_length b_M_length 2 (some .int) ∈ XT := xT_in 441 rfl rfl
abbrev w_M_length : List Cond := Cond.code y_M_length b_M_length 2 (some .int) :: XT
abbrev b_M_takeNumber : ByteArray := prog_3_method_21_code
def y_M_takeNumber : MethodName := ⟨R_M, "takeNumber", "(I)J"⟩
theorem cw_M_takeNumber : Cond.code y_M_takeNumber b_M_takeNumber 5 (some .long) ∈ XT := xT_in 445 rfl rfl
abbrev w_M_takeNumber : List Cond := Cond.code y_M_takeNumber b_M_takeNumber 5 (some .long) :: XT
abbrev b_M_go : ByteArray := prog_3_method_22_code
def y_M_go : MethodName := ⟨R_M, "go", "(I)I"⟩
theorem cw_M_go : Cond.code y_M_go b_M_go 3 (some .int) ∈ XT := xT_in 449 rfl rfl
abbrev w_M_go : List Cond := Cond.code y_M_go b_M_go 3 (some .int) :: XT
abbrev b_M_turn : ByteArray := prog_3_method_23_code
def y_M_turn : MethodName := ⟨R_M, "turn", "(I)Z"⟩
theorem cw_M_turn : Cond.code y_M_turn b_M_turn 2 (some .boolean) ∈ XT := xT_in 453 rfl rfl
abbrev w_M_turn : List Cond := Cond.code y_M_turn b_M_turn 2 (some .boolean) :: XT
abbrev b_M_cut : ByteArray := prog_3_method_24_code
def y_M_cut : MethodName := ⟨R_M, "cut", "(I)I"⟩
theorem cw_M_cut : Cond.code y_M_cut b_M_cut 3 (some .int) ∈ XT := xT_in 457 rfl rfl
abbrev w_M_cut : List Cond := Cond.code y_M_cut b_M_cut 3 (some .int) :: XT
abbrev b_M_count : ByteArray := prog_3_method_25_code
def y_M_count : MethodName := ⟨R_M, "count", "(I)I"⟩
theorem cw_M_count : Cond.code y_M_count b_M_count 2 (some .int) ∈ XT := xT_in 461 rfl rfl
abbrev w_M_count : List Cond := Cond.code y_M_count b_M_count 2 (some .int) :: XT
theorem in_X_ini : Cond.initialized R_X ∈ XT := xT_in 1 rfl rfl
theorem in_M_ini : Cond.initialized R_M ∈ XT := xT_in 2 rfl rfl
theorem in_L_ini : Cond.initialized R_L ∈ XT := xT_in 0 rfl rfl
theorem in_J_ini : Cond.initialized R_J ∈ XT := xT_in 8 rfl rfl
theorem in_I_ini : Cond.initialized R_I ∈ XT := xT_in 9 rfl rfl
theorem ml_Math_init : Cond.initialized "java/lang/Math" ∈ XT := xT_in 10 rfl rfl
theorem in_IA_ini : Cond.initialized E_IA ∈ XT := xT_in 6 rfl rfl
theorem ca_IA : Cond.castable E_IA E_IA ∈ XT := xT_in 45 rfl rfl
theorem cl_X_IA : Cond.classLink R_X 31 E_IA ∈ XT := xT_in 43 rfl rfl
theorem cl_L_IA : Cond.classLink R_L 13 E_IA ∈ XT := xT_in 34 rfl rfl
theorem in_IO_ini : Cond.initialized E_IO ∈ XT := xT_in 7 rfl rfl
theorem ca_IO : Cond.castable E_IO E_IO ∈ XT := xT_in 118 rfl rfl
theorem cl_X_IO : Cond.classLink R_X 119 E_IO ∈ XT := xT_in 116 rfl rfl
theorem cl_L_IO : Cond.classLink R_L 15 E_IO ∈ XT := xT_in 35 rfl rfl
theorem in_UO_ini : Cond.initialized E_UO ∈ XT := xT_in 11 rfl rfl
theorem ca_UO : Cond.castable E_UO E_UO ∈ XT := xT_in 226 rfl rfl
theorem cl_X_UO : Cond.classLink R_X 80 E_UO ∈ XT := xT_in 224 rfl rfl
theorem cl_L_UO : Cond.classLink R_L 37 E_UO ∈ XT := xT_in 215 rfl rfl
theorem ml_max_static : Cond.static Lib.Math.max.name ∈ XT := xT_in 200 rfl rfl
theorem ml_max_code : Cond.code Lib.Math.max.name Lib.Math.max.code 2 (some .int) ∈ XT := xT_in 201 (by decide +kernel) rfl
theorem ml_X_max : Cond.methodLink R_X 152 Lib.Math.max.name ∈ XT := xT_in 199 rfl rfl
theorem ml_min_static : Cond.static Lib.Math.min.name ∈ XT := xT_in 168 rfl rfl
theorem ml_min_code : Cond.code Lib.Math.min.name Lib.Math.min.code 2 (some .int) ∈ XT := xT_in 169 (by decide +kernel) rfl
theorem ml_X_min : Cond.methodLink R_X 44 Lib.Math.min.name ∈ XT := xT_in 167 rfl rfl
theorem ml_M_min : Cond.methodLink R_M 39 Lib.Math.min.name ∈ XT := xT_in 393 rfl rfl
theorem ar_long : Cond.arrayClass .long ∈ XT := xT_in 30 rfl rfl
theorem ar_boolean : Cond.arrayClass .boolean ∈ XT := xT_in 360 rfl rfl
theorem is_X : Cond.instantiable R_X 3 ∈ XT := xT_in 13 rfl rfl
theorem cl_L_X : Cond.classLink R_L 8 R_X ∈ XT := xT_in 12 rfl rfl
theorem is_M : Cond.instantiable R_M 6 ∈ XT := xT_in 335 rfl rfl
theorem cl_L_M : Cond.classLink R_L 63 R_M ∈ XT := xT_in 334 rfl rfl
theorem ob_inst : Cond.instanceMethod Lib.objectInit ∈ XT := xT_in 18 rfl rfl
theorem ob_code : Cond.code Lib.objectInit ⟨#[0xb1]⟩ 1 none ∈ XT := xT_in 19 (by decide +kernel) rfl
theorem ob_link_X : Cond.methodLink R_X 1 Lib.objectInit ∈ XT := xT_in 17 rfl rfl
theorem ob_link_M : Cond.methodLink R_M 1 Lib.objectInit ∈ XT := xT_in 339 rfl rfl
theorem co_X_118 : Cond.constant R_X 118 (65536) ∈ XT := xT_in 115 rfl rfl
theorem co_X_127 : Cond.constantLong R_X 127 (-1) ∈ XT := xT_in 140 rfl rfl
theorem co_X_147 : Cond.constantLong R_X 147 (64) ∈ XT := xT_in 191 rfl rfl
theorem co_X_155 : Cond.constant R_X 155 (32768) ∈ XT := xT_in 176 rfl rfl
theorem co_M_7 : Cond.constant R_M 7 (65536) ∈ XT := xT_in 340 rfl rfl
theorem co_M_22 : Cond.constantLong R_M 22 (-1) ∈ XT := xT_in 405 rfl rfl
theorem co_M_45 : Cond.constantLong R_M 45 (32768) ∈ XT := xT_in 394 rfl rfl
theorem co_M_47 : Cond.constantLong R_M 47 (192) ∈ XT := xT_in 395 rfl rfl
theorem co_M_49 : Cond.constantLong R_M 49 (64) ∈ XT := xT_in 400 rfl rfl
theorem co_L_66 : Cond.constantLong R_L 66 (4294967295) ∈ XT := xT_in 462 rfl rfl
theorem co_J_168 : Cond.constantLong R_J 168 (-9223372036854775808) ∈ XT := xT_in 255 rfl rfl
theorem co_I_264 : Cond.constant R_I 264 (65536) ∈ XT := xT_in 158 rfl rfl
end
section
theorem lk_X_requireWidth : Cond.methodLink R_X 20 y_X_requireWidth ∈ XT := xT_in 40 rfl rfl
theorem lk_X_requireRoom : Cond.methodLink R_X 24 y_X_requireRoom ∈ XT := xT_in 111 rfl rfl
theorem lk_X_append : Cond.methodLink R_X 27 y_X_append ∈ XT := xT_in 132 rfl rfl
theorem lk_X_bitsToHold : Cond.methodLink R_X 38 y_X_bitsToHold ∈ XT := xT_in 149 rfl rfl
theorem lk_X_lengthWidth : Cond.methodLink R_X 50 y_X_lengthWidth ∈ XT := xT_in 170 rfl rfl
theorem lk_X_lengthCode : Cond.methodLink R_X 54 y_X_lengthCode ∈ XT := xT_in 173 rfl rfl
theorem lk_X_requireKind : Cond.methodLink R_X 57 y_X_requireKind ∈ XT := xT_in 184 rfl rfl
theorem lk_X_isSmall : Cond.methodLink R_X 60 y_X_isSmall ∈ XT := xT_in 188 rfl rfl
theorem lk_X_appendNumber : Cond.methodLink R_X 64 y_X_appendNumber ∈ XT := xT_in 192 rfl rfl
theorem lk_X_bitsAt : Cond.methodLink R_X 68 y_X_bitsAt ∈ XT := xT_in 220 rfl rfl
theorem lk_X_J_compareUnsigned : Cond.methodLink R_X 74 y_J_compareUnsigned ∈ XT := xT_in 252 rfl rfl
theorem lk_X_lengthAt : Cond.methodLink R_X 85 y_X_lengthAt ∈ XT := xT_in 267 rfl rfl
theorem lk_X_smallAt : Cond.methodLink R_X 88 y_X_smallAt ∈ XT := xT_in 288 rfl rfl
theorem lk_X_numberAt : Cond.methodLink R_X 92 y_X_numberAt ∈ XT := xT_in 292 rfl rfl
theorem lk_X_numberWidth : Cond.methodLink R_X 95 y_X_numberWidth ∈ XT := xT_in 202 rfl rfl
theorem lk_X_requireCut : Cond.methodLink R_X 99 y_X_requireCut ∈ XT := xT_in 306 rfl rfl
theorem lk_X_bit : Cond.methodLink R_X 104 y_X_bit ∈ XT := xT_in 240 rfl rfl
theorem lk_X_setBit : Cond.methodLink R_X 107 y_X_setBit ∈ XT := xT_in 136 rfl rfl
theorem lk_X_bytesToHold : Cond.methodLink R_X 124 y_X_bytesToHold ∈ XT := xT_in 196 rfl rfl
theorem lk_X_longLengthAt : Cond.methodLink R_X 131 y_X_longLengthAt ∈ XT := xT_in 271 rfl rfl
theorem lk_X_piecesAt : Cond.methodLink R_X 134 y_X_piecesAt ∈ XT := xT_in 276 rfl rfl
theorem lk_X_J_numberOfLeadingZeros : Cond.methodLink R_X 149 y_J_numberOfLeadingZeros ∈ XT := xT_in 152 rfl rfl
theorem lk_M_width : Cond.methodLink R_M 18 y_M_width ∈ XT := xT_in 385 rfl rfl
theorem lk_M_fail : Cond.methodLink R_M 27 y_M_fail ∈ XT := xT_in 369 rfl rfl
theorem lk_M_append : Cond.methodLink R_M 31 y_M_append ∈ XT := xT_in 377 rfl rfl
theorem lk_M_write : Cond.methodLink R_M 35 y_M_write ∈ XT := xT_in 373 rfl rfl
theorem lk_M_complement : Cond.methodLink R_M 51 y_M_complement ∈ XT := xT_in 401 rfl rfl
theorem lk_M_bytesOf : Cond.methodLink R_M 54 y_M_bytesOf ∈ XT := xT_in 406 rfl rfl
theorem lk_M_begin : Cond.methodLink R_M 67 y_M_begin ∈ XT := xT_in 418 rfl rfl
theorem lk_M_get : Cond.methodLink R_M 70 y_M_get ∈ XT := xT_in 422 rfl rfl
theorem lk_M_done : Cond.methodLink R_M 74 y_M_done ∈ XT := xT_in 426 rfl rfl
theorem lk_M_length : Cond.methodLink R_M 78 y_M_length ∈ XT := xT_in 438 rfl rfl
theorem lk_L_X_put : Cond.methodLink R_L 7 y_X_put ∈ XT := xT_in 36 rfl rfl
theorem lk_L_X_putRange : Cond.methodLink R_L 17 y_X_putRange ∈ XT := xT_in 144 rfl rfl
theorem lk_L_X_putLength : Cond.methodLink R_L 21 y_X_putLength ∈ XT := xT_in 162 rfl rfl
theorem lk_L_X_putNumber : Cond.methodLink R_L 25 y_X_putNumber ∈ XT := xT_in 180 rfl rfl
theorem lk_L_X_fill : Cond.methodLink R_L 29 y_X_fill ∈ XT := xT_in 208 rfl rfl
theorem lk_L_X_take : Cond.methodLink R_L 33 y_X_take ∈ XT := xT_in 216 rfl rfl
theorem lk_L_X_takeRange : Cond.methodLink R_L 39 y_X_takeRange ∈ XT := xT_in 247 rfl rfl
theorem lk_L_X_takeLength : Cond.methodLink R_L 43 y_X_takeLength ∈ XT := xT_in 263 rfl rfl
theorem lk_L_X_takeNumber : Cond.methodLink R_L 46 y_X_takeNumber ∈ XT := xT_in 284 rfl rfl
theorem lk_L_X_go : Cond.methodLink R_L 49 y_X_go ∈ XT := xT_in 302 rfl rfl
theorem lk_L_X_turn : Cond.methodLink R_L 52 y_X_turn ∈ XT := xT_in 314 rfl rfl
theorem lk_L_X_cut : Cond.methodLink R_L 56 y_X_cut ∈ XT := xT_in 322 rfl rfl
theorem lk_L_X_count : Cond.methodLink R_L 59 y_X_count ∈ XT := xT_in 329 rfl rfl
theorem lk_L_X_init : Cond.methodLink R_L 62 y_X_init ∈ XT := xT_in 14 rfl rfl
theorem lk_L_M_init : Cond.methodLink R_L 65 y_M_init ∈ XT := xT_in 336 rfl rfl
theorem lk_L_put : Cond.methodLink R_L 68 y_L_put ∈ XT := xT_in 31 rfl rfl
theorem lk_L_M_put : Cond.methodLink R_L 73 y_M_put ∈ XT := xT_in 365 rfl rfl
theorem lk_L_M_thrown : Cond.methodLink R_L 74 y_M_thrown ∈ XT := xT_in 361 rfl rfl
theorem lk_L_putRange : Cond.methodLink R_L 77 y_L_putRange ∈ XT := xT_in 141 rfl rfl
theorem lk_L_M_putRange : Cond.methodLink R_L 80 y_M_putRange ∈ XT := xT_in 381 rfl rfl
theorem lk_L_putLength : Cond.methodLink R_L 81 y_L_putLength ∈ XT := xT_in 159 rfl rfl
theorem lk_L_M_putLength : Cond.methodLink R_L 84 y_M_putLength ∈ XT := xT_in 389 rfl rfl
theorem lk_L_putNumber : Cond.methodLink R_L 85 y_L_putNumber ∈ XT := xT_in 177 rfl rfl
theorem lk_L_M_putNumber : Cond.methodLink R_L 88 y_M_putNumber ∈ XT := xT_in 396 rfl rfl
theorem lk_L_fill : Cond.methodLink R_L 89 y_L_fill ∈ XT := xT_in 205 rfl rfl
theorem lk_L_M_fill : Cond.methodLink R_L 92 y_M_fill ∈ XT := xT_in 410 rfl rfl
theorem lk_L_take : Cond.methodLink R_L 93 y_L_take ∈ XT := xT_in 212 rfl rfl
theorem lk_L_M_take : Cond.methodLink R_L 95 y_M_take ∈ XT := xT_in 414 rfl rfl
theorem lk_L_takeRange : Cond.methodLink R_L 96 y_L_takeRange ∈ XT := xT_in 244 rfl rfl
theorem lk_L_M_takeRange : Cond.methodLink R_L 99 y_M_takeRange ∈ XT := xT_in 430 rfl rfl
theorem lk_L_takeLength : Cond.methodLink R_L 100 y_L_takeLength ∈ XT := xT_in 260 rfl rfl
theorem lk_L_M_takeLength : Cond.methodLink R_L 102 y_M_takeLength ∈ XT := xT_in 434 rfl rfl
theorem lk_L_takeNumber : Cond.methodLink R_L 103 y_L_takeNumber ∈ XT := xT_in 281 rfl rfl
theorem lk_L_M_takeNumber : Cond.methodLink R_L 105 y_M_takeNumber ∈ XT := xT_in 442 rfl rfl
theorem lk_L_go : Cond.methodLink R_L 106 y_L_go ∈ XT := xT_in 299 rfl rfl
theorem lk_L_M_go : Cond.methodLink R_L 108 y_M_go ∈ XT := xT_in 446 rfl rfl
theorem lk_L_turn : Cond.methodLink R_L 109 y_L_turn ∈ XT := xT_in 311 rfl rfl
theorem lk_L_M_turn : Cond.methodLink R_L 111 y_M_turn ∈ XT := xT_in 450 rfl rfl
theorem lk_L_cut : Cond.methodLink R_L 112 y_L_cut ∈ XT := xT_in 319 rfl rfl
theorem lk_L_M_cut : Cond.methodLink R_L 114 y_M_cut ∈ XT := xT_in 454 rfl rfl
theorem lk_L_count : Cond.methodLink R_L 115 y_L_count ∈ XT := xT_in 326 rfl rfl
theorem lk_L_M_count : Cond.methodLink R_L 117 y_M_count ∈ XT := xT_in 458 rfl rfl
theorem lk_J_compare : Cond.methodLink R_J 302 y_J_compare ∈ XT := xT_in 256 rfl rfl
theorem lk_J_I_numberOfLeadingZeros : Cond.methodLink R_J 308 y_I_numberOfLeadingZeros ∈ XT := xT_in 155 rfl rfl
theorem im_X_init : Cond.instanceMethod y_X_init ∈ XT := xT_in 15 rfl rfl
theorem st_L_put : Cond.static y_L_put ∈ XT := xT_in 32 rfl rfl
theorem im_X_put : Cond.instanceMethod y_X_put ∈ XT := xT_in 37 rfl rfl
theorem se_X_put : Cond.selects R_X y_X_put y_X_put ∈ XT := xT_in 38 rfl rfl
theorem st_X_requireWidth : Cond.static y_X_requireWidth ∈ XT := xT_in 41 rfl rfl
theorem im_X_requireRoom : Cond.instanceMethod y_X_requireRoom ∈ XT := xT_in 113 rfl rfl
theorem se_X_requireRoom : Cond.selects R_X y_X_requireRoom y_X_requireRoom ∈ XT := xT_sel 1 rfl rfl
theorem im_X_append : Cond.instanceMethod y_X_append ∈ XT := xT_in 134 rfl rfl
theorem se_X_append : Cond.selects R_X y_X_append y_X_append ∈ XT := xT_sel 2 rfl rfl
theorem im_X_setBit : Cond.instanceMethod y_X_setBit ∈ XT := xT_in 138 rfl rfl
theorem se_X_setBit : Cond.selects R_X y_X_setBit y_X_setBit ∈ XT := xT_sel 3 rfl rfl
theorem st_L_putRange : Cond.static y_L_putRange ∈ XT := xT_in 142 rfl rfl
theorem im_X_putRange : Cond.instanceMethod y_X_putRange ∈ XT := xT_in 145 rfl rfl
theorem se_X_putRange : Cond.selects R_X y_X_putRange y_X_putRange ∈ XT := xT_in 146 rfl rfl
theorem st_X_bitsToHold : Cond.static y_X_bitsToHold ∈ XT := xT_in 150 rfl rfl
theorem st_J_numberOfLeadingZeros : Cond.static y_J_numberOfLeadingZeros ∈ XT := xT_in 153 rfl rfl
theorem st_I_numberOfLeadingZeros : Cond.static y_I_numberOfLeadingZeros ∈ XT := xT_in 156 rfl rfl
theorem st_L_putLength : Cond.static y_L_putLength ∈ XT := xT_in 160 rfl rfl
theorem im_X_putLength : Cond.instanceMethod y_X_putLength ∈ XT := xT_in 163 rfl rfl
theorem se_X_putLength : Cond.selects R_X y_X_putLength y_X_putLength ∈ XT := xT_in 164 rfl rfl
theorem st_X_lengthWidth : Cond.static y_X_lengthWidth ∈ XT := xT_in 171 rfl rfl
theorem st_X_lengthCode : Cond.static y_X_lengthCode ∈ XT := xT_in 174 rfl rfl
theorem st_L_putNumber : Cond.static y_L_putNumber ∈ XT := xT_in 178 rfl rfl
theorem im_X_putNumber : Cond.instanceMethod y_X_putNumber ∈ XT := xT_in 181 rfl rfl
theorem se_X_putNumber : Cond.selects R_X y_X_putNumber y_X_putNumber ∈ XT := xT_in 182 rfl rfl
theorem st_X_requireKind : Cond.static y_X_requireKind ∈ XT := xT_in 185 rfl rfl
theorem st_X_isSmall : Cond.static y_X_isSmall ∈ XT := xT_in 189 rfl rfl
theorem im_X_appendNumber : Cond.instanceMethod y_X_appendNumber ∈ XT := xT_in 194 rfl rfl
theorem se_X_appendNumber : Cond.selects R_X y_X_appendNumber y_X_appendNumber ∈ XT := xT_sel 4 rfl rfl
theorem st_X_bytesToHold : Cond.static y_X_bytesToHold ∈ XT := xT_in 197 rfl rfl
theorem st_X_numberWidth : Cond.static y_X_numberWidth ∈ XT := xT_in 203 rfl rfl
theorem st_L_fill : Cond.static y_L_fill ∈ XT := xT_in 206 rfl rfl
theorem im_X_fill : Cond.instanceMethod y_X_fill ∈ XT := xT_in 209 rfl rfl
theorem se_X_fill : Cond.selects R_X y_X_fill y_X_fill ∈ XT := xT_in 210 rfl rfl
theorem st_L_take : Cond.static y_L_take ∈ XT := xT_in 213 rfl rfl
theorem im_X_take : Cond.instanceMethod y_X_take ∈ XT := xT_in 217 rfl rfl
theorem se_X_take : Cond.selects R_X y_X_take y_X_take ∈ XT := xT_in 218 rfl rfl
theorem im_X_bitsAt : Cond.instanceMethod y_X_bitsAt ∈ XT := xT_in 222 rfl rfl
theorem se_X_bitsAt : Cond.selects R_X y_X_bitsAt y_X_bitsAt ∈ XT := xT_sel 5 rfl rfl
theorem im_X_bit : Cond.instanceMethod y_X_bit ∈ XT := xT_in 242 rfl rfl
theorem se_X_bit : Cond.selects R_X y_X_bit y_X_bit ∈ XT := xT_sel 6 rfl rfl
theorem st_L_takeRange : Cond.static y_L_takeRange ∈ XT := xT_in 245 rfl rfl
theorem im_X_takeRange : Cond.instanceMethod y_X_takeRange ∈ XT := xT_in 248 rfl rfl
theorem se_X_takeRange : Cond.selects R_X y_X_takeRange y_X_takeRange ∈ XT := xT_in 249 rfl rfl
theorem st_J_compareUnsigned : Cond.static y_J_compareUnsigned ∈ XT := xT_in 253 rfl rfl
theorem st_J_compare : Cond.static y_J_compare ∈ XT := xT_in 257 rfl rfl
theorem st_L_takeLength : Cond.static y_L_takeLength ∈ XT := xT_in 261 rfl rfl
theorem im_X_takeLength : Cond.instanceMethod y_X_takeLength ∈ XT := xT_in 264 rfl rfl
theorem se_X_takeLength : Cond.selects R_X y_X_takeLength y_X_takeLength ∈ XT := xT_in 265 rfl rfl
theorem im_X_lengthAt : Cond.instanceMethod y_X_lengthAt ∈ XT := xT_in 269 rfl rfl
theorem se_X_lengthAt : Cond.selects R_X y_X_lengthAt y_X_lengthAt ∈ XT := xT_sel 7 rfl rfl
theorem im_X_longLengthAt : Cond.instanceMethod y_X_longLengthAt ∈ XT := xT_in 273 rfl rfl
theorem se_X_longLengthAt : Cond.selects R_X y_X_longLengthAt y_X_longLengthAt ∈ XT := xT_sel 8 rfl rfl
theorem im_X_piecesAt : Cond.instanceMethod y_X_piecesAt ∈ XT := xT_in 278 rfl rfl
theorem se_X_piecesAt : Cond.selects R_X y_X_piecesAt y_X_piecesAt ∈ XT := xT_sel 9 rfl rfl
theorem st_L_takeNumber : Cond.static y_L_takeNumber ∈ XT := xT_in 282 rfl rfl
theorem im_X_takeNumber : Cond.instanceMethod y_X_takeNumber ∈ XT := xT_in 285 rfl rfl
theorem se_X_takeNumber : Cond.selects R_X y_X_takeNumber y_X_takeNumber ∈ XT := xT_in 286 rfl rfl
theorem im_X_smallAt : Cond.instanceMethod y_X_smallAt ∈ XT := xT_in 290 rfl rfl
theorem se_X_smallAt : Cond.selects R_X y_X_smallAt y_X_smallAt ∈ XT := xT_sel 10 rfl rfl
theorem im_X_numberAt : Cond.instanceMethod y_X_numberAt ∈ XT := xT_in 294 rfl rfl
theorem se_X_numberAt : Cond.selects R_X y_X_numberAt y_X_numberAt ∈ XT := xT_sel 11 rfl rfl
theorem st_L_go : Cond.static y_L_go ∈ XT := xT_in 300 rfl rfl
theorem im_X_go : Cond.instanceMethod y_X_go ∈ XT := xT_in 303 rfl rfl
theorem se_X_go : Cond.selects R_X y_X_go y_X_go ∈ XT := xT_in 304 rfl rfl
theorem im_X_requireCut : Cond.instanceMethod y_X_requireCut ∈ XT := xT_in 308 rfl rfl
theorem se_X_requireCut : Cond.selects R_X y_X_requireCut y_X_requireCut ∈ XT := xT_sel 12 rfl rfl
theorem st_L_turn : Cond.static y_L_turn ∈ XT := xT_in 312 rfl rfl
theorem im_X_turn : Cond.instanceMethod y_X_turn ∈ XT := xT_in 315 rfl rfl
theorem se_X_turn : Cond.selects R_X y_X_turn y_X_turn ∈ XT := xT_in 316 rfl rfl
theorem st_L_cut : Cond.static y_L_cut ∈ XT := xT_in 320 rfl rfl
theorem im_X_cut : Cond.instanceMethod y_X_cut ∈ XT := xT_in 323 rfl rfl
theorem se_X_cut : Cond.selects R_X y_X_cut y_X_cut ∈ XT := xT_in 324 rfl rfl
theorem st_L_count : Cond.static y_L_count ∈ XT := xT_in 327 rfl rfl
theorem im_X_count : Cond.instanceMethod y_X_count ∈ XT := xT_in 330 rfl rfl
theorem se_X_count : Cond.selects R_X y_X_count y_X_count ∈ XT := xT_in 331 rfl rfl
theorem im_M_init : Cond.instanceMethod y_M_init ∈ XT := xT_in 337 rfl rfl
theorem im_M_thrown : Cond.instanceMethod y_M_thrown ∈ XT := xT_in 362 rfl rfl
theorem se_M_thrown : Cond.selects R_M y_M_thrown y_M_thrown ∈ XT := xT_in 363 rfl rfl
theorem im_M_put : Cond.instanceMethod y_M_put ∈ XT := xT_in 366 rfl rfl
theorem se_M_put : Cond.selects R_M y_M_put y_M_put ∈ XT := xT_in 367 rfl rfl
theorem im_M_fail : Cond.instanceMethod y_M_fail ∈ XT := xT_in 371 rfl rfl
theorem se_M_fail : Cond.selects R_M y_M_fail y_M_fail ∈ XT := xT_sel 13 rfl rfl
theorem im_M_write : Cond.instanceMethod y_M_write ∈ XT := xT_in 375 rfl rfl
theorem se_M_write : Cond.selects R_M y_M_write y_M_write ∈ XT := xT_sel 14 rfl rfl
theorem im_M_append : Cond.instanceMethod y_M_append ∈ XT := xT_in 379 rfl rfl
theorem se_M_append : Cond.selects R_M y_M_append y_M_append ∈ XT := xT_sel 15 rfl rfl
theorem im_M_putRange : Cond.instanceMethod y_M_putRange ∈ XT := xT_in 382 rfl rfl
theorem se_M_putRange : Cond.selects R_M y_M_putRange y_M_putRange ∈ XT := xT_in 383 rfl rfl
theorem im_M_width : Cond.instanceMethod y_M_width ∈ XT := xT_in 387 rfl rfl
theorem se_M_width : Cond.selects R_M y_M_width y_M_width ∈ XT := xT_sel 16 rfl rfl
theorem im_M_putLength : Cond.instanceMethod y_M_putLength ∈ XT := xT_in 390 rfl rfl
theorem se_M_putLength : Cond.selects R_M y_M_putLength y_M_putLength ∈ XT := xT_in 391 rfl rfl
theorem im_M_putNumber : Cond.instanceMethod y_M_putNumber ∈ XT := xT_in 397 rfl rfl
theorem se_M_putNumber : Cond.selects R_M y_M_putNumber y_M_putNumber ∈ XT := xT_in 398 rfl rfl
theorem im_M_complement : Cond.instanceMethod y_M_complement ∈ XT := xT_in 403 rfl rfl
theorem se_M_complement : Cond.selects R_M y_M_complement y_M_complement ∈ XT := xT_sel 17 rfl rfl
theorem im_M_bytesOf : Cond.instanceMethod y_M_bytesOf ∈ XT := xT_in 408 rfl rfl
theorem se_M_bytesOf : Cond.selects R_M y_M_bytesOf y_M_bytesOf ∈ XT := xT_sel 18 rfl rfl
theorem im_M_fill : Cond.instanceMethod y_M_fill ∈ XT := xT_in 411 rfl rfl
theorem se_M_fill : Cond.selects R_M y_M_fill y_M_fill ∈ XT := xT_in 412 rfl rfl
theorem im_M_take : Cond.instanceMethod y_M_take ∈ XT := xT_in 415 rfl rfl
theorem se_M_take : Cond.selects R_M y_M_take y_M_take ∈ XT := xT_in 416 rfl rfl
theorem im_M_begin : Cond.instanceMethod y_M_begin ∈ XT := xT_in 420 rfl rfl
theorem se_M_begin : Cond.selects R_M y_M_begin y_M_begin ∈ XT := xT_sel 19 rfl rfl
theorem im_M_get : Cond.instanceMethod y_M_get ∈ XT := xT_in 424 rfl rfl
theorem se_M_get : Cond.selects R_M y_M_get y_M_get ∈ XT := xT_sel 20 rfl rfl
theorem im_M_done : Cond.instanceMethod y_M_done ∈ XT := xT_in 428 rfl rfl
theorem se_M_done : Cond.selects R_M y_M_done y_M_done ∈ XT := xT_sel 21 rfl rfl
theorem im_M_takeRange : Cond.instanceMethod y_M_takeRange ∈ XT := xT_in 431 rfl rfl
theorem se_M_takeRange : Cond.selects R_M y_M_takeRange y_M_takeRange ∈ XT := xT_in 432 rfl rfl
theorem im_M_takeLength : Cond.instanceMethod y_M_takeLength ∈ XT := xT_in 435 rfl rfl
theorem se_M_takeLength : Cond.selects R_M y_M_takeLength y_M_takeLength ∈ XT := xT_in 436 rfl rfl
theorem im_M_length : Cond.instanceMethod y_M_length ∈ XT := xT_in 440 rfl rfl
theorem se_M_length : Cond.selects R_M y_M_length y_M_length ∈ XT := xT_sel 22 rfl rfl
theorem im_M_takeNumber : Cond.instanceMethod y_M_takeNumber ∈ XT := xT_in 443 rfl rfl
theorem se_M_takeNumber : Cond.selects R_M y_M_takeNumber y_M_takeNumber ∈ XT := xT_in 444 rfl rfl
theorem im_M_go : Cond.instanceMethod y_M_go ∈ XT := xT_in 447 rfl rfl
theorem se_M_go : Cond.selects R_M y_M_go y_M_go ∈ XT := xT_in 448 rfl rfl
theorem im_M_turn : Cond.instanceMethod y_M_turn ∈ XT := xT_in 451 rfl rfl
theorem se_M_turn : Cond.selects R_M y_M_turn y_M_turn ∈ XT := xT_in 452 rfl rfl
theorem im_M_cut : Cond.instanceMethod y_M_cut ∈ XT := xT_in 455 rfl rfl
theorem se_M_cut : Cond.selects R_M y_M_cut y_M_cut ∈ XT := xT_in 456 rfl rfl
theorem im_M_count : Cond.instanceMethod y_M_count ∈ XT := xT_in 459 rfl rfl
theorem se_M_count : Cond.selects R_M y_M_count y_M_count ∈ XT := xT_in 460 rfl rfl
end
section
/-! A method that may throw: its contract, its ends, a call of it, a handler around it. -/
section XLA
/-- how an invocation leaves tables and heap, whether it returned or threw -/
def xl_FE (first t : State) (L : List Loc) (k n : Nat) : Prop := first.WarmedH t.vm ∧ first.sameButNew ({ t with vm := first.vm } : State) L k n
/-- so many new cells (slots) where it returned, so many where it threw -/
def xl_k (a b : Nat) (o : Outcome) : Nat := match o with
  | .returned _ => a
  | .threw _ => b
def xl_MQ (below : List Frame) (Qc : Array Value → State → Outcome → State → Prop) (a : Array Value) (s : State) (kc ks : Outcome → Nat) (free : Addr → Prop) : State → Prop := fun t =>
  ∃ o, t.status = .running ∧ Ended t below o ∧ Qc a s o t ∧ ∃ L, xl_FE s t L (kc o) (ks o) ∧ ∀ q ∈ L, free q.base
def xl_Met (l : Launch) (y : MethodName) (ws : List Cond) (rm : Room) (Pc : Array Value → State → Prop) (Qc : Array Value → State → Outcome → State → Prop) (kc ks : Outcome → Nat) (free : Addr → Prop) : Prop :=
  MetFree l y (headSpec ws rm) Pc (fun _ _ _ _ _ => True) (fun a st o t => Qc a st o t ∧ ∃ L, xl_FE st t L (kc o) (ks o) ∧ ∀ q ∈ L, free q.base)
theorem xl_ofW {l : Launch} {y : MethodName} {ws : List Cond} {rm : Room} {Pc : Array Value → State → Prop} {Qc : Array Value → State → Outcome → State → Prop} {kc ks : Outcome → Nat} {free : Addr → Prop} {cc : ByteArray} {maxL : Nat} {ret : Option FieldType}
    (hy : plainName y.cls = true)
    (his : ∀ (args : Array Value) (s : State) (m : MethodId), (∀ w ∈ ws, w.before args s = true) → s.methodNamed? y = some m → ∃ meth c, s.vm.method? m = some meth ∧ meth.code = some c ∧ c.code = cc ∧ c.maxLocals = maxL ∧ meth.sig.returnType = ret ∧ meth.locks = false)
    (body : ∀ p e s m args below meth c s₁, BodyLoose p l y (headSpec ws rm) cc maxL ret e s m args below meth c s₁ → c.maxLocals = maxL → Pc args s →
      W p l e (headSpec ws rm).room s m args below meth c s.heap [] 0 0 (xl_MQ below Qc args s kc ks free) (entryFrame m args maxL)) : xl_Met l y ws rm Pc Qc kc ks free := by
  refine MetFree.of_bodyS (code := cc) (maxLocals := maxL) (ret := ret) hy ?_ ?_
  · intro args s m h hn
    exact his args s m (atoms_spec (ws := ws) h) hn
  · intro p e s m args below meth c s₁ B hml hP _
    have hh0 : s₁.heap = s.heap := by rw [B.state]; rfl
    obtain ⟨t, a1, o, b1, b2, b3, b4⟩ := body p e s m args below meth c s₁ B hml hP s₁ hh0 (Stand.of_body B)
    exact ⟨t, o, a1, b1, b2, b3, b4⟩
/-- the method's code by its word 'code' at the head of ws -/
theorem xl_is {y : MethodName} {ws ws' : List Cond} {cc : ByteArray} {maxL : Nat} {ret : Option FieldType} (hw : ws = Cond.code y cc maxL ret :: ws') :
    ∀ (args : Array Value) (s : State) (m : MethodId), (∀ w ∈ ws, w.before args s = true) → s.methodNamed? y = some m → ∃ meth c, s.vm.method? m = some meth ∧ meth.code = some c ∧ c.code = cc ∧ c.maxLocals = maxL ∧ meth.sig.returnType = ret ∧ meth.locks = false := by
  intro args s m h hn
  obtain ⟨meth, c, h1, h2, h3, h4, h5, h6, -, -⟩ := Cond.code_spec hn (h _ (by rw [hw]; exact List.mem_cons_self))
  exact ⟨meth, c, h1, h2, h3, h4, h5, h6⟩
/-- .. by its word 'codeWith' -/
theorem xl_isH {y : MethodName} {ws ws' : List Cond} {cc : ByteArray} {maxL : Nat} {ret : Option FieldType} {hs : List (Nat × Nat × Nat × Nat)} (hw : ws = Cond.codeWith y cc maxL ret hs :: ws') :
    ∀ (args : Array Value) (s : State) (m : MethodId), (∀ w ∈ ws, w.before args s = true) → s.methodNamed? y = some m → ∃ meth c, s.vm.method? m = some meth ∧ meth.code = some c ∧ c.code = cc ∧ c.maxLocals = maxL ∧ meth.sig.returnType = ret ∧ meth.locks = false := by
  intro args s m h hn
  obtain ⟨m', meth, c, h0, h1, h2, h3, h4, -, h5, h6, -⟩ := Cond.codeWith_spec (h _ (by rw [hw]; exact List.mem_cons_self))
  cases hn.symm.trans h0
  exact ⟨meth, c, h1, h2, h3, h4, h5, h6⟩
/-- what a caller wants to know of the callee: it is there, so many locals, so many parameters -/
def xl_C (s : State) (y : MethodName) (maxL n : Nat) : Prop := ∃ (mk : MethodId) (meth : Method) (c : Code), s.methodNamed? y = some mk ∧ s.vm.method? mk = some meth ∧ meth.code = some c ∧ c.maxLocals = maxL ∧ meth.sig.parameters.length = n
theorem xl_C.code {args : Array Value} {s : State} {y : MethodName} {cc : ByteArray} {maxL n : Nat} {ret : Option FieldType} (h : (Cond.code y cc maxL ret).before args s = true) (hd : (parseMethodDescriptor y.desc).map (fun d => d.parameters.length) = some n) : xl_C s y maxL n := by
  obtain ⟨mk, hn⟩ := Cond.code_named h
  obtain ⟨meth, c, h1, h2, -, h4, -, -, -, h8⟩ := Cond.code_spec hn h
  refine ⟨mk, meth, c, hn, h1, h2, h4, ?_⟩
  rw [h8] at hd
  exact Option.some.inj hd
theorem xl_C.codeWith {args : Array Value} {s : State} {y : MethodName} {cc : ByteArray} {maxL n : Nat} {ret : Option FieldType} {hs : List (Nat × Nat × Nat × Nat)} (h : (Cond.codeWith y cc maxL ret hs).before args s = true) (hd : (parseMethodDescriptor y.desc).map (fun d => d.parameters.length) = some n) : xl_C s y maxL n := by
  obtain ⟨mk, meth, c, hn, h1, h2, -, h4, -, -, -, h8⟩ := Cond.codeWith_spec h
  refine ⟨mk, meth, c, hn, h1, h2, h4, ?_⟩
  rw [h8] at hd
  exact Option.some.inj hd
end XLA
section XLB
variable {p : Program} {l : Launch} {e : Env} {R : Room} {s : State} {m : MethodId} {args : Array Value} {below : List Frame} {meth : Method} {c : Code} {H : Heap} {locs : List Loc} {cells slots : Nat} {Q : State → Prop}
theorem xl_mono {Q' : State → Prop} {g : JFrame} (h : ∀ t, Q t → Q' t) (k : W p l e R s m args below meth c H locs cells slots Q g) : W p l e R s m args below meth c H locs cells slots Q' g := by
  intro T hT X
  obtain ⟨t, a1, b1⟩ := k T hT X
  exact ⟨t, a1, h t b1⟩
theorem xl_ofMQ {Qc : Array Value → State → Outcome → State → Prop} {kc ks : Outcome → Nat} {free : Addr → Prop} {a : Array Value} (hk : ∀ v, kc (.returned v) = cells) (hs : ∀ v, ks (.returned v) = slots) : ∀ t, MQ below Qc a s cells slots free t → xl_MQ below Qc a s kc ks free t := by
  intro t h
  obtain ⟨o, h1, h2, h3, L, ⟨⟨v, rfl⟩, h5, h6⟩, h7⟩ := h
  exact ⟨_, h1, h2, h3, L, ⟨h5, by rw [hk v, hs v]; exact h6⟩, h7⟩
theorem xl_iret {cc : ByteArray} {Qc : Array Value → State → Outcome → State → Prop} {kc ks : Outcome → Nat} {free : Addr → Prop} {v : Int32} (hx : p.tables.exec = Jvm.exec) (hb : c.code = cc) (hr : meth.sig.returnType = some .int) (hlocks : meth.locks = false)
    (hk : ∀ v, kc (.returned v) = cells) (hs : ∀ v, ks (.returned v) = slots) (hq : ∀ t : State, t.heap = H → s.WarmedH t.vm → Qc args s (.returned (some (.int v))) t) (hf : ∀ q ∈ locs, free q.base) {pc : Nat} {ls : Array Slot} (hdg : decode cc pc = .ok (.ireturn, 1)) :
    W p l e R s m args below meth c H locs cells slots (xl_MQ below Qc args s kc ks free) (F0 m pc ls [.int v]) :=
  xl_mono (xl_ofMQ hk hs) (W.iret hx hb hr hq hf hdg hlocks)
theorem xl_zret {cc : ByteArray} {Qc : Array Value → State → Outcome → State → Prop} {kc ks : Outcome → Nat} {free : Addr → Prop} {v : Int32} {ty : FieldType} (hx : p.tables.exec = Jvm.exec) (hb : c.code = cc) (hr : meth.sig.returnType = some ty) (hlocks : meth.locks = false) (hn : narrow ty (.int v) = .int v)
    (hk : ∀ v, kc (.returned v) = cells) (hs : ∀ v, ks (.returned v) = slots) (hq : ∀ t : State, t.heap = H → s.WarmedH t.vm → Qc args s (.returned (some (.int v))) t) (hf : ∀ q ∈ locs, free q.base) {pc : Nat} {ls : Array Slot} (hdg : decode cc pc = .ok (.ireturn, 1)) :
    W p l e R s m args below meth c H locs cells slots (xl_MQ below Qc args s kc ks free) (F0 m pc ls [.int v]) :=
  xl_mono (xl_ofMQ hk hs) (W.zret hx hb hr hn hq hf hdg hlocks)
theorem xl_lret {cc : ByteArray} {Qc : Array Value → State → Outcome → State → Prop} {kc ks : Outcome → Nat} {free : Addr → Prop} {v : Int64} (hx : p.tables.exec = Jvm.exec) (hb : c.code = cc) (hr : meth.sig.returnType = some .long) (hlocks : meth.locks = false)
    (hk : ∀ v, kc (.returned v) = cells) (hs : ∀ v, ks (.returned v) = slots) (hq : ∀ t : State, t.heap = H → s.WarmedH t.vm → Qc args s (.returned (some (.long v))) t) (hf : ∀ q ∈ locs, free q.base) {pc : Nat} {ls : Array Slot} (hdg : decode cc pc = .ok (.lreturn, 1)) :
    W p l e R s m args below meth c H locs cells slots (xl_MQ below Qc args s kc ks free) (F0 m pc ls [.long v]) :=
  xl_mono (xl_ofMQ hk hs) (W.lret hx hb hr hq hf hdg hlocks)
theorem xl_vret {cc : ByteArray} {Qc : Array Value → State → Outcome → State → Prop} {kc ks : Outcome → Nat} {free : Addr → Prop} (hx : p.tables.exec = Jvm.exec) (hb : c.code = cc) (hr : meth.sig.returnType = none) (hlocks : meth.locks = false)
    (hk : ∀ v, kc (.returned v) = cells) (hs : ∀ v, ks (.returned v) = slots) (hq : ∀ t : State, t.heap = H → s.WarmedH t.vm → Qc args s (.returned none) t) (hf : ∀ q ∈ locs, free q.base) {pc : Nat} {ls : Array Slot} (hdg : decode cc pc = .ok (.return_, 1)) :
    W p l e R s m args below meth c H locs cells slots (xl_MQ below Qc args s kc ks free) (F0 m pc ls []) :=
  xl_mono (xl_ofMQ hk hs) (W.vret hx hb hr hq hf hdg hlocks)
/-- the machine with an exception in flight over the frame g -/
def xl_W (p : Program) (l : Launch) (e : Env) (R : Room) (s : State) (m : MethodId) (args : Array Value) (below : List Frame) (meth : Method) (c : Code) (H : Heap) (locs : List Loc) (cells slots : Nat) (Q : State → Prop) (g : JFrame) (x : Addr) : Prop :=
  ∀ T : State, T.heap = H → Stand p l e R s m args below meth c T locs cells slots → ∃ t, Steps p.tables e below ((T.setTop g).pushFrame (.throwing x)) t ∧ Q t
/-- no handler here: the method ends with it -/
theorem xl_leave {Qc : Array Value → State → Outcome → State → Prop} {kc ks : Outcome → Nat} {free : Addr → Prop} {pc : Nat} {ls : Array Slot} {st : List Value} {x : Addr} (hout : ∀ y ∈ c.exceptionTable.toList, covers y pc = false) (hlocks : meth.locks = false)
    (hk : kc (.threw x) = cells) (hs : ks (.threw x) = slots) (hq : ∀ t : State, t.heap = H → s.WarmedH t.vm → Qc args s (.threw x) t) (hf : ∀ q ∈ locs, free q.base) :
    xl_W p l e R s m args below meth c H locs cells slots (xl_MQ below Qc args s kc ks free) (F0 m pc ls st) x := by
  intro T hT X
  obtain ⟨h1, h2, h3, h4, h5⟩ := X.leaveThrown x (g := F0 m pc ls st) rfl rfl rfl hout hlocks
  exact ⟨_, h1, .threw x, h2, h3, hq _ hT h4, locs, ⟨h4, by rw [hk, hs]; exact h5⟩, hf⟩
end XLB
section XLC
/-- a call of a method that may throw: what comes back, and where the walk stands -/
theorem xl_call {l : Launch} {R : Room} {p : Program} {e : Env} {below : List Frame} {s : State} {sargs : Array Value} {y : MethodName} {len Wd : Nat} {ws : List Cond} {rm : Room} {Pc : Array Value → State → Prop} {Qc : Array Value → State → Outcome → State → Prop} {kc ks : Outcome → Nat} {free : Addr → Prop} {maxL : Nat}
    (hM : xl_Met l y ws rm Pc Qc kc ks free) (hbl : FrameBlind Pc) (hfr : rm.frames + 1 ≤ R.frames) (hlo : Wd + (maxL + 11) + rm.locals ≤ R.locals)
    (hws : ∀ w ∈ ws, ∀ (a' : Array Value) (U : State), s.WarmedH U.vm → w.before a' U = true) (hini : ∀ (a' : Array Value) (U : State), s.WarmedH U.vm → (Cond.initialized y.cls).before a' U = true)
    {m : MethodId} {meth : Method} {c : Code} {T : State} {locs : List Loc} {cells slots : Nat} (X : Stand p l e R s m sargs below meth c T locs cells slots)
    {g : JFrame} (hg : g.method = m) (hsize : g.locals.size = c.maxLocals) {ig : Instr} (hdg : decode c.code g.pc = .ok (ig, len)) (hW : 2 * g.monitorRoom + (g.stack.map fun v => v.category).sum ≤ Wd)
    {mk : MethodId} {methY : Method} {cY : Code} (hn : T.methodNamed? y = some mk) (hmY : T.vm.method? mk = some methY) (hcY : methY.code = some cY) (hlY : cY.maxLocals = maxL)
    (hcells : cells + rm.cells ≤ R.cells) (hslots : slots + rm.slots ≤ R.slots) {a : Array Value} (hp : Pc a T) :
    ∃ (o : Outcome) (t T' : State) (L : List Loc), Stand p l e R s m sargs below meth c T' (locs ++ L) (cells + kc o) (slots + ks o) ∧ (∀ q ∈ L, free q.base) ∧ T'.heap = t.heap ∧ T'.vm = t.vm ∧ Qc a (T.calling g mk a) o t ∧
      (∀ v, o = .returned v → Steps p.tables e below (doInvoke e (T.setTop g) [] mk a).1 (T'.setTop { g with pc := g.pc + len, stack := v.toList ++ g.stack })) ∧
      (∀ x, o = .threw x → Steps p.tables e below (doInvoke e (T.setTop g) [] mk a).1 ((T'.setTop g).pushFrame (.throwing x))) := by
  obtain ⟨kY, hkY, -⟩ := className_of_methodNamed hn
  have hinitY : kY.init = .initialized := Cond.initialized_spec (findClass_of_methodNamed hn) hkY (hini a T X.warmed)
  have h : At T g.method c below := by rw [hg]; exact X.here
  have hpre : (headSpec ws rm).pre.before a T = true := atoms_intro fun w hw => hws w hw _ _ X.warmed
  have hlo' : Wd + (maxL + 11) + (headSpec ws rm).room.locals ≤ R.locals := hlo
  have happ : (headSpec ws rm).appliesLoose y e.platform (T.calling g mk a) = true :=
    Spec.appliesLoose_calling (g := g) h hdg hn hkY hinitY
      (X.room_calling (g := g) (R' := (headSpec ws rm).room) hsize hmY hcY hfr (by rw [hlY]; omega) hcells hslots) hpre
  obtain ⟨mid, hmid⟩ := h.above
  have hfr' : (T.setTop g).frames = (.java g :: mid) ++ below := by rw [State.frames_setTop' g h.top, hmid]; rfl
  obtain ⟨o, s₂, hsteps, -, hend, hqc, L, ⟨hW₂, e2, q2, q3, q4, q5, q6⟩, hL⟩ := Steps.callFree hM p X.admits X.cas X.clock (acts := []) hfr' happ (hbl _ _ g mk hp) trivial
  rw [State.frames_setTop' g h.top] at hend
  have e3 : s₂ = ({ (T.calling g mk a).setFrames s₂.frames with heap := s₂.heap, slotsUsed := s₂.slotsUsed } : State).setVm s₂.vm := by
    have : s₂ = ({ s₂ with vm := (T.calling g mk a).vm } : State).setVm s₂.vm := rfl
    rw [show ({ s₂ with vm := (T.calling g mk a).vm } : State) = { (T.calling g mk a).setFrames s₂.frames with heap := s₂.heap, slotsUsed := s₂.slotsUsed } from e2] at this
    exact this
  have hW' : T.WarmedH s₂.vm := hW₂
  obtain ⟨g₀, hg0⟩ := Option.isSome_iff_exists.mp h.top
  obtain ⟨r, hr⟩ := State.topJava?_eq_some.mp hg0
  have hr' : (({ T with heap := s₂.heap, slotsUsed := s₂.slotsUsed } : State).setVm s₂.vm).frames = .java g₀ :: r := hr
  have hsame : T.sameButNew ({ T with heap := s₂.heap, slotsUsed := s₂.slotsUsed } : State) L (kc o) (ks o) := by
    refine ⟨?_, q2, q3, q4, q5, q6⟩
    obtain ⟨t, ht, -⟩ := State.frames_cons hr
    show ({ T with heap := s₂.heap, slotsUsed := s₂.slotsUsed } : State) = { T.setFrames T.frames with heap := s₂.heap, slotsUsed := s₂.slotsUsed }
    rw [State.setFrames_self ht]
  subst hg
  refine ⟨o, s₂, (({ T with heap := s₂.heap, slotsUsed := s₂.slotsUsed } : State).setVm s₂.vm), L,
    ⟨X.admits, X.cas, X.clock, X.frames, X.room, X.hears, X.method, X.code, (X.here.setHeapUsed s₂.heap s₂.slotsUsed).setVm hW'.alike, X.tail, State.WarmedH.trans X.warmed hW', X.limits, X.bytes, X.same.trans (hsame.setVm s.vm)⟩,
    hL, rfl, rfl, hqc, ?_, ?_⟩
  · intro v hv
    subst hv
    obtain ⟨c₂, i₂, len₂, hc₂, hd₂, hf₂⟩ := hend
    have hcc : c₂ = c := by
      have h1 : s₂.code? g.method = T.code? g.method := by
        rw [State.code?_eq, State.code?_eq, hW'.alike.method?]
      exact Option.some.inj (hc₂.symm.trans (h1.trans h.code))
    subst hcc
    have hlen : len₂ = len := by rw [hdg] at hd₂; cases hd₂; rfl
    subst hlen
    have hs₂ : s₂ = (({ T with heap := s₂.heap, slotsUsed := s₂.slotsUsed } : State).setVm s₂.vm).setTop { g with pc := g.pc + len₂, stack := v.toList ++ g.stack } := by
      refine e3.trans ?_
      rw [hf₂, State.calling_eq h.top, State.setFrames_setFrames, State.setTop_of_frames _ hr', hr]
      rfl
    rw [← hs₂]
    exact hsteps
  · intro x hv
    subst hv
    have hf₂ : s₂.frames = .throwing x :: .java g :: T.frames.tail := hend
    have hs₂ : s₂ = ((({ T with heap := s₂.heap, slotsUsed := s₂.slotsUsed } : State).setVm s₂.vm).setTop g).pushFrame (.throwing x) := by
      refine e3.trans ?_
      rw [hf₂, State.calling_eq h.top, State.setFrames_setFrames, State.pushFrame, State.frames_setTop _ hr', State.setTop_of_frames _ hr', State.setFrames_setFrames, hr]
      rfl
    rw [← hs₂]
    exact hsteps
end XLC
section XLD
/-- a call at the level of W: how it ends, and how the walk goes on then -/
def xl_Run (p : Program) (l : Launch) (e : Env) (R : Room) (s : State) (m : MethodId) (args : Array Value) (below : List Frame) (meth : Method) (c : Code) (H : Heap) (locs : List Loc) (cells slots : Nat) (kc ks : Outcome → Nat) (g : JFrame) (rest : List Value) (Qa : State → Outcome → State → Prop) (free : Addr → Prop) : Prop :=
  ∀ T : State, T.heap = H → Stand p l e R s m args below meth c T locs cells slots → ∃ (o : Outcome) (st₀ t T' : State) (L : List Loc), st₀.heap = H ∧ Stand p l e R s m args below meth c T' (locs ++ L) (cells + kc o) (slots + ks o) ∧ (∀ q ∈ L, free q.base) ∧ T'.heap = t.heap ∧ T'.vm = t.vm ∧ Qa st₀ o t ∧
    (∀ v, o = .returned v → ∀ tg, Steps p.tables e below (T'.setTop { g with pc := g.pc + 3, stack := v.toList ++ rest }) tg → Steps p.tables e below (T.setTop g) tg) ∧
    (∀ x, o = .threw x → ∀ tg, Steps p.tables e below ((T'.setTop { g with stack := rest }).pushFrame (.throwing x)) tg → Steps p.tables e below (T.setTop g) tg)
variable {p : Program} {l : Launch} {e : Env} {R : Room} {s : State} {m : MethodId} {args : Array Value} {below : List Frame} {meth : Method} {c : Code} {H : Heap} {locs : List Loc} {cells slots : Nat} {Q : State → Prop}
theorem xl_runS {y : MethodName} {cc : ByteArray} {maxL nL n index : Nat} {ws : List Cond} {rm : Room} {Pc : Array Value → State → Prop} {Qc : Array Value → State → Outcome → State → Prop} {kc ks : Outcome → Nat} {free : Addr → Prop} {Ts : List Cond} {own : String} {As rest : List Value} {g : JFrame}
    (S : CallFix p m c cc nL s args Ts own) (hM : xl_Met l y ws rm Pc Qc kc ks free) (hR : rm.frames + 1 ≤ R.frames ∧ 8 + (maxL + 11) + rm.locals ≤ R.locals)
    (hws : ∀ w ∈ ws, ∀ (a' : Array Value) (U : State), s.WarmedH U.vm → w.before a' U = true) (hini : (Cond.initialized y.cls).before args s = true) (hy : y.cls ≠ "java/lang/invoke/MethodHandle" ∧ y.cls ≠ "java/lang/invoke/VarHandle") (hC : xl_C s y maxL n)
    (hl : (Cond.methodLink own index y).before args s = true) (hst : (Cond.static y).before args s = true) (hp : PreS s H Pc As)
    (hg : g.method = m) (hn : As.length = n) (hsize : g.locals.size = nL) (hstack : g.stack = As.reverse ++ rest) (hW : 2 * g.monitorRoom + (rest.map fun v => v.category).sum ≤ 8) (hdg : decode cc g.pc = .ok (.invokestatic index, 3)) (hf : cells + rm.cells ≤ R.cells ∧ slots + rm.slots ≤ R.slots) :
    xl_Run p l e R s m args below meth c H locs cells slots kc ks g rest (Qc As.toArray) free := by
  obtain ⟨hx, hb, hml, ho, -⟩ := S
  obtain ⟨mk, methM, cM, hnamed, hmethM, hcM, hlM, hpM⟩ := hC
  intro T hT X
  have hstatic : methM.isStatic = true := Cond.static_spec hnamed hmethM hst
  obtain ⟨kP, hkP, -⟩ := className_of_methodNamed hnamed
  have hinitP : kP.init = .initialized := Cond.initialized_spec (findClass_of_methodNamed hnamed) hkP hini
  obtain ⟨vm₁, X₁, hstep₁⟩ := X.invokestatic hx ho hl hnamed hmethM hstatic hkP hinitP hy (g := g) hg (argsL := As) (rest := rest) (hn.trans hpM.symm) hstack (by rw [hb]; exact hdg)
  obtain ⟨o, t, T', L, X', hL, e1, e2, hq, gr, gt⟩ := xl_call (Wd := 8) (maxL := maxL) hM hp.1 hR.1 hR.2 hws (fun a' U hW => word_at hW (Or.inl (by first | rfl | simp [Cond.onTables, Cond.keeps, Cond.steady])) hini) X₁ (g := { g with stack := rest }) hg (hsize.trans hml.symm) (ig := .invokestatic index) (len := 3) (by rw [hb]; exact hdg) hW
    (X₁.named hnamed) (by rw [X₁.warmed.alike.method?]; exact hmethM) hcM hlM hf.1 hf.2 (a := As.toArray) (hp.2 (T.setVm vm₁) hT X₁.warmed)
  refine ⟨o, (T.setVm vm₁).calling { g with stack := rest } mk As.toArray, t, T', L, hT, X', hL, e1, e2, hq, fun v hv tg h => hstep₁ _ fun acts => ?_, fun x hv tg h => hstep₁ _ fun acts => ?_⟩
  · rw [doInvoke_state]
    exact (gr v hv).trans h
  · rw [doInvoke_state]
    exact (gt x hv).trans h
theorem xl_runV {y : MethodName} {cc : ByteArray} {maxL nL n index : Nat} {ws : List Cond} {rm : Room} {Pc : Array Value → State → Prop} {Qc : Array Value → State → Outcome → State → Prop} {kc ks : Outcome → Nat} {free : Addr → Prop} {Ts : List Cond} {own C : String} {b : Addr} {As rest : List Value} {g : JFrame}
    (S : CallFix p m c cc nL s args Ts own) (hM : xl_Met l y ws rm Pc Qc kc ks free) (hR : rm.frames + 1 ≤ R.frames ∧ 8 + (maxL + 11) + rm.locals ≤ R.locals)
    (hws : ∀ w ∈ ws, ∀ (a' : Array Value) (U : State), s.WarmedH U.vm → w.before a' U = true) (hini : (Cond.initialized y.cls).before args s = true) (hy : y.cls ≠ "java/lang/invoke/MethodHandle" ∧ y.cls ≠ "java/lang/invoke/VarHandle") (hC : xl_C s y maxL n)
    (hl : (Cond.methodLink own index y).before args s = true) (hin : (Cond.instanceMethod y).before args s = true) (hse : (Cond.selects C y y).before args s = true) (hp : PreV s H C b Pc As)
    (hg : g.method = m) (hn : As.length = n) (hsize : g.locals.size = nL) (hstack : g.stack = As.reverse ++ .ref b :: rest) (hW : 2 * g.monitorRoom + (rest.map fun v => v.category).sum ≤ 8) (hdg : decode cc g.pc = .ok (.invokevirtual index, 3)) (hf : cells + rm.cells ≤ R.cells ∧ slots + rm.slots ≤ R.slots) :
    xl_Run p l e R s m args below meth c H locs cells slots kc ks g rest (Qc (Value.ref b :: As).toArray) free := by
  obtain ⟨hx, hb, hml, ho, -⟩ := S
  obtain ⟨mk, methM, cM, hnamed, hmethM, hcM, hlM, hpM⟩ := hC
  obtain ⟨hbl, ⟨cellB, hcB, hoB, hclB⟩, hPc⟩ := hp
  intro T hT X
  obtain ⟨mk', methM', hnamed', hmethM', hstM, habM⟩ := Cond.instanceMethod_spec hin
  cases hnamed.symm.trans hnamed'
  cases hmethM.symm.trans hmethM'
  obtain ⟨c2, r2, m2, q1, q2, q3, q4, kP, hkP, hkPi⟩ := Cond.selects_spec hse
  cases hclB.symm.trans q1
  cases (State.methodFound?_of_named hnamed hy).symm.trans q2
  cases hnamed.symm.trans q3
  have hselP : selectMethod e.platform s.vm cellB.cls mk = .method mk := by rw [Launch.admits_selectMethod X.admits]; exact q4
  obtain ⟨vm₁, X₁, hstep₁⟩ := X.invokevirtual hx ho hl hnamed hmethM hstM hkP hkPi hy (a := b) (cell := cellB) (by rw [hT]; exact hcB)
    (fun z h => by rw [h] at hoB; cases hoB) hselP hmethM habM hkP hkPi (g := g) hg (argsL := As) (rest := rest) (hn.trans hpM.symm) hstack (by rw [hb]; exact hdg)
  obtain ⟨o, t, T', L, X', hL, e1, e2, hq, gr, gt⟩ := xl_call (Wd := 8) (maxL := maxL) hM hbl hR.1 hR.2 hws (fun a' U hW => word_at hW (Or.inl (by first | rfl | simp [Cond.onTables, Cond.keeps, Cond.steady])) hini) X₁ (g := { g with stack := rest }) hg (hsize.trans hml.symm) (ig := .invokevirtual index) (len := 3) (by rw [hb]; exact hdg) hW
    (X₁.named hnamed) (by rw [X₁.warmed.alike.method?]; exact hmethM) hcM hlM hf.1 hf.2 (a := (Value.ref b :: As).toArray) (hPc (T.setVm vm₁) hT X₁.warmed)
  refine ⟨o, (T.setVm vm₁).calling { g with stack := rest } mk (Value.ref b :: As).toArray, t, T', L, hT, X', hL, e1, e2, hq, fun v hv tg h => hstep₁ _ fun acts => ?_, fun x hv tg h => hstep₁ _ fun acts => ?_⟩
  · rw [doInvoke_state]
    exact (gr v hv).trans h
  · rw [doInvoke_state]
    exact (gt x hv).trans h
/-- an end by its two cases; what isn't in A stays -/
def xl_Q (A : Nat → Prop) (Rt : Option Value → State → State → Prop) (Th : Addr → State → State → Prop) : Array Value → State → Outcome → State → Prop := fun _ st o t => va_F A st t ∧ (∀ v, o = .returned v → Rt v st t) ∧ ∀ x, o = .threw x → Th x st t
variable {pc : Nat} {ls : Array Slot} {rest st0 : List Value} {a : Array Value} {A0 A1 : Nat → Prop} {H0 : Heap} {kc ks : Outcome → Nat} {free : Addr → Prop} {Rt : Option Value → State → State → Prop} {Th : Addr → State → State → Prop}
/-- a call that may write -/
theorem xl_goes (hr : xl_Run p l e R s m args below meth c H locs cells slots kc ks (F0 m pc ls st0) rest (xl_Q A1 Rt Th a) free) (hS : va_S A0 H0 H locs) (hA : ∀ q, q < H.size → A1 q → A0 q) (hf : ∀ q, free q → A0 q)
    (kr : ∀ (v : Option Value) (st t : State) (locs1 : List Loc), st.heap = H → s.vm.Alike t.vm → Rt v st t → va_S A0 H0 t.heap locs1 → H.size ≤ t.heap.size → (∀ q : Nat, q < H.size → ¬ A1 q → t.heap[q]? = H[q]?) → W p l e R s m args below meth c t.heap locs1 (cells + kc (.returned v)) (slots + ks (.returned v)) Q (F0 m (pc + 3) ls (v.toList ++ rest)))
    (kt : ∀ (x : Addr) (st t : State) (locs1 : List Loc), st.heap = H → s.vm.Alike t.vm → Th x st t → va_S A0 H0 t.heap locs1 → H.size ≤ t.heap.size → (∀ q : Nat, q < H.size → ¬ A1 q → t.heap[q]? = H[q]?) → xl_W p l e R s m args below meth c t.heap locs1 (cells + kc (.threw x)) (slots + ks (.threw x)) Q (F0 m pc ls rest) x) :
    W p l e R s m args below meth c H locs cells slots Q (F0 m pc ls st0) := by
  intro T hT X
  obtain ⟨o, st₀, t, T', L, h0, X', hL, e1, e2, ⟨⟨hz, hk⟩, hrt, hth⟩, gr, gt⟩ := hr T hT X
  rw [h0] at hz hk
  have hS' : va_S A0 H0 t.heap (locs ++ L) := ⟨Nat.le_trans hS.1 hz, fun q h1 h2 => by rw [hk q (Nat.lt_of_lt_of_le h1 hS.1) (fun z => h2 (hA q (Nat.lt_of_lt_of_le h1 hS.1) z))]; exact hS.2.1 q h1 h2, fun q hq => by
      rcases List.mem_append.mp hq with h | h
      · exact hS.2.2 q h
      · exact hf _ (hL q h)⟩
  have hal : s.vm.Alike t.vm := by rw [← e2]; exact X'.warmed.alike
  cases o with
  | returned v =>
    obtain ⟨t2, a1, b1⟩ := kr v st₀ t (locs ++ L) h0 hal (hrt v rfl) hS' hz hk T' e1 X'
    exact ⟨t2, gr v rfl t2 a1, b1⟩
  | threw x =>
    obtain ⟨t2, a1, b1⟩ := kt x st₀ t (locs ++ L) h0 hal (hth x rfl) hS' hz hk T' e1 X'
    exact ⟨t2, gt x rfl t2 a1, b1⟩
/-- a call that only looks: where it returns the heap is as it was -/
theorem xl_looks (hr : xl_Run p l e R s m args below meth c H locs cells slots kc ks (F0 m pc ls st0) rest (xl_Q A1 Rt Th a) (fun _ => False)) (hp : ∀ v st t, Rt v st t → t.heap = st.heap)
    (kr : ∀ (v : Option Value) (st t : State), st.heap = H → s.vm.Alike t.vm → Rt v st t → W p l e R s m args below meth c H locs (cells + kc (.returned v)) (slots + ks (.returned v)) Q (F0 m (pc + 3) ls (v.toList ++ rest)))
    (kt : ∀ (x : Addr) (st t : State), st.heap = H → s.vm.Alike t.vm → Th x st t → H.size ≤ t.heap.size → xl_W p l e R s m args below meth c t.heap locs (cells + kc (.threw x)) (slots + ks (.threw x)) Q (F0 m pc ls rest) x) :
    W p l e R s m args below meth c H locs cells slots Q (F0 m pc ls st0) := by
  intro T hT X
  obtain ⟨o, st₀, t, T', L, h0, X', hL, e1, e2, ⟨⟨hz, hk⟩, hrt, hth⟩, gr, gt⟩ := hr T hT X
  rw [h0] at hz
  have hal : s.vm.Alike t.vm := by rw [← e2]; exact X'.warmed.alike
  have X2 := Stand.forget (extra := L) X' (fun q h => (hL q h).elim)
  cases o with
  | returned v =>
    obtain ⟨t2, a1, b1⟩ := kr v st₀ t h0 hal (hrt v rfl) T' (by rw [e1, hp _ _ _ (hrt v rfl), h0]) X2
    exact ⟨t2, gr v rfl t2 a1, b1⟩
  | threw x =>
    obtain ⟨t2, a1, b1⟩ := kt x st₀ t h0 hal (hth x rfl) hz T' e1 X2
    exact ⟨t2, gt x rfl t2 a1, b1⟩
end XLD
end
section
/-! 'throw new E(text)' and 'catch': rows over W. -/
section XLT
variable {p : Program} {l : Launch} {e : Env} {R : Room} {s : State} {m : MethodId} {args : Array Value} {below : List Frame} {meth : Method} {c : Code} {H : Heap} {locs : List Loc} {cells slots : Nat} {Q : State → Prop}
/-- what flies: an object x of the class E; what was there is there as it was -/
def xl_T (E : String) (x : Addr) (H0 H : Heap) (vm : Vm) : Prop := H0.size ≤ H.size ∧ (∀ (q : Nat) (cell : Cell), H0[q]? = some cell → H[q]? = some cell) ∧ ∃ ce : Cell, H[x]? = some ce ∧ vm.findClass E = some ce.cls ∧ ce.vm = .none
theorem xl_T.moved {E : String} {x : Addr} {H0 H1 : Heap} {u v : Vm} (h : xl_T E x H0 H1 u) (hv : v.findClass E = u.findClass E) : xl_T E x H0 H1 v := by
  obtain ⟨h1, h2, ce, h3, h4, h5⟩ := h
  exact ⟨h1, h2, ce, h3, hv.trans h4, h5⟩
set_option maxHeartbeats 2000000 in
theorem xl_throw {cc : ByteArray} {Qc : Array Value → State → Outcome → State → Prop} {kc ks : Outcome → Nat} {free : Addr → Prop} (hx : p.tables.exec = Jvm.exec) (hb : c.code = cc) (hl : l.stackTraces = false) {own cls tx : String} {names : List String} {ia ib ic q : Nat} (hown : s.vm.findClass own = some m.cls) (hcls : Bundle.fit cls = true) (hnames : ∀ n ∈ names, Bundle.fit n = true)
    (h : ∀ a ∈ Bundle.ownAtoms own ic cls names, a.before args s = true) (hcl : (Cond.classLink own ia cls).before args s = true) (hini : (Cond.initialized cls).before args s = true) (hZ : vk_R own ib tx q s)
    {pc : Nat} {ls : Array Slot} (hsz : ls.size = c.maxLocals)
    (hd0 : decode cc pc = .ok (.new ia, 3)) (hd3 : decode cc (pc + 3) = .ok (.dup, 1)) (hd4 : decode cc (pc + 4) = .ok (.ldc ib, 2)) (hd6 : decode cc (pc + 6) = .ok (.invokespecial ic, 3)) (hd9 : decode cc (pc + 9) = .ok (.athrow, 1))
    (hout : ∀ y ∈ c.exceptionTable.toList, covers y (pc + 9) = false) (hlocks : meth.locks = false)
    (hR : names.length + 3 < R.frames ∧ 1 + (13 * (names.length + 1) + 42) ≤ R.locals ∧ 1 ≤ R.cells ∧ 6 ≤ R.slots) (hk : ∀ x, kc (.threw x) = 1) (hs : ∀ x, ks (.threw x) = 6)
    (hq : ∀ (x : Addr) (t : State), xl_T cls x s.heap t.heap t.vm → s.heap.size ≤ x → Qc args s (.threw x) t) :
    W p l e R s m args below meth c s.heap [] 0 0 (xl_MQ below Qc args s kc ks free) (F0 m pc ls []) := by
  refine W.newc hx hb hown hcl (h (.instantiable cls 6) (by simp [Bundle.ownAtoms])) hini (g := F0 m pc ls []) rfl hd0 (by omega) (by omega) (fun cX kX h1 h2 _ _ => ?_)
  refine W.eq (g2 := F0 m (pc + 3) ls [.ref s.heap.size]) rfl ?_
  refine lv_dup hx hb hd3 rfl ?_
  refine va_ldcS hx hb hown hZ hd4 ?_
  intro T hT X
  have hcell : T.heap[s.heap.size]? = some (freshCell cX kX) := by rw [hT]; exact Array.getElem?_push_size
  have hl2 : 2 * (F0 m (pc + 6) ls [.ref q, .ref s.heap.size, .ref s.heap.size]).monitorRoom + ((Value.ref s.heap.size :: ([] : List Value)).map fun v => v.category).sum + (13 * (names.length + 1) + 42) ≤ R.locals := hR.2.1
  obtain ⟨U, st, hrun, hend, hW, hsame, ce, hce, hoc⟩ := X.ctorThrowS hx (by rw [X.admits.platform]; exact hl) hown hcls hnames h (fun x hx => by cases hx) h1 h2 hcell (Nat.le_refl _) (msg := .ref q) rfl
    (g := F0 m (pc + 6) ls [.ref q, .ref s.heap.size, .ref s.heap.size]) rfl hsz rfl rfl (rest := []) rfl (by rw [hb]; exact hd6) (by rw [hb]; exact hd9) hout hR.1 hl2 hlocks
  refine ⟨U, st, .threw s.heap.size, hrun, hend, hq _ _ ⟨hsame.2.1, fun q cell hc => hsame.old_cell hc, ce, hce, ?_, hoc.vm⟩ (Nat.le_refl _), [], ⟨hW, by rw [hk, hs]; exact hsame⟩, fun q hq => by cases hq⟩
  rw [hW.alike.findClass]
  exact hoc.cls
end XLT
section XLF
/-- the search for a handler, and the tables that it leaves -/
def xl_Finds (e : Env) (s : State) (f : JFrame) (a : Addr) (h : Handler) (vm' : Vm) : Prop :=
  ∀ (Q : Handler → Pre) (E : CtlPost) (d : Bool) (acts : List Action), wp (findHandler f a) Q E e d acts s ↔ Q h d acts (s.setVm vm')
theorem xl_go {Q : Handler → Pre} {E : CtlPost} {e : Env} {d : Bool} {acts : List Action} {s : State} {f : JFrame} {a : Addr} {x : ExceptionTableEntry} {t : List ExceptionTableEntry} {c : ClassId} {cell : Cell} (hx : covers x f.pc = true) (h0 : x.catchType ≠ 0)
    (hl : s.vm.ClassLinks e.platform f.method.cls x.catchType c) (hcell : s.heap[a]? = some cell) (hobj : ∀ k, cell.vm ≠ .statics k) (hk : ∃ k, s.vm.classes[cell.cls]? = some k) (hc : ∃ k, s.vm.classes[c]? = some k) :
    wp (findHandler.go f a (x :: t)) Q E e d acts s ↔ if s.vm.assignable cell.cls c = true then Q (.found x.handlerPc) d acts (s.setVm (s.vm.noted f.method.cls x.catchType (.cls c))) else wp (findHandler.go f a t) Q E e d acts (s.setVm (s.vm.noted f.method.cls x.catchType (.cls c))) := by
  simp only [covers] at hx
  obtain ⟨ha, ht⟩ := (resolveClass_links e.toSetting hl).op (op := VmOp.resolveClass f.method.cls x.catchType) rfl
  have hal : s.vm.Alike (s.vm.noted f.method.cls x.catchType (.cls c)) := (Vm.Alike.refl s.vm).noted _ _ _
  obtain ⟨k1, hk1⟩ := hk
  obtain ⟨k2, hk2⟩ := hc
  obtain ⟨k1', hk1', -⟩ := hal.2.2 _ _ hk1
  obtain ⟨k2', hk2', -⟩ := hal.2.2 _ _ hk2
  have hfit' : (s.vm.noted f.method.cls x.catchType (.cls c)).assignable cell.cls c = s.vm.assignable cell.cls c := by rw [hal.assignable]
  cases hfit : s.vm.assignable cell.cls c <;> rw [hfit] at hfit' <;>
    simp [findHandler.go, hx, h0, ha, ht, hcell, hobj, hk1', hk2', hfit', VmOp.dirties, VmOp.acts]
end XLF
end
section
/-! Static fields that a throw looks at (rows vx_L .. vx_isRefq pasted from NAMES.whole), and words that stay true. -/
section XLS
/-- where a static field lies, its class's statics cell in H -/
def vx_L (C n d : String) (A : Nat → Prop) (U : State) (H : Heap) : Prop := ∃ (c : ClassId) (k : Class) (i : Nat) (f : Field) (a : Nat) (cell : Cell), U.vm.findClass C = some c ∧ U.fieldFound? C n d = some (c, k, i, f) ∧ f.isStatic = true ∧ k.statics = some a ∧ H[a]? = some cell ∧ cell.vm.isStatics = true ∧ cell.cls = c ∧ f.slot < cell.slots.size ∧ k.staticTypes[f.slot]? = some f.type ∧ ¬ A a
theorem vx_L.moved {C n d : String} {A : Nat → Prop} {u U : State} {H : Heap} (hvm : u.vm.Alike U.vm) (h : vx_L C n d A u H) : vx_L C n d A U H := by
  obtain ⟨c, k, i, f, a, cell, h1, h2, h3, h4, h5, h6, h7, h8, h9, h10⟩ := h
  obtain ⟨k', hi', he⟩ := State.fieldFound?_setVm hvm h2
  exact ⟨c, k', i, f, a, cell, by rw [hvm.findClass]; exact h1, hi', h3, by rw [he]; exact h4, h5, h6, h7, h8, by rw [he]; exact h9, h10⟩
theorem vx_L.kept {C n d : String} {A : Nat → Prop} {U : State} {H H1 : Heap} (h : vx_L C n d A U H) (hq : ∀ a : Nat, a < H.size → ¬ A a → H1[a]? = H[a]?) : vx_L C n d A U H1 := by
  obtain ⟨c, k, i, f, a, cell, h1, h2, h3, h4, h5, h6, h7, h8, h9, h10⟩ := h
  exact ⟨c, k, i, f, a, cell, h1, h2, h3, h4, by rw [hq a (Array.getElem?_eq_some_iff.mp h5).1 h10]; exact h5, h6, h7, h8, h9, h10⟩
theorem vx_L.narrow {C n d : String} {A B : Nat → Prop} {U : State} {H : Heap} (h : vx_L C n d A U H) (hAB : ∀ q, B q → A q) : vx_L C n d B U H := by
  obtain ⟨c, k, i, f, a, cell, h1, h2, h3, h4, h5, h6, h7, h8, h9, h10⟩ := h
  exact ⟨c, k, i, f, a, cell, h1, h2, h3, h4, h5, h6, h7, h8, h9, fun z => h10 (hAB _ z)⟩
theorem vx_L.word {C n d : String} {A : Nat → Prop} {s : State} {args : Array Value} (h : vx_L C n d A s s.heap) : (Cond.laysStatic C n d).before args s = true := by
  obtain ⟨c, k, i, f, a, cell, h1, h2, h3, h4, h5, h6, h7, h8, h9, -⟩ := h
  show (Cond.laysStatic C n d).holds args s none s [] = true
  exact Cond.laysStatic_of h1 h2 h3 h4 h5 h6 h7 h8 h9
/-- .. and what it holds: null or some reference -/
def vx_Zq (C n d : String) (A : Nat → Prop) (U : State) (H : Heap) : Prop := va_Zq C n d A U H ∧ vx_L C n d A U H
theorem vx_Zq.moved {C n d : String} {A : Nat → Prop} {u U : State} {H : Heap} (hvm : u.vm.Alike U.vm) (h : vx_Zq C n d A u H) : vx_Zq C n d A U H := ⟨va_Zq.moved hvm h.1, vx_L.moved hvm h.2⟩
theorem vx_Zq.kept {C n d : String} {A : Nat → Prop} {U : State} {H H1 : Heap} (h : vx_Zq C n d A U H) (hq : ∀ a : Nat, a < H.size → ¬ A a → H1[a]? = H[a]?) : vx_Zq C n d A U H1 := ⟨va_Zq.kept h.1 hq, vx_L.kept h.2 hq⟩
theorem vx_Zq.narrow {C n d : String} {A B : Nat → Prop} {U : State} {H : Heap} (h : vx_Zq C n d A U H) (hAB : ∀ q, B q → A q) : vx_Zq C n d B U H := ⟨va_Zq.narrow h.1 hAB, vx_L.narrow h.2 hAB⟩
theorem vx_Zqof {args : Array Value} {s : State} {C n d : String} {A : Nat → Prop} (hl : (Cond.laysStatic C n d).before args s = true) (hini : (Cond.initialized C).before args s = true) (h : (Cond.isRef (.static C n d)).before args s = true) (hA : ∀ a : Nat, a < s.heap.size → ¬ A a) : vx_Zq C n d A s s.heap := by
  refine ⟨va_Zqof hl hini h hA, ?_⟩
  obtain ⟨c, k, i, f, a, cell, h1, h2, h3, h4, h5, h6, h7, h8, h9⟩ := Cond.laysStatic_spec hl
  exact ⟨c, k, i, f, a, cell, h1, h2, h3, h4, h5, h6, h7, h8, h9, hA a (Array.getElem?_eq_some_iff.mp h5).1⟩
theorem vx_isRef {C n d : String} {v : Value} {A : Nat → Prop} {s : State} {args : Array Value} (h : va_Z C n d v A s s.heap) (hv : v.isRef = true) : (Cond.isRef (.static C n d)).before args s = true := by
  obtain ⟨cf, kf, fi, f, a, cell, h1, h2, h3, h4, h5, h6, h7, -⟩ := h
  have he : (Term.static C n d).eval args s none [] s = some v := by
    simp [Term.eval, State.fieldNamed?, h1, h2, h4, h5, h6, h7]
  simp only [Cond.before, Cond.holds, Cond.value, he]
  cases v <;> simp_all [Value.isRef]
theorem vx_isRefq {C n d : String} {A : Nat → Prop} {s : State} {args : Array Value} (h : va_Zq C n d A s s.heap) : (Cond.isRef (.static C n d)).before args s = true := by
  rcases h with h | ⟨t, h⟩
  · exact vx_isRef h rfl
  · exact vx_isRef h rfl
theorem xG_at {args a' : Array Value} {s U : State} {w : Cond} (hW : s.WarmedH U.vm) (hg : xG w = true) (h : w.before args s = true) : w.before a' U = true := by
  cases w
  case castable x y =>
    have h1 : (Cond.castable x y).before args (s.setVm U.vm) = true := Cond.before_shiftedFace (State.Shifted.of_warmed hW) _ rfl h
    exact h1
  case declares x =>
    have h1 : (Cond.declares x).before args (s.setVm U.vm) = true := Cond.before_shiftedFace (State.Shifted.of_warmed hW) _ rfl h
    exact h1
  case stringRef x y z =>
    have h1 : (Cond.stringRef x y z).before args (s.setVm U.vm) = true := Cond.stringRef_warmed hW h
    exact h1
  all_goals exact word_at hW (good_of_word hg) h
/-- the two static fields that a throw looks at hold a reference or null -/
def xq (U : State) : Prop := vx_Zq Bundle.tN "UNASSIGNED_STACK" Bundle.steD (fun _ => False) U U.heap ∧ vx_Zq Bundle.tN "SUPPRESSED_SENTINEL" Bundle.listD (fun _ => False) U U.heap
theorem xQc {s : State} (h : xq s) : (∀ U : State, U.heap = s.heap → s.WarmedH U.vm → xq U) ∧ ∀ (U : State) (g : JFrame) (mk : MethodId) (z : Array Value), xq U → xq (U.calling g mk z) :=
  ⟨fun U hU hW => ⟨by rw [hU]; exact vx_Zq.moved hW.alike h.1, by rw [hU]; exact vx_Zq.moved hW.alike h.2⟩, fun U g mk z q => ⟨vx_Zq.moved (u := U) (U := U.calling g mk z) (Vm.Alike.refl U.vm) q.1, vx_Zq.moved (u := U) (U := U.calling g mk z) (Vm.Alike.refl U.vm) q.2⟩⟩
end XLS
end
section
/-! The words of each throw. -/
def xst : List Cond := [.isRef (.static Bundle.tN "UNASSIGNED_STACK" Bundle.steD), .isRef (.static Bundle.tN "SUPPRESSED_SENTINEL" Bundle.listD), .laysStatic Bundle.tN "UNASSIGNED_STACK" Bundle.steD, .laysStatic Bundle.tN "SUPPRESSED_SENTINEL" Bundle.listD]
def xwT (E tx : String) (ia ib ic : Nat) : Prop := Cond.classLink R_X ia E ∈ XT ∧ Cond.initialized E ∈ XT ∧ Cond.stringRef R_X ib tx ∈ XT ∧ (∀ w ∈ Bundle.ownAtoms R_X ic E ["java/lang/RuntimeException", "java/lang/Exception"], w ∈ XT ∨ w ∈ xst) ∧ Bundle.fit E = true
set_option maxRecDepth 100000 in
theorem oa_IA : ∀ w ∈ Bundle.ownAtoms R_X 35 E_IA ["java/lang/RuntimeException", "java/lang/Exception"], w ∈ XT ∨ w ∈ xst := by decide +kernel
set_option maxRecDepth 100000 in
theorem oa_IO : ∀ w ∈ Bundle.ownAtoms R_X 123 E_IO ["java/lang/RuntimeException", "java/lang/Exception"], w ∈ XT ∨ w ∈ xst := by decide +kernel
set_option maxRecDepth 100000 in
theorem oa_UO : ∀ w ∈ Bundle.ownAtoms R_X 84 E_UO ["java/lang/RuntimeException", "java/lang/Exception"], w ∈ XT ∨ w ∈ xst := by decide +kernel
theorem tw_IA_requireWidth : xwT E_IA "the width is not 0 .. 64" 31 112 35 := ⟨cl_X_IA, in_IA_ini, xT_in 84 rfl rfl, oa_IA, by decide +kernel⟩
theorem tw_IO_requireRoom : xwT E_IO "the row would have more than 65536 bits" 119 121 123 := ⟨cl_X_IO, in_IO_ini, xT_in 125 rfl rfl, oa_IO, by decide +kernel⟩
theorem tw_IA_putRange : xwT E_IA "the number is not in the range" 31 33 35 := ⟨cl_X_IA, in_IA_ini, xT_in 148 rfl rfl, oa_IA, by decide +kernel⟩
theorem tw_IA_putLength : xwT E_IA "the length is below 0" 31 42 35 := ⟨cl_X_IA, in_IA_ini, xT_in 166 rfl rfl, oa_IA, by decide +kernel⟩
theorem tw_IA_requireKind : xwT E_IA "there is no such kind" 31 114 35 := ⟨cl_X_IA, in_IA_ini, xT_in 187 rfl rfl, oa_IA, by decide +kernel⟩
theorem tw_UO_bitsAt : xwT E_UO "the bits that are left are too few" 80 129 84 := ⟨cl_X_UO, in_UO_ini, xT_in 233 rfl rfl, oa_UO, by decide +kernel⟩
theorem tw_IA_takeRange : xwT E_IA "the range is empty" 31 72 35 := ⟨cl_X_IA, in_IA_ini, xT_in 251 rfl rfl, oa_IA, by decide +kernel⟩
theorem tw_UO_takeRange : xwT E_UO "the field is beyond the range" 80 82 84 := ⟨cl_X_UO, in_UO_ini, xT_in 259 rfl rfl, oa_UO, by decide +kernel⟩
theorem tw_UO_longLengthAt : xwT E_UO "the length has a shorter form" 80 137 84 := ⟨cl_X_UO, in_UO_ini, xT_in 275 rfl rfl, oa_UO, by decide +kernel⟩
theorem tw_UO_piecesAt : xwT E_UO "the pieces are not 1 .. 4" 80 139 84 := ⟨cl_X_UO, in_UO_ini, xT_in 280 rfl rfl, oa_UO, by decide +kernel⟩
theorem tw_UO_smallAt : xwT E_UO "the small number has a shorter form" 80 141 84 := ⟨cl_X_UO, in_UO_ini, xT_in 298 rfl rfl, oa_UO, by decide +kernel⟩
theorem tw_UO_numberAt_17 : xwT E_UO "the bytes are not 1 .. 8" 80 143 84 := ⟨cl_X_UO, in_UO_ini, xT_in 296 rfl rfl, oa_UO, by decide +kernel⟩
theorem tw_UO_numberAt_78 : xwT E_UO "the number has a shorter form" 80 145 84 := ⟨cl_X_UO, in_UO_ini, xT_in 297 rfl rfl, oa_UO, by decide +kernel⟩
theorem tw_IA_requireCut : xwT E_IA "the row does not reach so far" 31 116 35 := ⟨cl_X_IA, in_IA_ini, xT_in 310 rfl rfl, oa_IA, by decide +kernel⟩
theorem tw_IA_turn : xwT E_IA "there is no such bit" 31 102 35 := ⟨cl_X_IA, in_IA_ini, xT_in 318 rfl rfl, oa_IA, by decide +kernel⟩
theorem tw_IA_count : xwT E_IA "there is no such count" 31 110 35 := ⟨cl_X_IA, in_IA_ini, xT_in 333 rfl rfl, oa_IA, by decide +kernel⟩
end
section
/-! Bits of a long, the row of bits, what a number needs. The families wb and uN are pasted from kit/laws/BITS.to-paste. -/
theorem wb_tb (n : Nat) : (lN n).toBitVec = BitVec.ofNat 64 n := rfl
theorem wb_inj {a b : Int64} (h : a.toBitVec = b.toBitVec) : a = b := Int64.toBitVec_inj.mp h
theorem wb_tn {n : Nat} (h : n < 2 ^ 64) : (lN n).toBitVec.toNat = n := by rw [wb_tb, BitVec.toNat_ofNat, Nat.mod_eq_of_lt h]
theorem wb_of (x : Int64) : ∃ n, n < 2 ^ 64 ∧ x = lN n := ⟨x.toBitVec.toNat, x.toBitVec.isLt, wb_inj (by rw [wb_tb]; simp)⟩
theorem wb_of32 (x : Int32) : ∃ n, n < 2 ^ 32 ∧ x = nI n := ⟨x.toBitVec.toNat, x.toBitVec.isLt, Int32.toBitVec_inj.mp (by show _ = BitVec.ofNat 32 _; simp)⟩
theorem wb_c : ∀ k, k < 64 → ((nI k).toInt64 &&& 63) = lN k := by decide +kernel
theorem wb_cu : ∀ k, k < 64 → ((nI k).toInt64.toUInt64 &&& Int64.toUInt64 63) = UInt64.ofNat k := by decide +kernel
theorem wb_sm : ∀ k, k < 64 → (BitVec.ofNat 64 k).smod 64 = BitVec.ofNat 64 k := by decide +kernel
theorem wb_pw {a b : Nat} (h : a ≤ b) : 2 ^ b = 2 ^ a * 2 ^ (b - a) := by rw [← Nat.pow_add]; congr 1; omega
theorem wb_lt2 {a b : Nat} (h : a < b) : 2 ^ a < 2 ^ b := Nat.pow_lt_pow_right (by decide) h
theorem wb_mod (n : Nat) : lN n = lN (n % 2 ^ 64) := wb_inj (by rw [wb_tb, wb_tb]; apply BitVec.eq_of_toNat_eq; rw [BitVec.toNat_ofNat, BitVec.toNat_ofNat, Nat.mod_mod])
theorem wb_shr {n k : Nat} (hn : n < 2 ^ 64) (hk : k < 64) : ((lN n).toUInt64 >>> ((nI k).toInt64.toUInt64 &&& Int64.toUInt64 63)).toInt64 = lN (n / 2 ^ k) := by
  rw [wb_cu k hk]
  apply wb_inj
  apply BitVec.eq_of_toNat_eq
  show ((lN n).toUInt64 >>> UInt64.ofNat k).toNat = (BitVec.ofNat 64 _).toNat
  have h1 : (UInt64.ofNat k).toNat = k := by
    show (BitVec.ofNat 64 k).toNat = k
    rw [BitVec.toNat_ofNat, Nat.mod_eq_of_lt (by omega)]
  have h2 : (lN n).toUInt64.toNat = n := wb_tn hn
  rw [UInt64.toNat_shiftRight, h1, h2, Nat.mod_eq_of_lt hk, Nat.shiftRight_eq_div_pow, BitVec.toNat_ofNat, Nat.mod_eq_of_lt (Nat.lt_of_le_of_lt (Nat.div_le_self _ _) hn)]
theorem wb_shl (n : Nat) {k : Nat} (hk : k < 64) : lN n <<< ((nI k).toInt64 &&& 63) = lN (n * 2 ^ k) := by
  rw [wb_c k hk]
  apply wb_inj
  rw [Int64.toBitVec_shiftLeft, wb_tb, wb_tb, wb_tb, wb_sm k hk]
  apply BitVec.eq_of_toNat_eq
  rw [BitVec.shiftLeft_eq', BitVec.toNat_shiftLeft, BitVec.toNat_ofNat, BitVec.toNat_ofNat, BitVec.toNat_ofNat, Nat.mod_eq_of_lt (show k < 2 ^ 64 by omega), Nat.shiftLeft_eq, Nat.mul_mod, Nat.mod_mod, ← Nat.mul_mod]
theorem wb_and {a b : Nat} (ha : a < 2 ^ 64) (hb : b < 2 ^ 64) : lN a &&& lN b = lN (a &&& b) := by
  apply wb_inj
  rw [Int64.toBitVec_and, wb_tb, wb_tb, wb_tb]
  apply BitVec.eq_of_toNat_eq
  rw [BitVec.toNat_and, BitVec.toNat_ofNat, BitVec.toNat_ofNat, BitVec.toNat_ofNat, Nat.mod_eq_of_lt ha, Nat.mod_eq_of_lt hb, Nat.mod_eq_of_lt (Nat.and_lt_two_pow _ hb)]
theorem wb_or {a b : Nat} (ha : a < 2 ^ 64) (hb : b < 2 ^ 64) : lN a ||| lN b = lN (a ||| b) := by
  apply wb_inj
  rw [Int64.toBitVec_or, wb_tb, wb_tb, wb_tb]
  apply BitVec.eq_of_toNat_eq
  rw [BitVec.toNat_or, BitVec.toNat_ofNat, BitVec.toNat_ofNat, BitVec.toNat_ofNat, Nat.mod_eq_of_lt ha, Nat.mod_eq_of_lt hb, Nat.mod_eq_of_lt (Nat.or_lt_two_pow ha hb)]
theorem wb_mask {n k : Nat} (hn : n < 2 ^ 64) (hk : k < 64) : lN n &&& lN (2 ^ k - 1) = lN (n % 2 ^ k) := by
  rw [wb_and hn (by have := wb_lt2 hk; omega), Nat.and_two_pow_sub_one_eq_mod]
theorem wb_a1 {n : Nat} (hn : n < 2 ^ 64) : lN n &&& 1 = lN (n % 2) := wb_mask (k := 1) hn (by decide)
theorem wb_bit {n k : Nat} (hn : n < 2 ^ 64) (hk : k < 64) : ((lN n).toUInt64 >>> ((nI k).toInt64.toUInt64 &&& Int64.toUInt64 63)).toInt64 &&& 1 = lN (n / 2 ^ k % 2) := by
  rw [wb_shr hn hk, wb_a1 (Nat.lt_of_le_of_lt (Nat.div_le_self _ _) hn)]
def uN (x : Int64) : Nat := x.toUInt64.toNat
theorem uN_lt (x : Int64) : uN x < 18446744073709551616 := x.toUInt64.toNat_lt
theorem uN_inj {x y : Int64} (h : uN x = uN y) : x = y := congrArg UInt64.toInt64 (UInt64.toNat_inj.mp h)
theorem uN_add (x y : Int64) : uN (x + y) = (uN x + uN y) % 18446744073709551616 := by
  show (x.toUInt64 + y.toUInt64).toNat = _
  exact UInt64.toNat_add _ _
theorem uN_mul (x y : Int64) : uN (x * y) = (uN x * uN y) % 18446744073709551616 := by
  show (x.toUInt64 * y.toUInt64).toNat = _
  exact UInt64.toNat_mul _ _
theorem uN_shl (x : Int64) : uN (x <<< ((1 : Int32).toInt64 &&& 63)) = (2 * uN x) % 18446744073709551616 := by
  have h : (((1 : Int32).toInt64 &&& 63).toBitVec.smod 64).toNat = 1 := by decide
  show (x.toBitVec <<< (((1 : Int32).toInt64 &&& 63).toBitVec.smod 64).toNat).toNat = _
  rw [h, BitVec.toNat_shiftLeft, Nat.shiftLeft_eq, Nat.mul_comm]
  rfl
theorem uN_shr (x : Int64) (s : UInt64) : uN (x.toUInt64 >>> s).toInt64 = uN x / 2 ^ (s.toNat % 64) := by
  show (x.toUInt64 >>> s).toNat = _
  rw [UInt64.toNat_shiftRight, Nat.shiftRight_eq_div_pow]
  rfl
theorem uN_s32 (x : Int64) : uN (x.toUInt64 >>> ((32 : Int32).toInt64.toUInt64 &&& Int64.toUInt64 63)).toInt64 = uN x / 4294967296 := by
  have h : ((32 : Int32).toInt64.toUInt64 &&& Int64.toUInt64 63).toNat % 64 = 32 := by decide
  rw [uN_shr, h]
theorem uN_s63 (x : Int64) : uN (x.toUInt64 >>> ((63 : Int32).toInt64.toUInt64 &&& Int64.toUInt64 63)).toInt64 = uN x / 9223372036854775808 := by
  have h : ((63 : Int32).toInt64.toUInt64 &&& Int64.toUInt64 63).toNat % 64 = 63 := by decide
  rw [uN_shr, h]
theorem uN_lo (x : Int64) : uN (x &&& 4294967295) = uN x % 4294967296 := by
  show (x.toUInt64 &&& Int64.toUInt64 4294967295).toNat = _
  rw [UInt64.toNat_and]
  exact Nat.and_two_pow_sub_one_eq_mod _ 32
theorem uN_bit (x : Int64) : (x &&& 1) = 0 ↔ uN x % 2 = 0 := by
  have h : uN (x &&& 1) = uN x % 2 := by
    show (x.toUInt64 &&& Int64.toUInt64 1).toNat = _
    rw [UInt64.toNat_and]
    exact Nat.and_two_pow_sub_one_eq_mod _ 1
  rw [← h]
  exact ⟨fun z => by rw [z]; rfl, fun z => uN_inj (z.trans rfl)⟩
theorem uN_or {x y : Int64} (hy : uN y < 2) : uN ((x <<< ((1 : Int32).toInt64 &&& 63)) ||| y) = (2 * uN x) % 18446744073709551616 + uN y := by
  have h1 : uN ((x <<< ((1 : Int32).toInt64 &&& 63)) ||| y) = uN (x <<< ((1 : Int32).toInt64 &&& 63)) ||| uN y := UInt64.toNat_or _ _
  have h2 : (2 * uN x) % 18446744073709551616 = 2 ^ 1 * (uN x % 9223372036854775808) := by omega
  rw [h1, uN_shl, h2]
  exact (Nat.two_pow_add_eq_or_of_lt (i := 1) hy _).symm
theorem nat_xor {a : Nat} (h : a < 18446744073709551616) : a ^^^ 2 ^ 63 = (a + 9223372036854775808) % 18446744073709551616 := by
  have h1 : (a ^^^ 2 ^ 63) % 2 ^ 63 = a % 2 ^ 63 := by rw [Nat.xor_mod_two_pow, Nat.mod_self, Nat.xor_zero]
  have h2 : (a ^^^ 2 ^ 63) / 2 ^ 63 = (a / 2 ^ 63) ^^^ 1 := by rw [Nat.xor_div_two_pow, Nat.div_self (Nat.two_pow_pos 63)]
  have h3 : a / 2 ^ 63 = 0 ∨ a / 2 ^ 63 = 1 := by omega
  generalize a ^^^ 2 ^ 63 = t at h1 h2
  rcases h3 with h3 | h3
  · rw [h3] at h2
    have h2 : t / 2 ^ 63 = 1 := h2
    omega
  · rw [h3] at h2
    have h2 : t / 2 ^ 63 = 0 := h2
    omega
theorem uN_xor (x : Int64) : uN (x ^^^ (-9223372036854775808)) = (uN x + 9223372036854775808) % 18446744073709551616 := by
  rw [← nat_xor (uN_lt x)]
  exact UInt64.toNat_xor _ _
theorem uN_int (x : Int64) : x.toInt = if 2 * uN x < 18446744073709551616 then (uN x : Int) else (uN x : Int) - 18446744073709551616 := BitVec.toInt_eq_toNat_cond _
theorem uN_le (x y : Int64) : (x ^^^ (-9223372036854775808)) ≤ (y ^^^ (-9223372036854775808)) ↔ uN x ≤ uN y := by
  have hx := uN_lt x
  have hy := uN_lt y
  rw [Int64.le_iff_toInt_le, uN_int, uN_int, uN_xor, uN_xor]
  omega
theorem uN_sk (x : Int64) {k : Nat} (hk : k < 64) : uN (x.toUInt64 >>> ((nI k).toInt64.toUInt64 &&& Int64.toUInt64 63)).toInt64 = uN x / 2 ^ k := by
  have h : ((nI k).toInt64.toUInt64 &&& Int64.toUInt64 63).toNat % 64 = k := by
    rw [nI_l (by omega), UInt64.toNat_and]
    have e : (lN k).toUInt64.toNat = k % 2 ^ 64 := rfl
    have e2 : (Int64.toUInt64 63).toNat = 2 ^ 6 - 1 := by decide
    rw [e, e2, Nat.and_two_pow_sub_one_eq_mod]
    omega
  rw [uN_shr, h]
/-! ===== own rows from here on ===== -/
/-- '>>>', '<<', '>>' of a long by an int -/
def xsh (x : Int64) (k : Int32) : Int64 := (x.toUInt64 >>> (k.toInt64.toUInt64 &&& Int64.toUInt64 63)).toInt64
def xsl (x : Int64) (k : Int32) : Int64 := x <<< (k.toInt64 &&& 63)
def xsr (x : Int64) (k : Int32) : Int64 := x >>> (k.toInt64 &&& 63)
/-- bit t of a long -/
def xb (x : Int64) (t : Nat) : Bool := x.toBitVec.getLsbD t
theorem xN (x : Int64) : x = lN (uN x) := wb_inj (by rw [wb_tb]; show _ = BitVec.ofNat 64 x.toBitVec.toNat; simp)
theorem uN_lN {n : Nat} (h : n < 2 ^ 64) : uN (lN n) = n := wb_tn h
theorem xb_t (x : Int64) (t : Nat) : (xb x t).toNat = uN x / 2 ^ t % 2 := by
  show (x.toBitVec.getLsbD t).toNat = _
  rw [← BitVec.testBit_toNat, Nat.toNat_testBit]
  rfl
theorem xsh_1 (x : Int64) {k : Nat} (hk : k < 64) : xsh x (nI k) &&& 1 = lN (xb x k).toNat := by
  rw [xb_t]
  have h := wb_bit (n := uN x) (k := k) (uN_lt x) hk
  rw [← xN x] at h
  exact h
theorem xsl_1 {k : Nat} (hk : k < 64) : xsl 1 (nI k) = lN (2 ^ k) := by
  have h := wb_shl 1 hk
  rw [Nat.one_mul] at h
  exact h
theorem xb_pow {k t : Nat} (ht : t < 64) : xb (lN (2 ^ k)) t = decide (k = t) := by
  show (BitVec.ofNat 64 (2 ^ k)).getLsbD t = _
  rw [BitVec.getLsbD_ofNat, Nat.testBit_two_pow]
  simp [ht]
theorem xb_or (x y : Int64) (t : Nat) : xb (x ||| y) t = (xb x t || xb y t) := by
  show (x ||| y).toBitVec.getLsbD t = _
  rw [Int64.toBitVec_or, BitVec.getLsbD_or]
  rfl
theorem xb_and (x y : Int64) (t : Nat) : xb (x &&& y) t = (xb x t && xb y t) := by
  show (x &&& y).toBitVec.getLsbD t = _
  rw [Int64.toBitVec_and, BitVec.getLsbD_and]
  rfl
theorem xb_not (x : Int64) {t : Nat} (ht : t < 64) : xb (x ^^^ (-1)) t = !xb x t := by
  show (x ^^^ (-1)).toBitVec.getLsbD t = _
  rw [Int64.toBitVec_xor, BitVec.getLsbD_xor]
  have h : (-1 : Int64).toBitVec = BitVec.allOnes 64 := by decide
  rw [h, BitVec.getLsbD_allOnes]
  simp [ht, xb]
/-- bit j of a row of longs -/
def xw (f : Nat → Int64) (j : Nat) : Bool := xb (f (j / 64)) (j % 64)
theorem xw_set (f : Nat → Int64) (i j : Nat) : xw (vp_updL f (i / 64) (f (i / 64) ||| lN (2 ^ (i % 64)))) j = va_up (xw f) i true j := by
  unfold xw vp_updL va_up
  by_cases hq : j / 64 = i / 64
  · rw [if_pos hq, xb_or, xb_pow (by omega)]
    by_cases he : j = i
    · subst he; simp
    · rw [if_neg he]
      have : ¬ i % 64 = j % 64 := by omega
      simp [this, hq]
  · rw [if_neg hq, if_neg (by intro h; subst h; exact hq rfl)]
theorem xw_clear (f : Nat → Int64) (i j : Nat) : xw (vp_updL f (i / 64) (f (i / 64) &&& (lN (2 ^ (i % 64)) ^^^ (-1)))) j = va_up (xw f) i false j := by
  unfold xw vp_updL va_up
  by_cases hq : j / 64 = i / 64
  · rw [if_pos hq, xb_and, xb_not _ (by omega), xb_pow (by omega)]
    by_cases he : j = i
    · subst he; simp
    · rw [if_neg he]
      have : ¬ i % 64 = j % 64 := by omega
      simp [this, hq]
  · rw [if_neg hq, if_neg (by intro h; subst h; exact hq rfl)]
/-- k bits from a on, the first the highest -/
def xv (β : Nat → Bool) (a : Nat) : Nat → Nat
  | 0 => 0
  | k + 1 => 2 * xv β a k + (β (a + k)).toNat
theorem xv_lt (β : Nat → Bool) (a : Nat) : ∀ k, xv β a k < 2 ^ k
  | 0 => by simp [xv]
  | k + 1 => by
    have h := xv_lt β a k
    have h2 : (β (a + k)).toNat < 2 := Bool.toNat_lt _
    rw [xv, Nat.pow_succ]
    omega
theorem xv_step {β : Nat → Bool} {a k : Nat} (hk : k < 64) : xsl (lN (xv β a k)) 1 ||| lN (β (a + k)).toNat = lN (xv β a (k + 1)) := by
  have h := xv_lt β a k
  have h2 : (β (a + k)).toNat < 2 := Bool.toNat_lt _
  have h3 : xv β a (k + 1) < 2 ^ 64 := Nat.lt_of_lt_of_le (xv_lt β a (k + 1)) (Nat.pow_le_pow_right (by decide) (by omega))
  have h4 : xv β a k < 2 ^ 63 := Nat.lt_of_lt_of_le h (Nat.pow_le_pow_right (by decide) (by omega))
  apply uN_inj
  rw [show xsl (lN (xv β a k)) 1 = (lN (xv β a k)) <<< ((1 : Int32).toInt64 &&& 63) from rfl, uN_or (by rw [uN_lN (by omega)]; exact h2), uN_lN (by omega), uN_lN (by omega), uN_lN h3, xv]
  omega
/-- the lowest k bits of x, the highest first, from n on -/
def xa (β : Nat → Bool) (n : Nat) (x : Int64) (k : Nat) : Nat → Bool := fun j => if n ≤ j ∧ j < n + k then xb x (n + k - 1 - j) else β j
theorem xa_0 (β : Nat → Bool) (n : Nat) (x : Int64) : xa β n x 0 = β := by
  funext j
  unfold xa
  rw [if_neg (by omega)]
theorem xa_succ (β : Nat → Bool) (n : Nat) (x : Int64) (r : Nat) : xa (va_up β n (xb x r)) (n + 1) x r = xa β n x (r + 1) := by
  funext j
  unfold xa va_up
  by_cases h1 : n + 1 ≤ j ∧ j < n + 1 + r
  · rw [if_pos h1, if_pos (by omega)]
    congr 1
    omega
  · rw [if_neg h1]
    by_cases h2 : j = n
    · subst h2
      rw [if_pos rfl, if_pos (by omega)]
      congr 1
      omega
    · rw [if_neg h2, if_neg (by omega)]
/-- how many bits a number needs -/
def nbl (n : Nat) : Nat := if n = 0 then 0 else n.log2 + 1
theorem nbl_le {n k : Nat} : nbl n ≤ k ↔ n < 2 ^ k := by
  unfold nbl
  by_cases h : n = 0
  · subst h
    simp [Nat.two_pow_pos]
  · rw [if_neg h, ← Nat.log2_lt h]
    omega
theorem nbl_lt {n k : Nat} : k < nbl n ↔ 2 ^ k ≤ n := by
  have := @nbl_le n k
  omega
theorem nbl_0 {n : Nat} : nbl n = 0 ↔ n = 0 := by
  have := @nbl_le n 0
  omega
theorem nbl_64 (x : Int64) : nbl (uN x) ≤ 64 := nbl_le.mpr (uN_lt x)
/-- nbl by its two bounds -/
theorem nbl_eq {n k : Nat} (h1 : n < 2 ^ k) (h2 : 0 < k → 2 ^ (k - 1) ≤ n) : nbl n = k := by
  have a := nbl_le.mpr h1
  rcases Nat.eq_zero_or_pos k with h | h
  · omega
  · have b := nbl_lt.mpr (h2 h)
    omega
theorem nbl_div {n e : Nat} (h : 2 ^ e ≤ n) : nbl n = e + nbl (n / 2 ^ e) := by
  have h0 : 0 < 2 ^ e := Nat.two_pow_pos e
  have h1 : 0 < n / 2 ^ e := Nat.div_pos h h0
  have h2 : 0 < nbl (n / 2 ^ e) := by
    rw [Nat.pos_iff_ne_zero]
    intro z
    rw [nbl_0] at z
    omega
  refine nbl_eq ?_ (fun _ => ?_)
  · have := nbl_le.mp (Nat.le_refl (nbl (n / 2 ^ e)))
    rw [Nat.pow_add, Nat.mul_comm]
    exact (Nat.div_lt_iff_lt_mul h0).mp this
  · have := nbl_lt.mp (show nbl (n / 2 ^ e) - 1 < nbl (n / 2 ^ e) by omega)
    rw [show e + nbl (n / 2 ^ e) - 1 = (nbl (n / 2 ^ e) - 1) + e by omega, Nat.pow_add]
    exact (Nat.le_div_iff_mul_le h0).mp this
/-- a number with sign, its sign taken off -/
def xav (v : Int64) : Int64 := if v < 0 then v ^^^ (-1) else v
theorem uN_not (x : Int64) : uN (x ^^^ (-1)) = 18446744073709551615 - uN x := by
  show (x ^^^ (-1)).toBitVec.toNat = 18446744073709551615 - x.toBitVec.toNat
  have h : (-1 : Int64).toBitVec = BitVec.allOnes 64 := by decide
  rw [Int64.toBitVec_xor, h, BitVec.xor_allOnes, BitVec.toNat_not]
theorem xneg (v : Int64) : v < 0 ↔ 9223372036854775808 ≤ uN v := by
  have := uN_lt v
  rw [Int64.lt_iff_toInt_lt, uN_int, Int64.toInt_zero]
  split <;> omega
theorem xav_lt (v : Int64) : uN (xav v) < 2 ^ 63 := by
  have := uN_lt v
  have h := xneg v
  unfold xav
  split
  · rename_i g
    have := h.mp g
    rw [uN_not]
    omega
  · rename_i g
    have : ¬ 9223372036854775808 ≤ uN v := fun z => g (h.mpr z)
    omega
/-- how many bytes a number of this kind needs -/
def nb (kind : Int32) (v : Int64) : Nat := max 1 (((if kind = 1 then 1 + nbl (uN (xav v)) else nbl (uN v)) + 7) / 8)
theorem nb_1 (kind : Int32) (v : Int64) : 1 ≤ nb kind v := Nat.le_max_left _ _
theorem nb_8 (kind : Int32) (v : Int64) : nb kind v ≤ 8 := by
  have h1 := nbl_64 v
  have h2 : nbl (uN (xav v)) ≤ 63 := nbl_le.mpr (xav_lt v)
  unfold nb
  split <;> omega
theorem nx_or (a b : Nat) : nI a ||| nI b = nI (a ||| b) := by
  apply Int32.toBitVec_inj.mp
  show BitVec.ofNat 32 a ||| BitVec.ofNat 32 b = BitVec.ofNat 32 (a ||| b)
  apply BitVec.eq_of_getLsbD_eq
  intro i hi
  rw [BitVec.getLsbD_or, BitVec.getLsbD_ofNat, BitVec.getLsbD_ofNat, BitVec.getLsbD_ofNat, Nat.testBit_or]
  simp [hi]
theorem or_15 {k : Nat} (h : k < 32768) : 32768 ||| k = 32768 + k := (Nat.two_pow_add_eq_or_of_lt (i := 15) h 1).symm
theorem or_6 {k : Nat} (h : k < 64) : 192 ||| k = 192 + k := (Nat.two_pow_add_eq_or_of_lt (i := 6) h 3).symm
theorem xmin {q j : Nat} (hq : q < 2 ^ 31) (hj : j < 2 ^ 31) : (if nI j < nI q then nI j else nI q) = nI (min q j) := by
  by_cases hc : j < q
  · rw [if_pos ((nI_ltI hj hq).mpr hc), Nat.min_eq_right (by omega)]
  · rw [if_neg (fun z => hc ((nI_ltI hj hq).mp z)), Nat.min_eq_left (by omega)]
theorem xmin4 {k : Nat} (h : k < 2 ^ 31) : (if (4 : Int32) < nI k then (4 : Int32) else nI k) = nI (min 4 k) := by
  show (if nI 4 < nI k then nI 4 else nI k) = nI (min 4 k)
  rw [Nat.min_comm]
  exact xmin h (by decide)
theorem xsh_0 (x : Int64) {k : Nat} (hk : k < 64) : xsh x (nI k) = 0 ↔ nbl (uN x) ≤ k := by
  have h : uN (xsh x (nI k)) = uN x / 2 ^ k := uN_sk x hk
  rw [nbl_le]
  have h0 : 0 < 2 ^ k := Nat.two_pow_pos k
  constructor
  · intro z
    rw [z] at h
    have h : 0 = uN x / 2 ^ k := h
    exact Nat.lt_of_div_eq_zero h0 h.symm
  · intro z
    apply uN_inj
    rw [h, Nat.div_eq_of_lt z]
    rfl
theorem xsr_int (x : Int64) {k : Nat} (hk : k < 64) : (xsr x (nI k)).toInt = x.toInt / 2 ^ k := by
  show (x >>> ((nI k).toInt64 &&& 63)).toInt = _
  rw [wb_c k hk]
  show (x.toBitVec.sshiftRight ((lN k).toBitVec.smod 64).toNat).toInt = _
  rw [wb_tb, wb_sm k hk, BitVec.toNat_ofNat, Nat.mod_eq_of_lt (by omega), BitVec.toInt_sshiftRight, Int.shiftRight_eq_div_pow]
  simp
theorem xav_int (x : Int64) : (uN (xav x) : Int) = if x.toInt < 0 then -x.toInt - 1 else x.toInt := by
  have h := uN_lt x
  have hn := xneg x
  rw [Int64.lt_iff_toInt_lt, Int64.toInt_zero] at hn
  have hi := uN_int x
  unfold xav
  by_cases hc : x < 0
  · have hc' : x.toInt < 0 := by rw [Int64.lt_iff_toInt_lt, Int64.toInt_zero] at hc; exact hc
    rw [if_pos hc, if_pos hc', uN_not]
    split at hi <;> omega
  · have hc' : ¬ x.toInt < 0 := by rw [Int64.lt_iff_toInt_lt, Int64.toInt_zero] at hc; exact hc
    rw [if_neg hc, if_neg hc']
    split at hi <;> omega
theorem xsr_iff (x : Int64) {k : Nat} (hk : k < 64) : (xsr x (nI k) = 0 ∨ xsr x (nI k) = -1) ↔ nbl (uN (xav x)) ≤ k := by
  rw [nbl_le, ← Int64.toInt_inj, ← Int64.toInt_inj, xsr_int x hk]
  have e0 : (0 : Int64).toInt = 0 := by decide
  have e1 : (-1 : Int64).toInt = -1 := by decide
  rw [e0, e1]
  have hv := xav_int x
  have hp : (0 : Int) < 2 ^ k := Int.pow_pos (by decide)
  have hc : ((2 ^ k : Nat) : Int) = 2 ^ k := by simp
  have hlt : uN (xav x) < 2 ^ k ↔ (uN (xav x) : Int) < 2 ^ k := by rw [← hc]; omega
  rw [hlt, hv]
  generalize (2 : Int) ^ k = P at hp
  generalize x.toInt = X
  constructor
  · rintro (z | z)
    · have h1 := Int.emod_add_mul_ediv X P
      have h2 := Int.emod_nonneg X (show P ≠ 0 by omega)
      have h3 := Int.emod_lt_of_pos X hp
      rw [z] at h1
      split <;> omega
    · have h1 := Int.emod_add_mul_ediv X P
      have h2 := Int.emod_nonneg X (show P ≠ 0 by omega)
      have h3 := Int.emod_lt_of_pos X hp
      rw [z] at h1
      split <;> omega
  · intro z
    by_cases hX : X < 0
    · rw [if_pos hX] at z
      right
      have a1 := (Int.le_ediv_iff_mul_le (a := -1) (b := X) hp).mpr (by omega)
      have a2 := (Int.ediv_lt_iff_lt_mul (a := X) (b := 0) hp).mpr (by omega)
      omega
    · rw [if_neg hX] at z
      left
      exact Int.ediv_eq_zero_of_lt (by omega) z
theorem vp_nz (b : Bool) : vp_nar .boolean (nI b.toNat) = nI b.toNat := by cases b <;> decide
end
section
/-! Small rows that the walks use. -/
section XLR
variable {p : Program} {l : Launch} {e : Env} {R : Room} {s : State} {m : MethodId} {args : Array Value} {below : List Frame} {meth : Method} {c : Code} {H : Heap} {locs : List Loc} {cells slots : Nat} {Q : State → Prop}
variable {cc : ByteArray} {pc : Nat} {ls : Array Slot} {rest : List Value}
theorem xl_ti {x y : Int32} (h : x = y) (k : W p l e R s m args below meth c H locs cells slots Q (F0 m pc ls (.int y :: rest))) : W p l e R s m args below meth c H locs cells slots Q (F0 m pc ls (.int x :: rest)) := by
  rw [h]
  exact k
theorem xl_tl {x y : Int64} (h : x = y) (k : W p l e R s m args below meth c H locs cells slots Q (F0 m pc ls (.long y :: rest))) : W p l e R s m args below meth c H locs cells slots Q (F0 m pc ls (.long x :: rest)) := by
  rw [h]
  exact k
/-- where two roads meet: one walk for both -/
theorem xl_join {α : Type} {g0 : JFrame} (P : α → Prop) (g : α → JFrame) (k : ∀ v, P v → W p l e R s m args below meth c H locs cells slots Q (g v)) (b : (∀ v, P v → W p l e R s m args below meth c H locs cells slots Q (g v)) → W p l e R s m args below meth c H locs cells slots Q g0) : W p l e R s m args below meth c H locs cells slots Q g0 := b k
theorem xl_entry (vs : List Value) {n : Nat} (h : (lg_sl vs).length ≤ n) (k : ∀ ls : Array Slot, lv_has ls n (lv_args 0 vs) → W p l e R s m args below meth c H locs cells slots Q (F0 m 0 ls [])) : W p l e R s m args below meth c H locs cells slots Q (entryFrame m vs.toArray n) := by
  rw [lg_entry_eq]
  exact k _ (lv_entry vs h)
theorem xl_lc_lt (hx : p.tables.exec = Jvm.exec) (hb : c.code = cc) {x y : Int64} {off : Int} {tgt : Nat} (hd : decode cc pc = .ok (.lcmp, 1)) (hd1 : decode cc (pc + 1) = .ok (.ifCond .lt off, 3)) (ht : ((pc + 1 : Nat) : Int) + off = (tgt : Int))
    (kt : x < y → W p l e R s m args below meth c H locs cells slots Q (F0 m tgt ls rest)) (kf : ¬ x < y → W p l e R s m args below meth c H locs cells slots Q (F0 m (pc + 1 + 3) ls rest)) : W p l e R s m args below meth c H locs cells slots Q (F0 m pc ls (.long y :: .long x :: rest)) :=
  W.lcmp hx hb hd (lv_if_lt hx hb hd1 ht (fun h => kt ((lg_cmp_lt x y).mp h)) (fun h => kf (fun z => h ((lg_cmp_lt x y).mpr z))))
theorem xl_lc_ge (hx : p.tables.exec = Jvm.exec) (hb : c.code = cc) {x y : Int64} {off : Int} {tgt : Nat} (hd : decode cc pc = .ok (.lcmp, 1)) (hd1 : decode cc (pc + 1) = .ok (.ifCond .ge off, 3)) (ht : ((pc + 1 : Nat) : Int) + off = (tgt : Int))
    (kt : y ≤ x → W p l e R s m args below meth c H locs cells slots Q (F0 m tgt ls rest)) (kf : ¬ y ≤ x → W p l e R s m args below meth c H locs cells slots Q (F0 m (pc + 1 + 3) ls rest)) : W p l e R s m args below meth c H locs cells slots Q (F0 m pc ls (.long y :: .long x :: rest)) :=
  W.lcmp hx hb hd (lv_if_ge hx hb hd1 ht (fun h => kt ((lg_cmp_ge x y).mp h)) (fun h => kf (fun z => h ((lg_cmp_ge x y).mpr z))))
theorem xl_lc_gt (hx : p.tables.exec = Jvm.exec) (hb : c.code = cc) {x y : Int64} {off : Int} {tgt : Nat} (hd : decode cc pc = .ok (.lcmp, 1)) (hd1 : decode cc (pc + 1) = .ok (.ifCond .gt off, 3)) (ht : ((pc + 1 : Nat) : Int) + off = (tgt : Int))
    (kt : y < x → W p l e R s m args below meth c H locs cells slots Q (F0 m tgt ls rest)) (kf : ¬ y < x → W p l e R s m args below meth c H locs cells slots Q (F0 m (pc + 1 + 3) ls rest)) : W p l e R s m args below meth c H locs cells slots Q (F0 m pc ls (.long y :: .long x :: rest)) :=
  W.lcmp hx hb hd (lv_if_gt hx hb hd1 ht (fun h => kt ((lg_cmp_gt x y).mp h)) (fun h => kf (fun z => h ((lg_cmp_gt x y).mpr z))))
theorem xl_lc_le (hx : p.tables.exec = Jvm.exec) (hb : c.code = cc) {x y : Int64} {off : Int} {tgt : Nat} (hd : decode cc pc = .ok (.lcmp, 1)) (hd1 : decode cc (pc + 1) = .ok (.ifCond .le off, 3)) (ht : ((pc + 1 : Nat) : Int) + off = (tgt : Int))
    (kt : x ≤ y → W p l e R s m args below meth c H locs cells slots Q (F0 m tgt ls rest)) (kf : ¬ x ≤ y → W p l e R s m args below meth c H locs cells slots Q (F0 m (pc + 1 + 3) ls rest)) : W p l e R s m args below meth c H locs cells slots Q (F0 m pc ls (.long y :: .long x :: rest)) :=
  W.lcmp hx hb hd (lv_if_le hx hb hd1 ht (fun h => kt ((lg_cmp_le x y).mp h)) (fun h => kf (fun z => h ((lg_cmp_le x y).mpr z))))
theorem xl_lc_eq (hx : p.tables.exec = Jvm.exec) (hb : c.code = cc) {x y : Int64} {off : Int} {tgt : Nat} (hd : decode cc pc = .ok (.lcmp, 1)) (hd1 : decode cc (pc + 1) = .ok (.ifCond .eq off, 3)) (ht : ((pc + 1 : Nat) : Int) + off = (tgt : Int))
    (kt : x = y → W p l e R s m args below meth c H locs cells slots Q (F0 m tgt ls rest)) (kf : ¬ x = y → W p l e R s m args below meth c H locs cells slots Q (F0 m (pc + 1 + 3) ls rest)) : W p l e R s m args below meth c H locs cells slots Q (F0 m pc ls (.long y :: .long x :: rest)) :=
  W.lcmp hx hb hd (lv_if_eq hx hb hd1 ht (fun h => kt ((lg_cmp_eq x y).mp h)) (fun h => kf (fun z => h ((lg_cmp_eq x y).mpr z))))
theorem xl_lc_ne (hx : p.tables.exec = Jvm.exec) (hb : c.code = cc) {x y : Int64} {off : Int} {tgt : Nat} (hd : decode cc pc = .ok (.lcmp, 1)) (hd1 : decode cc (pc + 1) = .ok (.ifCond .ne off, 3)) (ht : ((pc + 1 : Nat) : Int) + off = (tgt : Int))
    (kt : ¬ x = y → W p l e R s m args below meth c H locs cells slots Q (F0 m tgt ls rest)) (kf : x = y → W p l e R s m args below meth c H locs cells slots Q (F0 m (pc + 1 + 3) ls rest)) : W p l e R s m args below meth c H locs cells slots Q (F0 m pc ls (.long y :: .long x :: rest)) :=
  W.lcmp hx hb hd (lv_if_ne hx hb hd1 ht (fun h => kt (fun z => h ((lg_cmp_eq x y).mpr z))) (fun h => kf ((lg_cmp_eq x y).mp h)))
end XLR
end
section
/-! What each call does to the row of bits: code (0: it answers, else which throw), answer, and the new state. -/
abbrev xS : Type := (Nat → Bool) × Nat × Nat
def sp_write (σ : xS) (x : Int64) (k code : Nat) : Nat × Int64 × xS :=
  if 65536 < σ.2.1 + k then (code, 0, σ) else (0, lN (σ.2.1 + k), (xa σ.1 σ.2.1 x k, σ.2.1 + k, σ.2.2))
def sp_put (σ : xS) (x : Int64) (k : Int32) : Nat × Int64 × xS :=
  if k < 0 ∨ 64 < k then (1, 0, σ) else sp_write σ x k.toNatClampNeg 2
def sp_putRange (σ : xS) (low high n : Int64) : Nat × Int64 × xS :=
  if n < low ∨ high < n then (1, 0, σ) else sp_write σ (n - low) (nbl (uN (high - low))) 2
/-- the number that a length written for n stands for, its bits, how many they are -/
def xtold (n : Nat) : Nat := if n < 16384 then n else 16384 * min 4 (n / 16384)
def xlw (n : Nat) : Nat := if 128 ≤ n ∧ n < 16384 then 16 else 8
def xlc (n : Nat) : Nat := if n < 128 then n else if n < 16384 then 32768 + n else 192 + n / 16384
def sp_putLength (σ : xS) (n : Int32) : Nat × Int64 × xS :=
  if n < 0 then (1, 0, σ) else
    let t := xtold n.toNatClampNeg
    if 65536 < σ.2.1 + xlw t then (2, 0, σ) else (0, lN t, (xa σ.1 σ.2.1 (lN (xlc t)) (xlw t), σ.2.1 + xlw t, σ.2.2))
/-- the bit that a SMALL number as a number begins with -/
def xt (kind : Int32) : Nat := if kind = 2 then 1 else 0
def xnum (β : Nat → Bool) (n : Nat) (kind : Int32) (v : Int64) : Nat → Bool := xa (xa (xa β n 1 (xt kind)) (n + xt kind) (lN (nb kind v)) 8) (n + xt kind + 8) v (8 * nb kind v)
def sp_putNumber (σ : xS) (kind : Int32) (v : Int64) : Nat × Int64 × xS :=
  if kind < 0 ∨ 2 < kind then (1, 0, σ)
  else if kind = 2 ∧ (0 ≤ v ∧ v < 64) then sp_write σ v 7 2
  else if 65536 < σ.2.1 + (xt kind + 8 + 8 * nb kind v) then (2, 0, σ)
  else (0, lN (σ.2.1 + (xt kind + 8 + 8 * nb kind v)), (xnum σ.1 σ.2.1 kind v, σ.2.1 + (xt kind + 8 + 8 * nb kind v), σ.2.2))
def xfill (n : Nat) : Nat := if n = 0 then 8 else (8 - n % 8) % 8
def sp_fill (σ : xS) : Nat × Int64 × xS := sp_write σ 0 (xfill σ.2.1) 1
def sp_take (σ : xS) (k : Int32) : Nat × Int64 × xS :=
  if k < 0 ∨ 64 < k then (1, 0, σ)
  else if σ.2.1 < σ.2.2 + k.toNatClampNeg then (2, 0, σ)
  else (0, lN (xv σ.1 σ.2.2 k.toNatClampNeg), (σ.1, σ.2.1, σ.2.2 + k.toNatClampNeg))
def sp_takeRange (σ : xS) (low high : Int64) : Nat × Int64 × xS :=
  if high < low then (1, 0, σ)
  else if σ.2.1 < σ.2.2 + nbl (uN (high - low)) ∨ uN (high - low) < xv σ.1 σ.2.2 (nbl (uN (high - low))) then (2, 0, σ)
  else (0, low + lN (xv σ.1 σ.2.2 (nbl (uN (high - low)))), (σ.1, σ.2.1, σ.2.2 + nbl (uN (high - low))))
/-- a length at a: what it stands for, how many bits it has -/
def xlen (β : Nat → Bool) (n a : Nat) : Option (Nat × Nat) :=
  if n < a + 1 then none
  else if β a = false then (if n < a + 8 then none else some (xv β (a + 1) 7, 8))
  else if n < a + 2 then none
  else if β (a + 1) = false then (if n < a + 16 then none else if xv β (a + 2) 14 < 128 then none else some (xv β (a + 2) 14, 16))
  else if n < a + 8 then none
  else if xv β (a + 2) 6 < 1 ∨ 4 < xv β (a + 2) 6 then none else some (16384 * xv β (a + 2) 6, 8)
def sp_takeLength (σ : xS) : Nat × Int64 × xS := match xlen σ.1 σ.2.1 σ.2.2 with
  | none => (1, 0, σ)
  | some (v, w) => (0, lN v, (σ.1, σ.2.1, σ.2.2 + w))
/-- the sign of a number of b bytes -/
def xsx (kind : Int32) (v : Int64) (b : Nat) : Int64 := if kind = 1 then xsr (xsl v (nI (64 - 8 * b))) (nI (64 - 8 * b)) else v
/-- a number at a: it, and how many bits it has -/
def xnumAt (β : Nat → Bool) (n : Nat) (kind : Int32) (a : Nat) : Option (Int64 × Nat) := match xlen β n a with
  | none => none
  | some (b, w) =>
    if b < 1 ∨ 8 < b then none
    else if n < a + w + 8 * b then none
    else if nb kind (xsx kind (lN (xv β (a + w) (8 * b))) b) ≠ b then none
    else some (xsx kind (lN (xv β (a + w) (8 * b))) b, w + 8 * b)
def xsmallAt (β : Nat → Bool) (n a : Nat) : Option (Int64 × Nat) :=
  if n < a + 1 then none
  else if β a = false then (if n < a + 7 then none else some (lN (xv β (a + 1) 6), 7))
  else match xnumAt β n 0 (a + 1) with
    | none => none
    | some (v, w) => if 0 ≤ v ∧ v < 64 then none else some (v, w + 1)
def sp_takeNumber (σ : xS) (kind : Int32) : Nat × Int64 × xS :=
  if kind < 0 ∨ 2 < kind then (1, 0, σ)
  else match (if kind = 2 then xsmallAt σ.1 σ.2.1 σ.2.2 else xnumAt σ.1 σ.2.1 kind σ.2.2) with
    | none => (2, 0, σ)
    | some (v, w) => (0, v, (σ.1, σ.2.1, σ.2.2 + w))
def sp_go (σ : xS) (p : Int32) : Nat × Int64 × xS :=
  if p < 0 ∨ nI σ.2.1 < p then (1, 0, σ) else (0, lN σ.2.2, (σ.1, σ.2.1, p.toNatClampNeg))
def sp_turn (σ : xS) (i : Int32) : Nat × Int64 × xS :=
  if i < 0 ∨ nI σ.2.1 ≤ i then (1, 0, σ) else (0, lN (!σ.1 i.toNatClampNeg).toNat, (va_up σ.1 i.toNatClampNeg (!σ.1 i.toNatClampNeg), σ.2.1, σ.2.2))
def sp_cut (σ : xS) (n : Int32) : Nat × Int64 × xS :=
  if n < 0 ∨ nI σ.2.1 < n then (1, 0, σ) else (0, lN σ.2.1, (σ.1, n.toNatClampNeg, min σ.2.2 n.toNatClampNeg))
def sp_count (σ : xS) (w : Int32) : Nat × Int64 × xS :=
  if w = 0 then (0, lN σ.2.1, σ) else if w = 1 then (0, lN σ.2.2, σ) else (1, 0, σ)
/-- the row has at most 65536 bits, the place is one of them or its end -/
def xok (σ : xS) : Prop := σ.2.1 ≤ 65536 ∧ σ.2.2 ≤ σ.2.1
end
section
/-! Contracts of one form for all methods of the class and of the reference, and their rows. Words of a method: its code, and one list Ts. -/
section XC
/-- nothing old is written -/
def xNA : Nat → Prop := fun _ => False
def xrm (k : Nat) : Room := { frames := 6 + k, cells := 1, slots := 6, locals := 100 + 40 * k }
/-- the contract: arguments As, world B; what it may write A; what holds where it returned, where it threw -/
abbrev xM (l : Launch) (y : MethodName) (ws : List Cond) (rm : Room) (As : List Value) (B : State → Prop) (A : Nat → Prop) (Rt : Option Value → State → State → Prop) (Th : Addr → State → State → Prop) : Prop :=
  xl_Met l y ws rm (va_Pc As B) (xl_Q A Rt Th) (xl_k 0 1) (xl_k 0 6) A
theorem xq_ret {A : Nat → Prop} {Rt : Option Value → State → State → Prop} {Th : Addr → State → State → Prop} {as : Array Value} {st t : State} {v : Option Value} (hF : va_F A st t) (h : Rt v st t) : xl_Q A Rt Th as st (.returned v) t :=
  ⟨hF, fun w hw => by cases hw; exact h, fun x hx => by cases hx⟩
theorem xq_thr {A : Nat → Prop} {Rt : Option Value → State → State → Prop} {Th : Addr → State → State → Prop} {as : Array Value} {st t : State} {x : Addr} (hF : va_F A st t) (h : Th x st t) : xl_Q A Rt Th as st (.threw x) t :=
  ⟨hF, fun w hw => (by cases hw), fun y hy => by cases hy; exact h⟩
theorem xkept_F {A : Nat → Prop} {st t : State} (h1 : st.heap.size ≤ t.heap.size) (h2 : ∀ (q : Nat) (cell : Cell), st.heap[q]? = some cell → t.heap[q]? = some cell) : va_F A st t := by
  refine ⟨h1, fun q hq _ => ?_⟩
  rw [h2 q _ (Array.getElem?_eq_getElem hq)]
  exact (Array.getElem?_eq_getElem hq).symm
/-- the beginning of a contract's proof -/
theorem xM.of {l : Launch} {y : MethodName} {Ts : List Cond} {rm : Room} {As : List Value} {B : State → Prop} {A : Nat → Prop} {Rt : Option Value → State → State → Prop} {Th : Addr → State → State → Prop} {cc : ByteArray} {maxL : Nat} {ret : Option FieldType} (hy : plainName y.cls = true)
    (body : ∀ (p : Program) (e : Env) (s : State) (m : MethodId) (args : Array Value) (below : List Frame) (meth : Method) (c : Code), args = As.toArray → CallFix p m c cc maxL s args Ts y.cls → meth.sig.returnType = ret → meth.locks = false → c.exceptionTable.toList = [] → meth.name = y.name → B s →
      W p l e rm s m args below meth c s.heap [] 0 0 (xl_MQ below (xl_Q A Rt Th) args s (xl_k 0 1) (xl_k 0 6) A) (entryFrame m args maxL)) :
    xM l y (Cond.code y cc maxL ret :: Ts) rm As B A Rt Th := by
  refine xl_ofW (cc := cc) (maxL := maxL) (ret := ret) hy (xl_is rfl) ?_
  intro p e s m args below meth c s₁ B0 hml hv
  obtain ⟨hav, hB⟩ := hv
  have hts := atoms_spec (ws := Cond.code y cc maxL ret :: Ts) B0.pre
  have hemp : c.exceptionTable.toList = [] := by
    have h := B0.noHandlers (hts _ List.mem_cons_self)
    have h0 : c.exceptionTable.size = 0 := by simpa [Array.isEmpty] using h
    exact List.eq_nil_of_length_eq_zero (by simpa using h0)
  exact body p e s m args below meth c hav ⟨B0.exec, B0.bytes, hml, findClass_of_methodNamed B0.named, fun w hw => hts w (List.mem_cons_of_mem _ hw)⟩ B0.returns B0.notSynchronized hemp (name_of_methodNamed B0.named B0.method).1 hB
variable {p : Program} {l : Launch} {e : Env} {R : Room} {s : State} {m : MethodId} {args : Array Value} {below : List Frame} {meth : Method} {c : Code} {H : Heap} {locs : List Loc} {cells slots : Nat} {Q : State → Prop}
variable {cc : ByteArray} {nL : Nat} {Ts : List Cond} {own : String} {A : Nat → Prop} {Rt : Option Value → State → State → Prop} {Th : Addr → State → State → Prop} {pc : Nat} {ls : Array Slot}
theorem xr_iret {v : Int32} (E : CallFix p m c cc nL s args Ts own) (hr : meth.sig.returnType = some .int) (hk : meth.locks = false) (hS : va_S A s.heap H locs) (h : ∀ t : State, t.heap = H → s.WarmedH t.vm → Rt (some (.int v)) s t) (hdg : decode cc pc = .ok (.ireturn, 1)) :
    W p l e R s m args below meth c H locs 0 0 (xl_MQ below (xl_Q A Rt Th) args s (xl_k 0 1) (xl_k 0 6) A) (F0 m pc ls [.int v]) :=
  xl_iret E.1 E.2.1 hr hk (fun _ => rfl) (fun _ => rfl) (fun t ht hW => xq_ret (hS.F ht) (h t ht hW)) hS.2.2 hdg
theorem xr_zret {v : Int32} {ty : FieldType} (E : CallFix p m c cc nL s args Ts own) (hr : meth.sig.returnType = some ty) (hk : meth.locks = false) (hn : narrow ty (.int v) = .int v) (hS : va_S A s.heap H locs) (h : ∀ t : State, t.heap = H → s.WarmedH t.vm → Rt (some (.int v)) s t) (hdg : decode cc pc = .ok (.ireturn, 1)) :
    W p l e R s m args below meth c H locs 0 0 (xl_MQ below (xl_Q A Rt Th) args s (xl_k 0 1) (xl_k 0 6) A) (F0 m pc ls [.int v]) :=
  xl_zret E.1 E.2.1 hr hk hn (fun _ => rfl) (fun _ => rfl) (fun t ht hW => xq_ret (hS.F ht) (h t ht hW)) hS.2.2 hdg
theorem xr_lret {v : Int64} (E : CallFix p m c cc nL s args Ts own) (hr : meth.sig.returnType = some .long) (hk : meth.locks = false) (hS : va_S A s.heap H locs) (h : ∀ t : State, t.heap = H → s.WarmedH t.vm → Rt (some (.long v)) s t) (hdg : decode cc pc = .ok (.lreturn, 1)) :
    W p l e R s m args below meth c H locs 0 0 (xl_MQ below (xl_Q A Rt Th) args s (xl_k 0 1) (xl_k 0 6) A) (F0 m pc ls [.long v]) :=
  xl_lret E.1 E.2.1 hr hk (fun _ => rfl) (fun _ => rfl) (fun t ht hW => xq_ret (hS.F ht) (h t ht hW)) hS.2.2 hdg
theorem xr_vret (E : CallFix p m c cc nL s args Ts own) (hr : meth.sig.returnType = none) (hk : meth.locks = false) (hS : va_S A s.heap H locs) (h : ∀ t : State, t.heap = H → s.WarmedH t.vm → Rt none s t) (hdg : decode cc pc = .ok (.return_, 1)) :
    W p l e R s m args below meth c H locs 0 0 (xl_MQ below (xl_Q A Rt Th) args s (xl_k 0 1) (xl_k 0 6) A) (F0 m pc ls []) :=
  xl_vret E.1 E.2.1 hr hk (fun _ => rfl) (fun _ => rfl) (fun t ht hW => xq_ret (hS.F ht) (h t ht hW)) hS.2.2 hdg
/-- 'throw new E(text)' in a method of the claim's component, nothing written before -/
theorem xr_throw {cls tx : String} {ia ib ic : Nat} (E : CallFix p m c cc nL s args XT R_X) (hL : l.stackTraces = false) (hQ : xq s) (hh : c.exceptionTable.toList = []) (hk : meth.locks = false) (hw : xwT cls tx ia ib ic) (hsz : ls.size = nL)
    (hd0 : decode cc pc = .ok (.new ia, 3)) (hd3 : decode cc (pc + 3) = .ok (.dup, 1)) (hd4 : decode cc (pc + 4) = .ok (.ldc ib, 2)) (hd6 : decode cc (pc + 6) = .ok (.invokespecial ic, 3)) (hd9 : decode cc (pc + 9) = .ok (.athrow, 1))
    (hR : 5 < R.frames ∧ 82 ≤ R.locals ∧ 1 ≤ R.cells ∧ 6 ≤ R.slots) (h : ∀ (x : Addr) (t : State), xl_T cls x s.heap t.heap t.vm → Th x s t) :
    W p l e R s m args below meth c s.heap [] 0 0 (xl_MQ below (xl_Q A Rt Th) args s (xl_k 0 1) (xl_k 0 6) A) (F0 m pc ls []) := by
  obtain ⟨h1, h2, h3, h4, h5⟩ := hw
  have hts := E.2.2.2.2
  have hstr := hts _ h3
  obtain ⟨k, cf, i, q, -, -, -, -, -, hev⟩ := Cond.stringRef_spec (idx := []) E.2.2.2.1 hstr
  refine xl_throw (names := ["java/lang/RuntimeException", "java/lang/Exception"]) E.1 E.2.1 hL E.2.2.2.1 h5 (by decide +kernel) (fun w hw => ?_) (hts _ h1) (hts _ h2) (tx := tx) (q := q) ⟨hstr, hev⟩ (by rw [E.2.2.1]; exact hsz) hd0 hd3 hd4 hd6 hd9 (fun y hy => by rw [hh] at hy; cases hy) hk hR (fun _ => rfl) (fun _ => rfl) (fun x t hT _ => xq_thr (xkept_F hT.1 hT.2.1) (h x t hT))
  rcases h4 w hw with g | g
  · exact hts _ g
  · simp only [xst, List.mem_cons, List.not_mem_nil, or_false] at g
    rcases g with rfl | rfl | rfl | rfl
    · exact vx_isRefq hQ.1.1
    · exact vx_isRefq hQ.2.1
    · exact hQ.1.2.word
    · exact hQ.2.2.word
/-- a callee threw, and it isn't caught here; nothing was written before -/
theorem xr_leave {x : Addr} {stk : List Value} {st t0 : State} {E' : String} (hh : c.exceptionTable.toList = []) (hk : meth.locks = false) (hal : s.vm.Alike t0.vm) (hst : st.heap = s.heap) (h0 : xl_T E' x st.heap t0.heap t0.vm) (h : ∀ t : State, xl_T E' x s.heap t.heap t.vm → Th x s t) :
    xl_W p l e R s m args below meth c t0.heap [] (0 + 1) (0 + 6) (xl_MQ below (xl_Q A Rt Th) args s (xl_k 0 1) (xl_k 0 6) A) (F0 m pc ls stk) x := by
  refine xl_leave (fun y hy => by rw [hh] at hy; cases hy) hk rfl rfl (fun t ht hW => ?_) (fun q hq => by cases hq)
  have hT : xl_T E' x s.heap t.heap t.vm := by
    rw [ht, ← hst]
    exact h0.moved (by rw [hW.alike.findClass, hal.findClass])
  exact xq_thr (xkept_F hT.1 hT.2.1) (h t hT)
/-- .. behind a callee that may write -/
theorem xr_leaveW {x : Addr} {stk : List Value} {st t0 : State} {E' : String} (hh : c.exceptionTable.toList = []) (hk : meth.locks = false) (hal : s.vm.Alike t0.vm) (hst : st.heap = s.heap) (h0 : xl_T E' x st.heap t0.heap t0.vm) (hS : va_S A s.heap t0.heap locs) (h : ∀ t : State, xl_T E' x s.heap t.heap t.vm → Th x s t) :
    xl_W p l e R s m args below meth c t0.heap locs (0 + 1) (0 + 6) (xl_MQ below (xl_Q A Rt Th) args s (xl_k 0 1) (xl_k 0 6) A) (F0 m pc ls stk) x := by
  refine xl_leave (fun y hy => by rw [hh] at hy; cases hy) hk rfl rfl (fun t ht hW => ?_) hS.2.2
  have hT : xl_T E' x s.heap t.heap t.vm := by
    rw [ht, ← hst]
    exact h0.moved (by rw [hW.alike.findClass, hal.findClass])
  exact xq_thr (xkept_F hT.1 hT.2.1) (h t hT)
/-- the words that a call of a static method asks, of one list -/
def xwS (Ts : List Cond) (own : String) (index : Nat) (y : MethodName) (cc : ByteArray) (maxL : Nat) (ret : Option FieldType) (n : Nat) : Prop :=
  (y.cls ≠ "java/lang/invoke/MethodHandle" ∧ y.cls ≠ "java/lang/invoke/VarHandle" ∧ (parseMethodDescriptor y.desc).map (fun d => d.parameters.length) = some n) ∧ Cond.code y cc maxL ret ∈ Ts ∧ Cond.initialized y.cls ∈ Ts ∧ Cond.methodLink own index y ∈ Ts ∧ Cond.static y ∈ Ts
/-- .. of a method of an object -/
def xwV (Ts : List Cond) (own : String) (index : Nat) (y : MethodName) (cc : ByteArray) (maxL : Nat) (ret : Option FieldType) (n : Nat) : Prop :=
  (y.cls ≠ "java/lang/invoke/MethodHandle" ∧ y.cls ≠ "java/lang/invoke/VarHandle" ∧ (parseMethodDescriptor y.desc).map (fun d => d.parameters.length) = some n) ∧ Cond.code y cc maxL ret ∈ Ts ∧ Cond.initialized y.cls ∈ Ts ∧ Cond.methodLink own index y ∈ Ts ∧ Cond.instanceMethod y ∈ Ts ∧ Cond.selects y.cls y y ∈ Ts
def xGood (Ts : List Cond) : Prop := ∀ w ∈ Ts, xG w = true
theorem xGT : xGood XT := xT_good
theorem xpaid {y : MethodName} {cc' : ByteArray} {maxL : Nat} {ret : Option FieldType} (hG : xGood Ts) (hts : ∀ w ∈ Ts, w.before args s = true) (hc : Cond.code y cc' maxL ret ∈ Ts) : ∀ w ∈ (Cond.code y cc' maxL ret :: Ts), ∀ (a' : Array Value) (U : State), s.WarmedH U.vm → w.before a' U = true := by
  intro w hw a' U hW
  have hw' : w ∈ Ts := by
    rcases List.mem_cons.mp hw with rfl | h
    · exact hc
    · exact h
  exact xG_at hW (hG w hw') (hts w hw')
variable {y : MethodName} {cc' : ByteArray} {maxL n index : Nat} {ret : Option FieldType} {rm : Room} {As rest st0 : List Value} {B : State → Prop} {A1 : Nat → Prop} {Rt1 : Option Value → State → State → Prop} {Th1 : Addr → State → State → Prop} {b : Addr}
theorem xc_S (E : CallFix p m c cc nL s args Ts own) (hG : xGood Ts) (hM : xM l y (Cond.code y cc' maxL ret :: Ts) rm As B A1 Rt1 Th1) (hw : xwS Ts own index y cc' maxL ret n) (hR : rm.frames + 1 ≤ R.frames ∧ 8 + (maxL + 11) + rm.locals ≤ R.locals ∧ cells + rm.cells ≤ R.cells ∧ slots + rm.slots ≤ R.slots)
    (hB : (∀ U : State, U.heap = H → s.WarmedH U.vm → B U) ∧ ∀ (U : State) (g : JFrame) (mk : MethodId) (a : Array Value), B U → B (U.calling g mk a)) (hn : As.length = n) (hsize : ls.size = nL) (hstack : st0 = As.reverse ++ rest) (hW : (rest.map fun v => v.category).sum ≤ 8) (hdg : decode cc pc = .ok (.invokestatic index, 3)) :
    xl_Run p l e R s m args below meth c H locs cells slots (xl_k 0 1) (xl_k 0 6) (F0 m pc ls st0) rest (xl_Q A1 Rt1 Th1 As.toArray) A1 := by
  obtain ⟨⟨h1, h2, h3⟩, h4, h5, h6, h7⟩ := hw
  have hts := E.2.2.2.2
  exact xl_runS E hM ⟨hR.1, hR.2.1⟩ (xpaid hG hts h4) (hts _ h5) ⟨h1, h2⟩ (xl_C.code (hts _ h4) h3) (hts _ h6) (hts _ h7) ⟨fun a U g mk h => ⟨h.1, hB.2 U g mk a h.2⟩, fun U hU hW => ⟨rfl, hB.1 U hU hW⟩⟩ rfl hn hsize hstack (lv_room hW) hdg ⟨hR.2.2.1, hR.2.2.2⟩
theorem xc_V (E : CallFix p m c cc nL s args Ts own) (hG : xGood Ts) (hM : xM l y (Cond.code y cc' maxL ret :: Ts) rm (.ref b :: As) B A1 Rt1 Th1) (hw : xwV Ts own index y cc' maxL ret n) (hR : rm.frames + 1 ≤ R.frames ∧ 8 + (maxL + 11) + rm.locals ≤ R.locals ∧ cells + rm.cells ≤ R.cells ∧ slots + rm.slots ≤ R.slots)
    (hB : (∀ U : State, U.heap = H → s.WarmedH U.vm → B U) ∧ ∀ (U : State) (g : JFrame) (mk : MethodId) (a : Array Value), B U → B (U.calling g mk a)) (hb : ∃ cell : Cell, H[b]? = some cell ∧ cell.vm.isStatics = false ∧ s.vm.findClass y.cls = some cell.cls) (hn : As.length = n) (hsize : ls.size = nL) (hstack : st0 = As.reverse ++ .ref b :: rest) (hW : (rest.map fun v => v.category).sum ≤ 8) (hdg : decode cc pc = .ok (.invokevirtual index, 3)) :
    xl_Run p l e R s m args below meth c H locs cells slots (xl_k 0 1) (xl_k 0 6) (F0 m pc ls st0) rest (xl_Q A1 Rt1 Th1 (Value.ref b :: As).toArray) A1 := by
  obtain ⟨⟨h1, h2, h3⟩, h4, h5, h6, h7, h8⟩ := hw
  have hts := E.2.2.2.2
  exact xl_runV E hM ⟨hR.1, hR.2.1⟩ (xpaid hG hts h4) (hts _ h5) ⟨h1, h2⟩ (xl_C.code (hts _ h4) h3) (hts _ h6) (hts _ h7) (hts _ h8) ⟨fun a U g mk h => ⟨h.1, hB.2 U g mk a h.2⟩, hb, fun U hU hW => ⟨rfl, hB.1 U hU hW⟩⟩ rfl hn hsize hstack (lv_room hW) hdg ⟨hR.2.2.1, hR.2.2.2⟩
theorem xg_goes {a : Array Value} {A0 : Nat → Prop} {H0 : Heap} {free : Addr → Prop} (hr : xl_Run p l e R s m args below meth c H locs cells slots (xl_k 0 1) (xl_k 0 6) (F0 m pc ls st0) rest (xl_Q A1 Rt1 Th1 a) free) (hS : va_S A0 H0 H locs) (hA : ∀ q, q < H.size → A1 q → A0 q) (hf : ∀ q, free q → A0 q)
    (kr : ∀ (v : Option Value) (st t : State) (locs1 : List Loc), st.heap = H → s.vm.Alike t.vm → Rt1 v st t → va_S A0 H0 t.heap locs1 → H.size ≤ t.heap.size → (∀ q : Nat, q < H.size → ¬ A1 q → t.heap[q]? = H[q]?) → W p l e R s m args below meth c t.heap locs1 cells slots Q (F0 m (pc + 3) ls (v.toList ++ rest)))
    (kt : ∀ (x : Addr) (st t : State) (locs1 : List Loc), st.heap = H → s.vm.Alike t.vm → Th1 x st t → va_S A0 H0 t.heap locs1 → H.size ≤ t.heap.size → (∀ q : Nat, q < H.size → ¬ A1 q → t.heap[q]? = H[q]?) → xl_W p l e R s m args below meth c t.heap locs1 (cells + 1) (slots + 6) Q (F0 m pc ls rest) x) :
    W p l e R s m args below meth c H locs cells slots Q (F0 m pc ls st0) := xl_goes hr hS hA hf kr kt
theorem xg_looks {a : Array Value} (hr : xl_Run p l e R s m args below meth c H locs cells slots (xl_k 0 1) (xl_k 0 6) (F0 m pc ls st0) rest (xl_Q A1 Rt1 Th1 a) xNA) (hp : ∀ v st t, Rt1 v st t → t.heap = st.heap)
    (kr : ∀ (v : Option Value) (st t : State), st.heap = H → s.vm.Alike t.vm → Rt1 v st t → W p l e R s m args below meth c H locs cells slots Q (F0 m (pc + 3) ls (v.toList ++ rest)))
    (kt : ∀ (x : Addr) (st t : State), st.heap = H → s.vm.Alike t.vm → Th1 x st t → H.size ≤ t.heap.size → xl_W p l e R s m args below meth c t.heap locs (cells + 1) (slots + 6) Q (F0 m pc ls rest) x) :
    W p l e R s m args below meth c H locs cells slots Q (F0 m pc ls st0) := xl_looks hr hp kr kt
end XC
end
section
/-! The words that each call asks. -/
theorem sw_X_requireWidth : xwS XT R_X 20 y_X_requireWidth b_X_requireWidth 1 none 1 := ⟨⟨by decide, by decide, by decide +kernel⟩, cw_X_requireWidth, in_X_ini, lk_X_requireWidth, st_X_requireWidth⟩
theorem vw_X_requireRoom : xwV XT R_X 24 y_X_requireRoom b_X_requireRoom 2 none 1 := ⟨⟨by decide, by decide, by decide +kernel⟩, cw_X_requireRoom, in_X_ini, lk_X_requireRoom, im_X_requireRoom, se_X_requireRoom⟩
theorem vw_X_append : xwV XT R_X 27 y_X_append b_X_append 5 none 2 := ⟨⟨by decide, by decide, by decide +kernel⟩, cw_X_append, in_X_ini, lk_X_append, im_X_append, se_X_append⟩
theorem sw_X_bitsToHold : xwS XT R_X 38 y_X_bitsToHold b_X_bitsToHold 2 (some .int) 1 := ⟨⟨by decide, by decide, by decide +kernel⟩, cw_X_bitsToHold, in_X_ini, lk_X_bitsToHold, st_X_bitsToHold⟩
theorem sw_X_lengthWidth : xwS XT R_X 50 y_X_lengthWidth b_X_lengthWidth 1 (some .int) 1 := ⟨⟨by decide, by decide, by decide +kernel⟩, cw_X_lengthWidth, in_X_ini, lk_X_lengthWidth, st_X_lengthWidth⟩
theorem sw_X_lengthCode : xwS XT R_X 54 y_X_lengthCode b_X_lengthCode 1 (some .int) 1 := ⟨⟨by decide, by decide, by decide +kernel⟩, cw_X_lengthCode, in_X_ini, lk_X_lengthCode, st_X_lengthCode⟩
theorem sw_X_requireKind : xwS XT R_X 57 y_X_requireKind b_X_requireKind 1 none 1 := ⟨⟨by decide, by decide, by decide +kernel⟩, cw_X_requireKind, in_X_ini, lk_X_requireKind, st_X_requireKind⟩
theorem sw_X_isSmall : xwS XT R_X 60 y_X_isSmall b_X_isSmall 2 (some .boolean) 1 := ⟨⟨by decide, by decide, by decide +kernel⟩, cw_X_isSmall, in_X_ini, lk_X_isSmall, st_X_isSmall⟩
theorem vw_X_appendNumber : xwV XT R_X 64 y_X_appendNumber b_X_appendNumber 5 none 2 := ⟨⟨by decide, by decide, by decide +kernel⟩, cw_X_appendNumber, in_X_ini, lk_X_appendNumber, im_X_appendNumber, se_X_appendNumber⟩
theorem vw_X_bitsAt : xwV XT R_X 68 y_X_bitsAt b_X_bitsAt 6 (some .long) 2 := ⟨⟨by decide, by decide, by decide +kernel⟩, cw_X_bitsAt, in_X_ini, lk_X_bitsAt, im_X_bitsAt, se_X_bitsAt⟩
theorem sw_X_J_compareUnsigned : xwS XT R_X 74 y_J_compareUnsigned b_J_compareUnsigned 4 (some .int) 2 := ⟨⟨by decide, by decide, by decide +kernel⟩, cw_J_compareUnsigned, in_J_ini, lk_X_J_compareUnsigned, st_J_compareUnsigned⟩
theorem vw_X_lengthAt : xwV XT R_X 85 y_X_lengthAt b_X_lengthAt 2 (some .int) 1 := ⟨⟨by decide, by decide, by decide +kernel⟩, cw_X_lengthAt, in_X_ini, lk_X_lengthAt, im_X_lengthAt, se_X_lengthAt⟩
theorem vw_X_smallAt : xwV XT R_X 88 y_X_smallAt b_X_smallAt 4 (some .long) 1 := ⟨⟨by decide, by decide, by decide +kernel⟩, cw_X_smallAt, in_X_ini, lk_X_smallAt, im_X_smallAt, se_X_smallAt⟩
theorem vw_X_numberAt : xwV XT R_X 92 y_X_numberAt b_X_numberAt 7 (some .long) 2 := ⟨⟨by decide, by decide, by decide +kernel⟩, cw_X_numberAt, in_X_ini, lk_X_numberAt, im_X_numberAt, se_X_numberAt⟩
theorem sw_X_numberWidth : xwS XT R_X 95 y_X_numberWidth b_X_numberWidth 4 (some .int) 2 := ⟨⟨by decide, by decide, by decide +kernel⟩, cw_X_numberWidth, in_X_ini, lk_X_numberWidth, st_X_numberWidth⟩
theorem vw_X_requireCut : xwV XT R_X 99 y_X_requireCut b_X_requireCut 2 none 1 := ⟨⟨by decide, by decide, by decide +kernel⟩, cw_X_requireCut, in_X_ini, lk_X_requireCut, im_X_requireCut, se_X_requireCut⟩
theorem vw_X_bit : xwV XT R_X 104 y_X_bit b_X_bit 2 (some .long) 1 := ⟨⟨by decide, by decide, by decide +kernel⟩, cw_X_bit, in_X_ini, lk_X_bit, im_X_bit, se_X_bit⟩
theorem vw_X_setBit : xwV XT R_X 107 y_X_setBit b_X_setBit 7 none 2 := ⟨⟨by decide, by decide, by decide +kernel⟩, cw_X_setBit, in_X_ini, lk_X_setBit, im_X_setBit, se_X_setBit⟩
theorem sw_X_bytesToHold : xwS XT R_X 124 y_X_bytesToHold b_X_bytesToHold 4 (some .int) 2 := ⟨⟨by decide, by decide, by decide +kernel⟩, cw_X_bytesToHold, in_X_ini, lk_X_bytesToHold, st_X_bytesToHold⟩
theorem vw_X_longLengthAt : xwV XT R_X 131 y_X_longLengthAt b_X_longLengthAt 3 (some .int) 1 := ⟨⟨by decide, by decide, by decide +kernel⟩, cw_X_longLengthAt, in_X_ini, lk_X_longLengthAt, im_X_longLengthAt, se_X_longLengthAt⟩
theorem vw_X_piecesAt : xwV XT R_X 134 y_X_piecesAt b_X_piecesAt 3 (some .int) 1 := ⟨⟨by decide, by decide, by decide +kernel⟩, cw_X_piecesAt, in_X_ini, lk_X_piecesAt, im_X_piecesAt, se_X_piecesAt⟩
theorem sw_X_J_numberOfLeadingZeros : xwS XT R_X 149 y_J_numberOfLeadingZeros b_J_numberOfLeadingZeros 3 (some .int) 1 := ⟨⟨by decide, by decide, by decide +kernel⟩, cw_J_numberOfLeadingZeros, in_J_ini, lk_X_J_numberOfLeadingZeros, st_J_numberOfLeadingZeros⟩
theorem vw_M_width : xwV XT R_M 18 y_M_width b_M_width 4 (some .int) 1 := ⟨⟨by decide, by decide, by decide +kernel⟩, cw_M_width, in_M_ini, lk_M_width, im_M_width, se_M_width⟩
theorem vw_M_fail : xwV XT R_M 27 y_M_fail b_M_fail 2 (some .int) 1 := ⟨⟨by decide, by decide, by decide +kernel⟩, cw_M_fail, in_M_ini, lk_M_fail, im_M_fail, se_M_fail⟩
theorem vw_M_append : xwV XT R_M 31 y_M_append b_M_append 5 none 2 := ⟨⟨by decide, by decide, by decide +kernel⟩, cw_M_append, in_M_ini, lk_M_append, im_M_append, se_M_append⟩
theorem vw_M_write : xwV XT R_M 35 y_M_write b_M_write 5 (some .int) 3 := ⟨⟨by decide, by decide, by decide +kernel⟩, cw_M_write, in_M_ini, lk_M_write, im_M_write, se_M_write⟩
theorem vw_M_complement : xwV XT R_M 51 y_M_complement b_M_complement 4 (some .int) 1 := ⟨⟨by decide, by decide, by decide +kernel⟩, cw_M_complement, in_M_ini, lk_M_complement, im_M_complement, se_M_complement⟩
theorem vw_M_bytesOf : xwV XT R_M 54 y_M_bytesOf b_M_bytesOf 3 (some .int) 1 := ⟨⟨by decide, by decide, by decide +kernel⟩, cw_M_bytesOf, in_M_ini, lk_M_bytesOf, im_M_bytesOf, se_M_bytesOf⟩
theorem vw_M_begin : xwV XT R_M 67 y_M_begin b_M_begin 1 none 0 := ⟨⟨by decide, by decide, by decide +kernel⟩, cw_M_begin, in_M_ini, lk_M_begin, im_M_begin, se_M_begin⟩
theorem vw_M_get : xwV XT R_M 70 y_M_get b_M_get 5 (some .long) 1 := ⟨⟨by decide, by decide, by decide +kernel⟩, cw_M_get, in_M_ini, lk_M_get, im_M_get, se_M_get⟩
theorem vw_M_done : xwV XT R_M 74 y_M_done b_M_done 4 (some .long) 2 := ⟨⟨by decide, by decide, by decide +kernel⟩, cw_M_done, in_M_ini, lk_M_done, im_M_done, se_M_done⟩
theorem vw_M_length : xwV XT R_M 78 y_M_length b_M_length 2 (some .int) 0 := ⟨⟨by decide, by decide, by decide +kernel⟩, cw_M_length, in_M_ini, lk_M_length, im_M_length, se_M_length⟩
theorem vw_L_X_put : xwV XT R_L 7 y_X_put b_X_put 4 (some .int) 2 := ⟨⟨by decide, by decide, by decide +kernel⟩, cw_X_put, in_X_ini, lk_L_X_put, im_X_put, se_X_put⟩
theorem vw_L_X_putRange : xwV XT R_L 17 y_X_putRange b_X_putRange 8 (some .int) 3 := ⟨⟨by decide, by decide, by decide +kernel⟩, cw_X_putRange, in_X_ini, lk_L_X_putRange, im_X_putRange, se_X_putRange⟩
theorem vw_L_X_putLength : xwV XT R_L 21 y_X_putLength b_X_putLength 3 (some .int) 1 := ⟨⟨by decide, by decide, by decide +kernel⟩, cw_X_putLength, in_X_ini, lk_L_X_putLength, im_X_putLength, se_X_putLength⟩
theorem vw_L_X_putNumber : xwV XT R_L 25 y_X_putNumber b_X_putNumber 4 (some .int) 2 := ⟨⟨by decide, by decide, by decide +kernel⟩, cw_X_putNumber, in_X_ini, lk_L_X_putNumber, im_X_putNumber, se_X_putNumber⟩
theorem vw_L_X_fill : xwV XT R_L 29 y_X_fill b_X_fill 2 (some .int) 0 := ⟨⟨by decide, by decide, by decide +kernel⟩, cw_X_fill, in_X_ini, lk_L_X_fill, im_X_fill, se_X_fill⟩
theorem vw_L_X_take : xwV XT R_L 33 y_X_take b_X_take 4 (some .long) 1 := ⟨⟨by decide, by decide, by decide +kernel⟩, cw_X_take, in_X_ini, lk_L_X_take, im_X_take, se_X_take⟩
theorem vw_L_X_takeRange : xwV XT R_L 39 y_X_takeRange b_X_takeRange 8 (some .long) 2 := ⟨⟨by decide, by decide, by decide +kernel⟩, cw_X_takeRange, in_X_ini, lk_L_X_takeRange, im_X_takeRange, se_X_takeRange⟩
theorem vw_L_X_takeLength : xwV XT R_L 43 y_X_takeLength b_X_takeLength 2 (some .int) 0 := ⟨⟨by decide, by decide, by decide +kernel⟩, cw_X_takeLength, in_X_ini, lk_L_X_takeLength, im_X_takeLength, se_X_takeLength⟩
theorem vw_L_X_takeNumber : xwV XT R_L 46 y_X_takeNumber b_X_takeNumber 4 (some .long) 1 := ⟨⟨by decide, by decide, by decide +kernel⟩, cw_X_takeNumber, in_X_ini, lk_L_X_takeNumber, im_X_takeNumber, se_X_takeNumber⟩
theorem vw_L_X_go : xwV XT R_L 49 y_X_go b_X_go 3 (some .int) 1 := ⟨⟨by decide, by decide, by decide +kernel⟩, cw_X_go, in_X_ini, lk_L_X_go, im_X_go, se_X_go⟩
theorem vw_L_X_turn : xwV XT R_L 52 y_X_turn b_X_turn 4 (some .boolean) 1 := ⟨⟨by decide, by decide, by decide +kernel⟩, cw_X_turn, in_X_ini, lk_L_X_turn, im_X_turn, se_X_turn⟩
theorem vw_L_X_cut : xwV XT R_L 56 y_X_cut b_X_cut 3 (some .int) 1 := ⟨⟨by decide, by decide, by decide +kernel⟩, cw_X_cut, in_X_ini, lk_L_X_cut, im_X_cut, se_X_cut⟩
theorem vw_L_X_count : xwV XT R_L 59 y_X_count b_X_count 2 (some .int) 1 := ⟨⟨by decide, by decide, by decide +kernel⟩, cw_X_count, in_X_ini, lk_L_X_count, im_X_count, se_X_count⟩
theorem vw_L_M_put : xwV XT R_L 73 y_M_put b_M_put 4 (some .int) 2 := ⟨⟨by decide, by decide, by decide +kernel⟩, cw_M_put, in_M_ini, lk_L_M_put, im_M_put, se_M_put⟩
theorem vw_L_M_thrown : xwV XT R_L 74 y_M_thrown b_M_thrown 1 (some .int) 0 := ⟨⟨by decide, by decide, by decide +kernel⟩, cw_M_thrown, in_M_ini, lk_L_M_thrown, im_M_thrown, se_M_thrown⟩
theorem vw_L_M_putRange : xwV XT R_L 80 y_M_putRange b_M_putRange 7 (some .int) 3 := ⟨⟨by decide, by decide, by decide +kernel⟩, cw_M_putRange, in_M_ini, lk_L_M_putRange, im_M_putRange, se_M_putRange⟩
theorem vw_L_M_putLength : xwV XT R_L 84 y_M_putLength b_M_putLength 4 (some .int) 1 := ⟨⟨by decide, by decide, by decide +kernel⟩, cw_M_putLength, in_M_ini, lk_L_M_putLength, im_M_putLength, se_M_putLength⟩
theorem vw_L_M_putNumber : xwV XT R_L 88 y_M_putNumber b_M_putNumber 7 (some .int) 2 := ⟨⟨by decide, by decide, by decide +kernel⟩, cw_M_putNumber, in_M_ini, lk_L_M_putNumber, im_M_putNumber, se_M_putNumber⟩
theorem vw_L_M_fill : xwV XT R_L 92 y_M_fill b_M_fill 2 (some .int) 0 := ⟨⟨by decide, by decide, by decide +kernel⟩, cw_M_fill, in_M_ini, lk_L_M_fill, im_M_fill, se_M_fill⟩
theorem vw_L_M_take : xwV XT R_L 95 y_M_take b_M_take 2 (some .long) 1 := ⟨⟨by decide, by decide, by decide +kernel⟩, cw_M_take, in_M_ini, lk_L_M_take, im_M_take, se_M_take⟩
theorem vw_L_M_takeRange : xwV XT R_L 99 y_M_takeRange b_M_takeRange 9 (some .long) 2 := ⟨⟨by decide, by decide, by decide +kernel⟩, cw_M_takeRange, in_M_ini, lk_L_M_takeRange, im_M_takeRange, se_M_takeRange⟩
theorem vw_L_M_takeLength : xwV XT R_L 102 y_M_takeLength b_M_takeLength 1 (some .int) 0 := ⟨⟨by decide, by decide, by decide +kernel⟩, cw_M_takeLength, in_M_ini, lk_L_M_takeLength, im_M_takeLength, se_M_takeLength⟩
theorem vw_L_M_takeNumber : xwV XT R_L 105 y_M_takeNumber b_M_takeNumber 5 (some .long) 1 := ⟨⟨by decide, by decide, by decide +kernel⟩, cw_M_takeNumber, in_M_ini, lk_L_M_takeNumber, im_M_takeNumber, se_M_takeNumber⟩
theorem vw_L_M_go : xwV XT R_L 108 y_M_go b_M_go 3 (some .int) 1 := ⟨⟨by decide, by decide, by decide +kernel⟩, cw_M_go, in_M_ini, lk_L_M_go, im_M_go, se_M_go⟩
theorem vw_L_M_turn : xwV XT R_L 111 y_M_turn b_M_turn 2 (some .boolean) 1 := ⟨⟨by decide, by decide, by decide +kernel⟩, cw_M_turn, in_M_ini, lk_L_M_turn, im_M_turn, se_M_turn⟩
theorem vw_L_M_cut : xwV XT R_L 114 y_M_cut b_M_cut 3 (some .int) 1 := ⟨⟨by decide, by decide, by decide +kernel⟩, cw_M_cut, in_M_ini, lk_L_M_cut, im_M_cut, se_M_cut⟩
theorem vw_L_M_count : xwV XT R_L 117 y_M_count b_M_count 2 (some .int) 1 := ⟨⟨by decide, by decide, by decide +kernel⟩, cw_M_count, in_M_ini, lk_L_M_count, im_M_count, se_M_count⟩
theorem sw_J_compare : xwS XT R_J 302 y_J_compare b_J_compare 4 (some .int) 2 := ⟨⟨by decide, by decide, by decide +kernel⟩, cw_J_compare, in_J_ini, lk_J_compare, st_J_compare⟩
theorem sw_J_I_numberOfLeadingZeros : xwS XT R_J 308 y_I_numberOfLeadingZeros b_I_numberOfLeadingZeros 2 (some .int) 1 := ⟨⟨by decide, by decide, by decide +kernel⟩, cw_I_numberOfLeadingZeros, in_I_ini, lk_J_I_numberOfLeadingZeros, st_I_numberOfLeadingZeros⟩
end
section
/-! The worlds: an object of the class with its row of longs; the reference with its row of booleans. -/
section XWa
abbrev xcl : List vw_C := [(R_X, F_X, 3), (R_M, F_M, 6)]
abbrev xty (cJ cZ : ClassId) : List (ClassId × FieldType) := [(cJ, .long), (cZ, .boolean)]
/-- two places -/
def xA2 (a b : Nat) : Nat → Prop := fun q => q = a ∨ q = b
theorem xD2 {a b : Nat} (h : a ≠ b) {e1 e2 : va_E} : va_D (xA2 a b) [(a, e1), (b, e2)] := by
  refine ⟨fun i j p q hi hj hpq => ?_, fun k q hk => ?_⟩
  · match i, j with
    | 0, 0 => rfl
    | 0, 1 =>
      cases Option.some.inj hi
      cases Option.some.inj hj
      exact absurd hpq h
    | 1, 0 =>
      cases Option.some.inj hi
      cases Option.some.inj hj
      exact absurd hpq.symm h
    | 1, 1 => rfl
    | i + 2, _ => cases hi
    | 0, j + 2 => cases hj
    | 1, j + 2 => cases hj
  · match k with
    | 0 =>
      cases Option.some.inj hk
      exact Or.inl rfl
    | 1 =>
      cases Option.some.inj hk
      exact Or.inr rfl
    | k + 2 => cases hk
abbrev xqX (a w : Nat) (cJ : ClassId) (f : Nat → Int64) (n q : Nat) : va_W := [(a, .inr (0, [.ref w, .int (nI n), .int (nI q)])), (w, .inl (cJ, 1024, .inr (.inl f)))]
/-- the object at a, its longs at w: the row β of n bits, the place q -/
def PX (D : va_G) (a w : Nat) (cJ : ClassId) (β : Nat → Bool) (n q : Nat) (H : Heap) : Prop := ∃ f : Nat → Int64, xw f = β ∧ va_P D xcl (xqX a w cJ f n q) H
/-- .. and what the tables say -/
def wX (D : va_G) (a w : Nat) (cJ cZ : ClassId) (β : Nat → Bool) (n q : Nat) (U : State) : Prop := PX D a w cJ β n q U.heap ∧ va_K D xcl (xty cJ cZ) U
theorem PX.kept {D : va_G} {a w : Nat} {cJ : ClassId} {β : Nat → Bool} {n q : Nat} {H H1 : Heap} (h : PX D a w cJ β n q H) (ha : H1[a]? = H[a]?) (hw : H1[w]? = H[w]?) : PX D a w cJ β n q H1 := by
  obtain ⟨f, hf, hP⟩ := h
  refine ⟨f, hf, hP.kept (fun k z hk => ?_)⟩
  match k with
  | 0 => cases Option.some.inj hk; exact ha
  | 1 => cases Option.some.inj hk; exact hw
  | k + 2 => cases hk
theorem PX.ge {D : va_G} {a w : Nat} {cJ : ClassId} {β : Nat → Bool} {n q : Nat} {H H1 : Heap} (h : PX D a w cJ β n q H) (hk : ∀ (z : Nat) (cell : Cell), H[z]? = some cell → H1[z]? = some cell) : PX D a w cJ β n q H1 := by
  obtain ⟨f, hf, hP⟩ := h
  have hl : ∀ (k : Nat) (z : Nat × va_E), (xqX a w cJ f n q)[k]? = some z → H1[z.1]? = H[z.1]? := fun k z hz => by
    have hlt := (hP k z hz).lt
    rw [hk z.1 _ (Array.getElem?_eq_getElem hlt), Array.getElem?_eq_getElem hlt]
  exact ⟨f, hf, hP.kept hl⟩
theorem wX.call {D : va_G} {a w : Nat} {cJ cZ : ClassId} {β : Nat → Bool} {n q : Nat} {s : State} {H : Heap} (hP : PX D a w cJ β n q H) (hK : va_K D xcl (xty cJ cZ) s) :
    (∀ U : State, U.heap = H → s.WarmedH U.vm → wX D a w cJ cZ β n q U) ∧ ∀ (U : State) (g : JFrame) (mk : MethodId) (z : Array Value), wX D a w cJ cZ β n q U → wX D a w cJ cZ β n q (U.calling g mk z) :=
  ⟨fun U hU hW => ⟨by rw [hU]; exact hP, va_K.moved hW.alike hK⟩, fun U g mk z h => ⟨h.1, va_K.moved (u := U) (U := U.calling g mk z) (Vm.Alike.refl U.vm) h.2⟩⟩
/-- .. and what a throw looks at -/
def wXt (D : va_G) (a w : Nat) (cJ cZ : ClassId) (β : Nat → Bool) (n q : Nat) (U : State) : Prop := wX D a w cJ cZ β n q U ∧ xq U
theorem wXt.call {D : va_G} {a w : Nat} {cJ cZ : ClassId} {β : Nat → Bool} {n q : Nat} {s : State} (hP : PX D a w cJ β n q s.heap) (hK : va_K D xcl (xty cJ cZ) s) (hQ : xq s) :
    (∀ U : State, U.heap = s.heap → s.WarmedH U.vm → wXt D a w cJ cZ β n q U) ∧ ∀ (U : State) (g : JFrame) (mk : MethodId) (z : Array Value), wXt D a w cJ cZ β n q U → wXt D a w cJ cZ β n q (U.calling g mk z) :=
  ⟨fun U hU hW => ⟨(wX.call hP hK).1 U hU hW, (xQc hQ).1 U hU hW⟩, fun U g mk z h => ⟨(wX.call hP hK).2 U g mk z h.1, (xQc hQ).2 U g mk z h.2⟩⟩
theorem PX.recv {D : va_G} {a w : Nat} {cJ cZ : ClassId} {β : Nat → Bool} {n q : Nat} {s : State} {H : Heap} (hP : PX D a w cJ β n q H) (hK : va_K D xcl (xty cJ cZ) s) : ∃ cell : Cell, H[a]? = some cell ∧ cell.vm.isStatics = false ∧ s.vm.findClass R_X = some cell.cls := by
  obtain ⟨f, -, hP⟩ := hP
  exact va_recv hK hP (ci := 0) (q0 := 0) rfl rfl
/-- nothing of the world is asked -/
theorem xNo {s : State} {H : Heap} : (∀ U : State, U.heap = H → s.WarmedH U.vm → (fun _ : State => True) U) ∧ ∀ (U : State) (g : JFrame) (mk : MethodId) (z : Array Value), (fun _ : State => True) U → (fun _ : State => True) (U.calling g mk z) := ⟨fun _ _ _ => trivial, fun _ _ _ _ _ => trivial⟩
variable {p : Program} {l : Launch} {e : Env} {R : Room} {s : State} {m : MethodId} {args : Array Value} {below : List Frame} {meth : Method} {c : Code} {H : Heap} {locs : List Loc} {cells slots : Nat} {Q : State → Prop}
variable {cc : ByteArray} {nL : Nat} {pc : Nat} {ls : Array Slot} {rest : List Value} {D : va_G} {a w : Nat} {cJ cZ : ClassId} {β : Nat → Bool} {n q : Nat}
theorem gx_words {f : Nat → Int64} (E : CallFix p m c cc nL s args XT R_X) (hK : va_K D xcl (xty cJ cZ) s) (hP : va_P D xcl (xqX a w cJ f n q) H) (hdg : decode cc pc = .ok (.getfield ix_words, 3)) (k : W p l e R s m args below meth c H locs cells slots Q (F0 m (pc + 3) ls (.ref w :: rest))) : W p l e R s m args below meth c H locs cells slots Q (F0 m pc ls (.ref a :: rest)) :=
  va_get (D := D) (ci := 0) (v := .ref w) (C := R_X) (T := F_X) (N := 3) E.1 E.2.1 E.2.2.2.2 in_X E.2.2.2.1 hK hP 0 rfl rfl 0 (by decide) (E.2.2.2.2 _ fl_X_words) (fun _ h => h) rfl hdg k
theorem gx_size (E : CallFix p m c cc nL s args XT R_X) (hK : va_K D xcl (xty cJ cZ) s) (hP : PX D a w cJ β n q H) (hdg : decode cc pc = .ok (.getfield ix_size, 3)) (k : W p l e R s m args below meth c H locs cells slots Q (F0 m (pc + 3) ls (.int (nI n) :: rest))) : W p l e R s m args below meth c H locs cells slots Q (F0 m pc ls (.ref a :: rest)) := by
  obtain ⟨f, -, hP⟩ := hP
  exact va_get (D := D) (ci := 0) (v := .int (nI n)) (C := R_X) (T := F_X) (N := 3) E.1 E.2.1 E.2.2.2.2 in_X E.2.2.2.1 hK hP 0 rfl rfl 1 (by decide) (E.2.2.2.2 _ fl_X_size) (fun _ h => h) rfl hdg k
theorem gx_place (E : CallFix p m c cc nL s args XT R_X) (hK : va_K D xcl (xty cJ cZ) s) (hP : PX D a w cJ β n q H) (hdg : decode cc pc = .ok (.getfield ix_place, 3)) (k : W p l e R s m args below meth c H locs cells slots Q (F0 m (pc + 3) ls (.int (nI q) :: rest))) : W p l e R s m args below meth c H locs cells slots Q (F0 m pc ls (.ref a :: rest)) := by
  obtain ⟨f, -, hP⟩ := hP
  exact va_get (D := D) (ci := 0) (v := .int (nI q)) (C := R_X) (T := F_X) (N := 3) E.1 E.2.1 E.2.2.2.2 in_X E.2.2.2.1 hK hP 0 rfl rfl 2 (by decide) (E.2.2.2.2 _ fl_X_place) (fun _ h => h) rfl hdg k
theorem sx_size {k : Nat} (E : CallFix p m c cc nL s args XT R_X) (hK : va_K D xcl (xty cJ cZ) s) (hP : PX D a w cJ β n q H) (hne : a ≠ w) (hS : va_S (xA2 a w) s.heap H locs) (hdg : decode cc pc = .ok (.putfield ix_size, 3))
    (kk : ∀ (H1 : Heap) (locs1 : List Loc), PX D a w cJ β k q H1 → va_S (xA2 a w) s.heap H1 locs1 → W p l e R s m args below meth c H1 locs1 cells slots Q (F0 m (pc + 3) ls rest)) : W p l e R s m args below meth c H locs cells slots Q (F0 m pc ls (.int (nI k) :: .ref a :: rest)) := by
  obtain ⟨f, hf, hP⟩ := hP
  exact va_put (D := D) (ci := 0) (v := .int (nI k)) (ty := .int) (C := R_X) (T := F_X) (N := 3) E.1 E.2.1 E.2.2.2.2 in_X t_X t_X_ok n_X E.2.2.2.1 hK hP (xD2 hne) hS 0 rfl rfl 1 (by decide) (E.2.2.2.2 _ fl_X_size) (fun _ h => h) rfl (by decide +kernel) rfl rfl (Nat.le_of_ble_eq_true rfl) hdg (fun H1 locs1 hP1 _ hS1 => kk H1 locs1 ⟨f, hf, hP1⟩ hS1)
theorem sx_place {k : Nat} (E : CallFix p m c cc nL s args XT R_X) (hK : va_K D xcl (xty cJ cZ) s) (hP : PX D a w cJ β n q H) (hne : a ≠ w) (hS : va_S (xA2 a w) s.heap H locs) (hdg : decode cc pc = .ok (.putfield ix_place, 3))
    (kk : ∀ (H1 : Heap) (locs1 : List Loc), PX D a w cJ β n k H1 → va_S (xA2 a w) s.heap H1 locs1 → W p l e R s m args below meth c H1 locs1 cells slots Q (F0 m (pc + 3) ls rest)) : W p l e R s m args below meth c H locs cells slots Q (F0 m pc ls (.int (nI k) :: .ref a :: rest)) := by
  obtain ⟨f, hf, hP⟩ := hP
  exact va_put (D := D) (ci := 0) (v := .int (nI k)) (ty := .int) (C := R_X) (T := F_X) (N := 3) E.1 E.2.1 E.2.2.2.2 in_X t_X t_X_ok n_X E.2.2.2.1 hK hP (xD2 hne) hS 0 rfl rfl 2 (by decide) (E.2.2.2.2 _ fl_X_place) (fun _ h => h) rfl (by decide +kernel) rfl rfl (Nat.le_of_ble_eq_true rfl) hdg (fun H1 locs1 hP1 _ hS1 => kk H1 locs1 ⟨f, hf, hP1⟩ hS1)
end XWa
end
section
theorem d_X_init_0 : decode b_X_init 0 = .ok (.aload_n 0, 1) := by decide +kernel
theorem d_X_init_1 : decode b_X_init 1 = .ok (.invokespecial 1, 3) := by decide +kernel
theorem d_X_init_4 : decode b_X_init 4 = .ok (.aload_n 0, 1) := by decide +kernel
theorem d_X_init_5 : decode b_X_init 5 = .ok (.sipush 1024, 3) := by decide +kernel
theorem d_X_init_8 : decode b_X_init 8 = .ok (.newarray .long, 2) := by decide +kernel
theorem d_X_init_10 : decode b_X_init 10 = .ok (.putfield 9, 3) := by decide +kernel
theorem d_X_init_13 : decode b_X_init 13 = .ok (.aload_n 0, 1) := by decide +kernel
theorem d_X_init_14 : decode b_X_init 14 = .ok (.iconst 0, 1) := by decide +kernel
theorem d_X_init_15 : decode b_X_init 15 = .ok (.putfield 13, 3) := by decide +kernel
theorem d_X_init_18 : decode b_X_init 18 = .ok (.aload_n 0, 1) := by decide +kernel
theorem d_X_init_19 : decode b_X_init 19 = .ok (.iconst 0, 1) := by decide +kernel
theorem d_X_init_20 : decode b_X_init 20 = .ok (.putfield 17, 3) := by decide +kernel
theorem d_X_init_23 : decode b_X_init 23 = .ok (.return_, 1) := by decide +kernel
theorem d_X_put_0 : decode b_X_put 0 = .ok (.iload_n 3, 1) := by decide +kernel
theorem d_X_put_1 : decode b_X_put 1 = .ok (.invokestatic 20, 3) := by decide +kernel
theorem d_X_put_4 : decode b_X_put 4 = .ok (.aload_n 0, 1) := by decide +kernel
theorem d_X_put_5 : decode b_X_put 5 = .ok (.iload_n 3, 1) := by decide +kernel
theorem d_X_put_6 : decode b_X_put 6 = .ok (.invokevirtual 24, 3) := by decide +kernel
theorem d_X_put_9 : decode b_X_put 9 = .ok (.aload_n 0, 1) := by decide +kernel
theorem d_X_put_10 : decode b_X_put 10 = .ok (.lload_n 1, 1) := by decide +kernel
theorem d_X_put_11 : decode b_X_put 11 = .ok (.iload_n 3, 1) := by decide +kernel
theorem d_X_put_12 : decode b_X_put 12 = .ok (.invokevirtual 27, 3) := by decide +kernel
theorem d_X_put_15 : decode b_X_put 15 = .ok (.aload_n 0, 1) := by decide +kernel
theorem d_X_put_16 : decode b_X_put 16 = .ok (.getfield 13, 3) := by decide +kernel
theorem d_X_put_19 : decode b_X_put 19 = .ok (.ireturn, 1) := by decide +kernel
theorem d_X_requireWidth_0 : decode b_X_requireWidth 0 = .ok (.iload_n 0, 1) := by decide +kernel
theorem d_X_requireWidth_1 : decode b_X_requireWidth 1 = .ok (.ifCond .lt 9, 3) := by decide +kernel
theorem d_X_requireWidth_4 : decode b_X_requireWidth 4 = .ok (.iload_n 0, 1) := by decide +kernel
theorem d_X_requireWidth_5 : decode b_X_requireWidth 5 = .ok (.bipush 64, 2) := by decide +kernel
theorem d_X_requireWidth_7 : decode b_X_requireWidth 7 = .ok (.if_icmp .le 13, 3) := by decide +kernel
theorem d_X_requireWidth_10 : decode b_X_requireWidth 10 = .ok (.new 31, 3) := by decide +kernel
theorem d_X_requireWidth_13 : decode b_X_requireWidth 13 = .ok (.dup, 1) := by decide +kernel
theorem d_X_requireWidth_14 : decode b_X_requireWidth 14 = .ok (.ldc 112, 2) := by decide +kernel
theorem d_X_requireWidth_16 : decode b_X_requireWidth 16 = .ok (.invokespecial 35, 3) := by decide +kernel
theorem d_X_requireWidth_19 : decode b_X_requireWidth 19 = .ok (.athrow, 1) := by decide +kernel
theorem d_X_requireWidth_20 : decode b_X_requireWidth 20 = .ok (.return_, 1) := by decide +kernel
theorem d_X_requireRoom_0 : decode b_X_requireRoom 0 = .ok (.iload_n 1, 1) := by decide +kernel
theorem d_X_requireRoom_1 : decode b_X_requireRoom 1 = .ok (.ldc 118, 2) := by decide +kernel
theorem d_X_requireRoom_3 : decode b_X_requireRoom 3 = .ok (.aload_n 0, 1) := by decide +kernel
theorem d_X_requireRoom_4 : decode b_X_requireRoom 4 = .ok (.getfield 13, 3) := by decide +kernel
theorem d_X_requireRoom_7 : decode b_X_requireRoom 7 = .ok (.isub, 1) := by decide +kernel
theorem d_X_requireRoom_8 : decode b_X_requireRoom 8 = .ok (.if_icmp .le 13, 3) := by decide +kernel
theorem d_X_requireRoom_11 : decode b_X_requireRoom 11 = .ok (.new 119, 3) := by decide +kernel
theorem d_X_requireRoom_14 : decode b_X_requireRoom 14 = .ok (.dup, 1) := by decide +kernel
theorem d_X_requireRoom_15 : decode b_X_requireRoom 15 = .ok (.ldc 121, 2) := by decide +kernel
theorem d_X_requireRoom_17 : decode b_X_requireRoom 17 = .ok (.invokespecial 123, 3) := by decide +kernel
theorem d_X_requireRoom_20 : decode b_X_requireRoom 20 = .ok (.athrow, 1) := by decide +kernel
theorem d_X_requireRoom_21 : decode b_X_requireRoom 21 = .ok (.return_, 1) := by decide +kernel
theorem d_X_append_0 : decode b_X_append 0 = .ok (.iload_n 3, 1) := by decide +kernel
theorem d_X_append_1 : decode b_X_append 1 = .ok (.iconst 1, 1) := by decide +kernel
theorem d_X_append_2 : decode b_X_append 2 = .ok (.isub, 1) := by decide +kernel
theorem d_X_append_3 : decode b_X_append 3 = .ok (.istore 4, 2) := by decide +kernel
theorem d_X_append_5 : decode b_X_append 5 = .ok (.iload 4, 2) := by decide +kernel
theorem d_X_append_7 : decode b_X_append 7 = .ok (.ifCond .lt 33, 3) := by decide +kernel
theorem d_X_append_10 : decode b_X_append 10 = .ok (.aload_n 0, 1) := by decide +kernel
theorem d_X_append_11 : decode b_X_append 11 = .ok (.aload_n 0, 1) := by decide +kernel
theorem d_X_append_12 : decode b_X_append 12 = .ok (.getfield 13, 3) := by decide +kernel
theorem d_X_append_15 : decode b_X_append 15 = .ok (.lload_n 1, 1) := by decide +kernel
theorem d_X_append_16 : decode b_X_append 16 = .ok (.iload 4, 2) := by decide +kernel
theorem d_X_append_18 : decode b_X_append 18 = .ok (.lushr, 1) := by decide +kernel
theorem d_X_append_19 : decode b_X_append 19 = .ok (.lconst 1, 1) := by decide +kernel
theorem d_X_append_20 : decode b_X_append 20 = .ok (.land, 1) := by decide +kernel
theorem d_X_append_21 : decode b_X_append 21 = .ok (.invokevirtual 107, 3) := by decide +kernel
theorem d_X_append_24 : decode b_X_append 24 = .ok (.aload_n 0, 1) := by decide +kernel
theorem d_X_append_25 : decode b_X_append 25 = .ok (.dup, 1) := by decide +kernel
theorem d_X_append_26 : decode b_X_append 26 = .ok (.getfield 13, 3) := by decide +kernel
theorem d_X_append_29 : decode b_X_append 29 = .ok (.iconst 1, 1) := by decide +kernel
theorem d_X_append_30 : decode b_X_append 30 = .ok (.iadd, 1) := by decide +kernel
theorem d_X_append_31 : decode b_X_append 31 = .ok (.putfield 13, 3) := by decide +kernel
theorem d_X_append_34 : decode b_X_append 34 = .ok (.iinc 4 (-1), 3) := by decide +kernel
theorem d_X_append_37 : decode b_X_append 37 = .ok (.goto (-32), 3) := by decide +kernel
theorem d_X_append_40 : decode b_X_append 40 = .ok (.return_, 1) := by decide +kernel
theorem d_X_setBit_0 : decode b_X_setBit 0 = .ok (.lconst 1, 1) := by decide +kernel
theorem d_X_setBit_1 : decode b_X_setBit 1 = .ok (.iload_n 1, 1) := by decide +kernel
theorem d_X_setBit_2 : decode b_X_setBit 2 = .ok (.bipush 64, 2) := by decide +kernel
theorem d_X_setBit_4 : decode b_X_setBit 4 = .ok (.irem, 1) := by decide +kernel
theorem d_X_setBit_5 : decode b_X_setBit 5 = .ok (.lshl, 1) := by decide +kernel
theorem d_X_setBit_6 : decode b_X_setBit 6 = .ok (.lstore 4, 2) := by decide +kernel
theorem d_X_setBit_8 : decode b_X_setBit 8 = .ok (.iload_n 1, 1) := by decide +kernel
theorem d_X_setBit_9 : decode b_X_setBit 9 = .ok (.bipush 64, 2) := by decide +kernel
theorem d_X_setBit_11 : decode b_X_setBit 11 = .ok (.idiv, 1) := by decide +kernel
theorem d_X_setBit_12 : decode b_X_setBit 12 = .ok (.istore 6, 2) := by decide +kernel
theorem d_X_setBit_14 : decode b_X_setBit 14 = .ok (.aload_n 0, 1) := by decide +kernel
theorem d_X_setBit_15 : decode b_X_setBit 15 = .ok (.getfield 9, 3) := by decide +kernel
theorem d_X_setBit_18 : decode b_X_setBit 18 = .ok (.iload 6, 2) := by decide +kernel
theorem d_X_setBit_20 : decode b_X_setBit 20 = .ok (.lload_n 2, 1) := by decide +kernel
theorem d_X_setBit_21 : decode b_X_setBit 21 = .ok (.lconst 1, 1) := by decide +kernel
theorem d_X_setBit_22 : decode b_X_setBit 22 = .ok (.lcmp, 1) := by decide +kernel
theorem d_X_setBit_23 : decode b_X_setBit 23 = .ok (.ifCond .ne 16, 3) := by decide +kernel
theorem d_X_setBit_26 : decode b_X_setBit 26 = .ok (.aload_n 0, 1) := by decide +kernel
theorem d_X_setBit_27 : decode b_X_setBit 27 = .ok (.getfield 9, 3) := by decide +kernel
theorem d_X_setBit_30 : decode b_X_setBit 30 = .ok (.iload 6, 2) := by decide +kernel
theorem d_X_setBit_32 : decode b_X_setBit 32 = .ok (.laload, 1) := by decide +kernel
theorem d_X_setBit_33 : decode b_X_setBit 33 = .ok (.lload 4, 2) := by decide +kernel
theorem d_X_setBit_35 : decode b_X_setBit 35 = .ok (.lor, 1) := by decide +kernel
theorem d_X_setBit_36 : decode b_X_setBit 36 = .ok (.goto 17, 3) := by decide +kernel
theorem d_X_setBit_39 : decode b_X_setBit 39 = .ok (.aload_n 0, 1) := by decide +kernel
theorem d_X_setBit_40 : decode b_X_setBit 40 = .ok (.getfield 9, 3) := by decide +kernel
theorem d_X_setBit_43 : decode b_X_setBit 43 = .ok (.iload 6, 2) := by decide +kernel
theorem d_X_setBit_45 : decode b_X_setBit 45 = .ok (.laload, 1) := by decide +kernel
theorem d_X_setBit_46 : decode b_X_setBit 46 = .ok (.lload 4, 2) := by decide +kernel
theorem d_X_setBit_48 : decode b_X_setBit 48 = .ok (.ldc2_w 127, 3) := by decide +kernel
theorem d_X_setBit_51 : decode b_X_setBit 51 = .ok (.lxor, 1) := by decide +kernel
theorem d_X_setBit_52 : decode b_X_setBit 52 = .ok (.land, 1) := by decide +kernel
theorem d_X_setBit_53 : decode b_X_setBit 53 = .ok (.lastore, 1) := by decide +kernel
theorem d_X_setBit_54 : decode b_X_setBit 54 = .ok (.return_, 1) := by decide +kernel
theorem d_X_putRange_0 : decode b_X_putRange 0 = .ok (.lload 5, 2) := by decide +kernel
theorem d_X_putRange_2 : decode b_X_putRange 2 = .ok (.lload_n 1, 1) := by decide +kernel
theorem d_X_putRange_3 : decode b_X_putRange 3 = .ok (.lcmp, 1) := by decide +kernel
theorem d_X_putRange_4 : decode b_X_putRange 4 = .ok (.ifCond .lt 10, 3) := by decide +kernel
theorem d_X_putRange_7 : decode b_X_putRange 7 = .ok (.lload 5, 2) := by decide +kernel
theorem d_X_putRange_9 : decode b_X_putRange 9 = .ok (.lload_n 3, 1) := by decide +kernel
theorem d_X_putRange_10 : decode b_X_putRange 10 = .ok (.lcmp, 1) := by decide +kernel
theorem d_X_putRange_11 : decode b_X_putRange 11 = .ok (.ifCond .le 13, 3) := by decide +kernel
theorem d_X_putRange_14 : decode b_X_putRange 14 = .ok (.new 31, 3) := by decide +kernel
theorem d_X_putRange_17 : decode b_X_putRange 17 = .ok (.dup, 1) := by decide +kernel
theorem d_X_putRange_18 : decode b_X_putRange 18 = .ok (.ldc 33, 2) := by decide +kernel
theorem d_X_putRange_20 : decode b_X_putRange 20 = .ok (.invokespecial 35, 3) := by decide +kernel
theorem d_X_putRange_23 : decode b_X_putRange 23 = .ok (.athrow, 1) := by decide +kernel
theorem d_X_putRange_24 : decode b_X_putRange 24 = .ok (.lload_n 3, 1) := by decide +kernel
theorem d_X_putRange_25 : decode b_X_putRange 25 = .ok (.lload_n 1, 1) := by decide +kernel
theorem d_X_putRange_26 : decode b_X_putRange 26 = .ok (.lsub, 1) := by decide +kernel
theorem d_X_putRange_27 : decode b_X_putRange 27 = .ok (.invokestatic 38, 3) := by decide +kernel
theorem d_X_putRange_30 : decode b_X_putRange 30 = .ok (.istore 7, 2) := by decide +kernel
theorem d_X_putRange_32 : decode b_X_putRange 32 = .ok (.aload_n 0, 1) := by decide +kernel
theorem d_X_putRange_33 : decode b_X_putRange 33 = .ok (.iload 7, 2) := by decide +kernel
theorem d_X_putRange_35 : decode b_X_putRange 35 = .ok (.invokevirtual 24, 3) := by decide +kernel
theorem d_X_putRange_38 : decode b_X_putRange 38 = .ok (.aload_n 0, 1) := by decide +kernel
theorem d_X_putRange_39 : decode b_X_putRange 39 = .ok (.lload 5, 2) := by decide +kernel
theorem d_X_putRange_41 : decode b_X_putRange 41 = .ok (.lload_n 1, 1) := by decide +kernel
theorem d_X_putRange_42 : decode b_X_putRange 42 = .ok (.lsub, 1) := by decide +kernel
theorem d_X_putRange_43 : decode b_X_putRange 43 = .ok (.iload 7, 2) := by decide +kernel
theorem d_X_putRange_45 : decode b_X_putRange 45 = .ok (.invokevirtual 27, 3) := by decide +kernel
theorem d_X_putRange_48 : decode b_X_putRange 48 = .ok (.aload_n 0, 1) := by decide +kernel
theorem d_X_putRange_49 : decode b_X_putRange 49 = .ok (.getfield 13, 3) := by decide +kernel
theorem d_X_putRange_52 : decode b_X_putRange 52 = .ok (.ireturn, 1) := by decide +kernel
theorem d_X_bitsToHold_0 : decode b_X_bitsToHold 0 = .ok (.bipush 64, 2) := by decide +kernel
theorem d_X_bitsToHold_2 : decode b_X_bitsToHold 2 = .ok (.lload_n 0, 1) := by decide +kernel
theorem d_X_bitsToHold_3 : decode b_X_bitsToHold 3 = .ok (.invokestatic 149, 3) := by decide +kernel
theorem d_X_bitsToHold_6 : decode b_X_bitsToHold 6 = .ok (.isub, 1) := by decide +kernel
theorem d_X_bitsToHold_7 : decode b_X_bitsToHold 7 = .ok (.ireturn, 1) := by decide +kernel
theorem d_X_putLength_0 : decode b_X_putLength 0 = .ok (.iload_n 1, 1) := by decide +kernel
theorem d_X_putLength_1 : decode b_X_putLength 1 = .ok (.ifCond .ge 13, 3) := by decide +kernel
theorem d_X_putLength_4 : decode b_X_putLength 4 = .ok (.new 31, 3) := by decide +kernel
theorem d_X_putLength_7 : decode b_X_putLength 7 = .ok (.dup, 1) := by decide +kernel
theorem d_X_putLength_8 : decode b_X_putLength 8 = .ok (.ldc 42, 2) := by decide +kernel
theorem d_X_putLength_10 : decode b_X_putLength 10 = .ok (.invokespecial 35, 3) := by decide +kernel
theorem d_X_putLength_13 : decode b_X_putLength 13 = .ok (.athrow, 1) := by decide +kernel
theorem d_X_putLength_14 : decode b_X_putLength 14 = .ok (.iload_n 1, 1) := by decide +kernel
theorem d_X_putLength_15 : decode b_X_putLength 15 = .ok (.sipush 16384, 3) := by decide +kernel
theorem d_X_putLength_18 : decode b_X_putLength 18 = .ok (.if_icmp .ge 7, 3) := by decide +kernel
theorem d_X_putLength_21 : decode b_X_putLength 21 = .ok (.iload_n 1, 1) := by decide +kernel
theorem d_X_putLength_22 : decode b_X_putLength 22 = .ok (.goto 16, 3) := by decide +kernel
theorem d_X_putLength_25 : decode b_X_putLength 25 = .ok (.iload_n 1, 1) := by decide +kernel
theorem d_X_putLength_26 : decode b_X_putLength 26 = .ok (.sipush 16384, 3) := by decide +kernel
theorem d_X_putLength_29 : decode b_X_putLength 29 = .ok (.idiv, 1) := by decide +kernel
theorem d_X_putLength_30 : decode b_X_putLength 30 = .ok (.iconst 4, 1) := by decide +kernel
theorem d_X_putLength_31 : decode b_X_putLength 31 = .ok (.invokestatic 44, 3) := by decide +kernel
theorem d_X_putLength_34 : decode b_X_putLength 34 = .ok (.sipush 16384, 3) := by decide +kernel
theorem d_X_putLength_37 : decode b_X_putLength 37 = .ok (.imul, 1) := by decide +kernel
theorem d_X_putLength_38 : decode b_X_putLength 38 = .ok (.istore_n 2, 1) := by decide +kernel
theorem d_X_putLength_39 : decode b_X_putLength 39 = .ok (.aload_n 0, 1) := by decide +kernel
theorem d_X_putLength_40 : decode b_X_putLength 40 = .ok (.iload_n 2, 1) := by decide +kernel
theorem d_X_putLength_41 : decode b_X_putLength 41 = .ok (.invokestatic 50, 3) := by decide +kernel
theorem d_X_putLength_44 : decode b_X_putLength 44 = .ok (.invokevirtual 24, 3) := by decide +kernel
theorem d_X_putLength_47 : decode b_X_putLength 47 = .ok (.aload_n 0, 1) := by decide +kernel
theorem d_X_putLength_48 : decode b_X_putLength 48 = .ok (.iload_n 2, 1) := by decide +kernel
theorem d_X_putLength_49 : decode b_X_putLength 49 = .ok (.invokestatic 54, 3) := by decide +kernel
theorem d_X_putLength_52 : decode b_X_putLength 52 = .ok (.i2l, 1) := by decide +kernel
theorem d_X_putLength_53 : decode b_X_putLength 53 = .ok (.iload_n 2, 1) := by decide +kernel
theorem d_X_putLength_54 : decode b_X_putLength 54 = .ok (.invokestatic 50, 3) := by decide +kernel
theorem d_X_putLength_57 : decode b_X_putLength 57 = .ok (.invokevirtual 27, 3) := by decide +kernel
theorem d_X_putLength_60 : decode b_X_putLength 60 = .ok (.iload_n 2, 1) := by decide +kernel
theorem d_X_putLength_61 : decode b_X_putLength 61 = .ok (.ireturn, 1) := by decide +kernel
theorem d_X_lengthWidth_0 : decode b_X_lengthWidth 0 = .ok (.iload_n 0, 1) := by decide +kernel
theorem d_X_lengthWidth_1 : decode b_X_lengthWidth 1 = .ok (.sipush 128, 3) := by decide +kernel
theorem d_X_lengthWidth_4 : decode b_X_lengthWidth 4 = .ok (.if_icmp .lt 15, 3) := by decide +kernel
theorem d_X_lengthWidth_7 : decode b_X_lengthWidth 7 = .ok (.iload_n 0, 1) := by decide +kernel
theorem d_X_lengthWidth_8 : decode b_X_lengthWidth 8 = .ok (.sipush 16384, 3) := by decide +kernel
theorem d_X_lengthWidth_11 : decode b_X_lengthWidth 11 = .ok (.if_icmp .ge 8, 3) := by decide +kernel
theorem d_X_lengthWidth_14 : decode b_X_lengthWidth 14 = .ok (.bipush 16, 2) := by decide +kernel
theorem d_X_lengthWidth_16 : decode b_X_lengthWidth 16 = .ok (.goto 5, 3) := by decide +kernel
theorem d_X_lengthWidth_19 : decode b_X_lengthWidth 19 = .ok (.bipush 8, 2) := by decide +kernel
theorem d_X_lengthWidth_21 : decode b_X_lengthWidth 21 = .ok (.ireturn, 1) := by decide +kernel
theorem d_X_lengthCode_0 : decode b_X_lengthCode 0 = .ok (.iload_n 0, 1) := by decide +kernel
theorem d_X_lengthCode_1 : decode b_X_lengthCode 1 = .ok (.sipush 128, 3) := by decide +kernel
theorem d_X_lengthCode_4 : decode b_X_lengthCode 4 = .ok (.if_icmp .ge 5, 3) := by decide +kernel
theorem d_X_lengthCode_7 : decode b_X_lengthCode 7 = .ok (.iload_n 0, 1) := by decide +kernel
theorem d_X_lengthCode_8 : decode b_X_lengthCode 8 = .ok (.ireturn, 1) := by decide +kernel
theorem d_X_lengthCode_9 : decode b_X_lengthCode 9 = .ok (.iload_n 0, 1) := by decide +kernel
theorem d_X_lengthCode_10 : decode b_X_lengthCode 10 = .ok (.sipush 16384, 3) := by decide +kernel
theorem d_X_lengthCode_13 : decode b_X_lengthCode 13 = .ok (.if_icmp .ge 10, 3) := by decide +kernel
theorem d_X_lengthCode_16 : decode b_X_lengthCode 16 = .ok (.ldc 155, 2) := by decide +kernel
theorem d_X_lengthCode_18 : decode b_X_lengthCode 18 = .ok (.iload_n 0, 1) := by decide +kernel
theorem d_X_lengthCode_19 : decode b_X_lengthCode 19 = .ok (.ior, 1) := by decide +kernel
theorem d_X_lengthCode_20 : decode b_X_lengthCode 20 = .ok (.goto 12, 3) := by decide +kernel
theorem d_X_lengthCode_23 : decode b_X_lengthCode 23 = .ok (.sipush 192, 3) := by decide +kernel
theorem d_X_lengthCode_26 : decode b_X_lengthCode 26 = .ok (.iload_n 0, 1) := by decide +kernel
theorem d_X_lengthCode_27 : decode b_X_lengthCode 27 = .ok (.sipush 16384, 3) := by decide +kernel
theorem d_X_lengthCode_30 : decode b_X_lengthCode 30 = .ok (.idiv, 1) := by decide +kernel
theorem d_X_lengthCode_31 : decode b_X_lengthCode 31 = .ok (.ior, 1) := by decide +kernel
theorem d_X_lengthCode_32 : decode b_X_lengthCode 32 = .ok (.ireturn, 1) := by decide +kernel
theorem d_X_putNumber_0 : decode b_X_putNumber 0 = .ok (.iload_n 1, 1) := by decide +kernel
theorem d_X_putNumber_1 : decode b_X_putNumber 1 = .ok (.invokestatic 57, 3) := by decide +kernel
theorem d_X_putNumber_4 : decode b_X_putNumber 4 = .ok (.iload_n 1, 1) := by decide +kernel
theorem d_X_putNumber_5 : decode b_X_putNumber 5 = .ok (.iconst 2, 1) := by decide +kernel
theorem d_X_putNumber_6 : decode b_X_putNumber 6 = .ok (.if_icmp .ne 26, 3) := by decide +kernel
theorem d_X_putNumber_9 : decode b_X_putNumber 9 = .ok (.lload_n 2, 1) := by decide +kernel
theorem d_X_putNumber_10 : decode b_X_putNumber 10 = .ok (.invokestatic 60, 3) := by decide +kernel
theorem d_X_putNumber_13 : decode b_X_putNumber 13 = .ok (.ifCond .eq 19, 3) := by decide +kernel
theorem d_X_putNumber_16 : decode b_X_putNumber 16 = .ok (.aload_n 0, 1) := by decide +kernel
theorem d_X_putNumber_17 : decode b_X_putNumber 17 = .ok (.bipush 7, 2) := by decide +kernel
theorem d_X_putNumber_19 : decode b_X_putNumber 19 = .ok (.invokevirtual 24, 3) := by decide +kernel
theorem d_X_putNumber_22 : decode b_X_putNumber 22 = .ok (.aload_n 0, 1) := by decide +kernel
theorem d_X_putNumber_23 : decode b_X_putNumber 23 = .ok (.lload_n 2, 1) := by decide +kernel
theorem d_X_putNumber_24 : decode b_X_putNumber 24 = .ok (.bipush 7, 2) := by decide +kernel
theorem d_X_putNumber_26 : decode b_X_putNumber 26 = .ok (.invokevirtual 27, 3) := by decide +kernel
theorem d_X_putNumber_29 : decode b_X_putNumber 29 = .ok (.goto 9, 3) := by decide +kernel
theorem d_X_putNumber_32 : decode b_X_putNumber 32 = .ok (.aload_n 0, 1) := by decide +kernel
theorem d_X_putNumber_33 : decode b_X_putNumber 33 = .ok (.iload_n 1, 1) := by decide +kernel
theorem d_X_putNumber_34 : decode b_X_putNumber 34 = .ok (.lload_n 2, 1) := by decide +kernel
theorem d_X_putNumber_35 : decode b_X_putNumber 35 = .ok (.invokevirtual 64, 3) := by decide +kernel
theorem d_X_putNumber_38 : decode b_X_putNumber 38 = .ok (.aload_n 0, 1) := by decide +kernel
theorem d_X_putNumber_39 : decode b_X_putNumber 39 = .ok (.getfield 13, 3) := by decide +kernel
theorem d_X_putNumber_42 : decode b_X_putNumber 42 = .ok (.ireturn, 1) := by decide +kernel
theorem d_X_requireKind_0 : decode b_X_requireKind 0 = .ok (.iload_n 0, 1) := by decide +kernel
theorem d_X_requireKind_1 : decode b_X_requireKind 1 = .ok (.ifCond .lt 8, 3) := by decide +kernel
theorem d_X_requireKind_4 : decode b_X_requireKind 4 = .ok (.iload_n 0, 1) := by decide +kernel
theorem d_X_requireKind_5 : decode b_X_requireKind 5 = .ok (.iconst 2, 1) := by decide +kernel
theorem d_X_requireKind_6 : decode b_X_requireKind 6 = .ok (.if_icmp .le 13, 3) := by decide +kernel
theorem d_X_requireKind_9 : decode b_X_requireKind 9 = .ok (.new 31, 3) := by decide +kernel
theorem d_X_requireKind_12 : decode b_X_requireKind 12 = .ok (.dup, 1) := by decide +kernel
theorem d_X_requireKind_13 : decode b_X_requireKind 13 = .ok (.ldc 114, 2) := by decide +kernel
theorem d_X_requireKind_15 : decode b_X_requireKind 15 = .ok (.invokespecial 35, 3) := by decide +kernel
theorem d_X_requireKind_18 : decode b_X_requireKind 18 = .ok (.athrow, 1) := by decide +kernel
theorem d_X_requireKind_19 : decode b_X_requireKind 19 = .ok (.return_, 1) := by decide +kernel
theorem d_X_isSmall_0 : decode b_X_isSmall 0 = .ok (.lload_n 0, 1) := by decide +kernel
theorem d_X_isSmall_1 : decode b_X_isSmall 1 = .ok (.lconst 0, 1) := by decide +kernel
theorem d_X_isSmall_2 : decode b_X_isSmall 2 = .ok (.lcmp, 1) := by decide +kernel
theorem d_X_isSmall_3 : decode b_X_isSmall 3 = .ok (.ifCond .lt 15, 3) := by decide +kernel
theorem d_X_isSmall_6 : decode b_X_isSmall 6 = .ok (.lload_n 0, 1) := by decide +kernel
theorem d_X_isSmall_7 : decode b_X_isSmall 7 = .ok (.ldc2_w 147, 3) := by decide +kernel
theorem d_X_isSmall_10 : decode b_X_isSmall 10 = .ok (.lcmp, 1) := by decide +kernel
theorem d_X_isSmall_11 : decode b_X_isSmall 11 = .ok (.ifCond .ge 7, 3) := by decide +kernel
theorem d_X_isSmall_14 : decode b_X_isSmall 14 = .ok (.iconst 1, 1) := by decide +kernel
theorem d_X_isSmall_15 : decode b_X_isSmall 15 = .ok (.goto 4, 3) := by decide +kernel
theorem d_X_isSmall_18 : decode b_X_isSmall 18 = .ok (.iconst 0, 1) := by decide +kernel
theorem d_X_isSmall_19 : decode b_X_isSmall 19 = .ok (.ireturn, 1) := by decide +kernel
theorem d_X_appendNumber_0 : decode b_X_appendNumber 0 = .ok (.iload_n 1, 1) := by decide +kernel
theorem d_X_appendNumber_1 : decode b_X_appendNumber 1 = .ok (.lload_n 2, 1) := by decide +kernel
theorem d_X_appendNumber_2 : decode b_X_appendNumber 2 = .ok (.invokestatic 124, 3) := by decide +kernel
theorem d_X_appendNumber_5 : decode b_X_appendNumber 5 = .ok (.istore 4, 2) := by decide +kernel
theorem d_X_appendNumber_7 : decode b_X_appendNumber 7 = .ok (.aload_n 0, 1) := by decide +kernel
theorem d_X_appendNumber_8 : decode b_X_appendNumber 8 = .ok (.iload_n 1, 1) := by decide +kernel
theorem d_X_appendNumber_9 : decode b_X_appendNumber 9 = .ok (.lload_n 2, 1) := by decide +kernel
theorem d_X_appendNumber_10 : decode b_X_appendNumber 10 = .ok (.invokestatic 95, 3) := by decide +kernel
theorem d_X_appendNumber_13 : decode b_X_appendNumber 13 = .ok (.invokevirtual 24, 3) := by decide +kernel
theorem d_X_appendNumber_16 : decode b_X_appendNumber 16 = .ok (.aload_n 0, 1) := by decide +kernel
theorem d_X_appendNumber_17 : decode b_X_appendNumber 17 = .ok (.lconst 1, 1) := by decide +kernel
theorem d_X_appendNumber_18 : decode b_X_appendNumber 18 = .ok (.iload_n 1, 1) := by decide +kernel
theorem d_X_appendNumber_19 : decode b_X_appendNumber 19 = .ok (.iconst 2, 1) := by decide +kernel
theorem d_X_appendNumber_20 : decode b_X_appendNumber 20 = .ok (.if_icmp .ne 7, 3) := by decide +kernel
theorem d_X_appendNumber_23 : decode b_X_appendNumber 23 = .ok (.iconst 1, 1) := by decide +kernel
theorem d_X_appendNumber_24 : decode b_X_appendNumber 24 = .ok (.goto 4, 3) := by decide +kernel
theorem d_X_appendNumber_27 : decode b_X_appendNumber 27 = .ok (.iconst 0, 1) := by decide +kernel
theorem d_X_appendNumber_28 : decode b_X_appendNumber 28 = .ok (.invokevirtual 27, 3) := by decide +kernel
theorem d_X_appendNumber_31 : decode b_X_appendNumber 31 = .ok (.aload_n 0, 1) := by decide +kernel
theorem d_X_appendNumber_32 : decode b_X_appendNumber 32 = .ok (.iload 4, 2) := by decide +kernel
theorem d_X_appendNumber_34 : decode b_X_appendNumber 34 = .ok (.invokestatic 54, 3) := by decide +kernel
theorem d_X_appendNumber_37 : decode b_X_appendNumber 37 = .ok (.i2l, 1) := by decide +kernel
theorem d_X_appendNumber_38 : decode b_X_appendNumber 38 = .ok (.iload 4, 2) := by decide +kernel
theorem d_X_appendNumber_40 : decode b_X_appendNumber 40 = .ok (.invokestatic 50, 3) := by decide +kernel
theorem d_X_appendNumber_43 : decode b_X_appendNumber 43 = .ok (.invokevirtual 27, 3) := by decide +kernel
theorem d_X_appendNumber_46 : decode b_X_appendNumber 46 = .ok (.aload_n 0, 1) := by decide +kernel
theorem d_X_appendNumber_47 : decode b_X_appendNumber 47 = .ok (.lload_n 2, 1) := by decide +kernel
theorem d_X_appendNumber_48 : decode b_X_appendNumber 48 = .ok (.iload 4, 2) := by decide +kernel
theorem d_X_appendNumber_50 : decode b_X_appendNumber 50 = .ok (.bipush 8, 2) := by decide +kernel
theorem d_X_appendNumber_52 : decode b_X_appendNumber 52 = .ok (.imul, 1) := by decide +kernel
theorem d_X_appendNumber_53 : decode b_X_appendNumber 53 = .ok (.invokevirtual 27, 3) := by decide +kernel
theorem d_X_appendNumber_56 : decode b_X_appendNumber 56 = .ok (.return_, 1) := by decide +kernel
theorem d_X_bytesToHold_0 : decode b_X_bytesToHold 0 = .ok (.iload_n 0, 1) := by decide +kernel
theorem d_X_bytesToHold_1 : decode b_X_bytesToHold 1 = .ok (.iconst 1, 1) := by decide +kernel
theorem d_X_bytesToHold_2 : decode b_X_bytesToHold 2 = .ok (.if_icmp .ne 26, 3) := by decide +kernel
theorem d_X_bytesToHold_5 : decode b_X_bytesToHold 5 = .ok (.iconst 1, 1) := by decide +kernel
theorem d_X_bytesToHold_6 : decode b_X_bytesToHold 6 = .ok (.lload_n 1, 1) := by decide +kernel
theorem d_X_bytesToHold_7 : decode b_X_bytesToHold 7 = .ok (.lconst 0, 1) := by decide +kernel
theorem d_X_bytesToHold_8 : decode b_X_bytesToHold 8 = .ok (.lcmp, 1) := by decide +kernel
theorem d_X_bytesToHold_9 : decode b_X_bytesToHold 9 = .ok (.ifCond .ge 11, 3) := by decide +kernel
theorem d_X_bytesToHold_12 : decode b_X_bytesToHold 12 = .ok (.lload_n 1, 1) := by decide +kernel
theorem d_X_bytesToHold_13 : decode b_X_bytesToHold 13 = .ok (.ldc2_w 127, 3) := by decide +kernel
theorem d_X_bytesToHold_16 : decode b_X_bytesToHold 16 = .ok (.lxor, 1) := by decide +kernel
theorem d_X_bytesToHold_17 : decode b_X_bytesToHold 17 = .ok (.goto 4, 3) := by decide +kernel
theorem d_X_bytesToHold_20 : decode b_X_bytesToHold 20 = .ok (.lload_n 1, 1) := by decide +kernel
theorem d_X_bytesToHold_21 : decode b_X_bytesToHold 21 = .ok (.invokestatic 38, 3) := by decide +kernel
theorem d_X_bytesToHold_24 : decode b_X_bytesToHold 24 = .ok (.iadd, 1) := by decide +kernel
theorem d_X_bytesToHold_25 : decode b_X_bytesToHold 25 = .ok (.goto 7, 3) := by decide +kernel
theorem d_X_bytesToHold_28 : decode b_X_bytesToHold 28 = .ok (.lload_n 1, 1) := by decide +kernel
theorem d_X_bytesToHold_29 : decode b_X_bytesToHold 29 = .ok (.invokestatic 38, 3) := by decide +kernel
theorem d_X_bytesToHold_32 : decode b_X_bytesToHold 32 = .ok (.istore_n 3, 1) := by decide +kernel
theorem d_X_bytesToHold_33 : decode b_X_bytesToHold 33 = .ok (.iconst 1, 1) := by decide +kernel
theorem d_X_bytesToHold_34 : decode b_X_bytesToHold 34 = .ok (.iload_n 3, 1) := by decide +kernel
theorem d_X_bytesToHold_35 : decode b_X_bytesToHold 35 = .ok (.bipush 8, 2) := by decide +kernel
theorem d_X_bytesToHold_37 : decode b_X_bytesToHold 37 = .ok (.iadd, 1) := by decide +kernel
theorem d_X_bytesToHold_38 : decode b_X_bytesToHold 38 = .ok (.iconst 1, 1) := by decide +kernel
theorem d_X_bytesToHold_39 : decode b_X_bytesToHold 39 = .ok (.isub, 1) := by decide +kernel
theorem d_X_bytesToHold_40 : decode b_X_bytesToHold 40 = .ok (.bipush 8, 2) := by decide +kernel
theorem d_X_bytesToHold_42 : decode b_X_bytesToHold 42 = .ok (.idiv, 1) := by decide +kernel
theorem d_X_bytesToHold_43 : decode b_X_bytesToHold 43 = .ok (.invokestatic 152, 3) := by decide +kernel
theorem d_X_bytesToHold_46 : decode b_X_bytesToHold 46 = .ok (.ireturn, 1) := by decide +kernel
theorem d_X_numberWidth_0 : decode b_X_numberWidth 0 = .ok (.iload_n 0, 1) := by decide +kernel
theorem d_X_numberWidth_1 : decode b_X_numberWidth 1 = .ok (.iconst 2, 1) := by decide +kernel
theorem d_X_numberWidth_2 : decode b_X_numberWidth 2 = .ok (.if_icmp .ne 13, 3) := by decide +kernel
theorem d_X_numberWidth_5 : decode b_X_numberWidth 5 = .ok (.lload_n 1, 1) := by decide +kernel
theorem d_X_numberWidth_6 : decode b_X_numberWidth 6 = .ok (.invokestatic 60, 3) := by decide +kernel
theorem d_X_numberWidth_9 : decode b_X_numberWidth 9 = .ok (.ifCond .eq 6, 3) := by decide +kernel
theorem d_X_numberWidth_12 : decode b_X_numberWidth 12 = .ok (.bipush 7, 2) := by decide +kernel
theorem d_X_numberWidth_14 : decode b_X_numberWidth 14 = .ok (.ireturn, 1) := by decide +kernel
theorem d_X_numberWidth_15 : decode b_X_numberWidth 15 = .ok (.iload_n 0, 1) := by decide +kernel
theorem d_X_numberWidth_16 : decode b_X_numberWidth 16 = .ok (.lload_n 1, 1) := by decide +kernel
theorem d_X_numberWidth_17 : decode b_X_numberWidth 17 = .ok (.invokestatic 124, 3) := by decide +kernel
theorem d_X_numberWidth_20 : decode b_X_numberWidth 20 = .ok (.istore_n 3, 1) := by decide +kernel
theorem d_X_numberWidth_21 : decode b_X_numberWidth 21 = .ok (.iload_n 0, 1) := by decide +kernel
theorem d_X_numberWidth_22 : decode b_X_numberWidth 22 = .ok (.iconst 2, 1) := by decide +kernel
theorem d_X_numberWidth_23 : decode b_X_numberWidth 23 = .ok (.if_icmp .ne 7, 3) := by decide +kernel
theorem d_X_numberWidth_26 : decode b_X_numberWidth 26 = .ok (.iconst 1, 1) := by decide +kernel
theorem d_X_numberWidth_27 : decode b_X_numberWidth 27 = .ok (.goto 4, 3) := by decide +kernel
theorem d_X_numberWidth_30 : decode b_X_numberWidth 30 = .ok (.iconst 0, 1) := by decide +kernel
theorem d_X_numberWidth_31 : decode b_X_numberWidth 31 = .ok (.iload_n 3, 1) := by decide +kernel
theorem d_X_numberWidth_32 : decode b_X_numberWidth 32 = .ok (.invokestatic 50, 3) := by decide +kernel
theorem d_X_numberWidth_35 : decode b_X_numberWidth 35 = .ok (.iadd, 1) := by decide +kernel
theorem d_X_numberWidth_36 : decode b_X_numberWidth 36 = .ok (.iload_n 3, 1) := by decide +kernel
theorem d_X_numberWidth_37 : decode b_X_numberWidth 37 = .ok (.bipush 8, 2) := by decide +kernel
theorem d_X_numberWidth_39 : decode b_X_numberWidth 39 = .ok (.imul, 1) := by decide +kernel
theorem d_X_numberWidth_40 : decode b_X_numberWidth 40 = .ok (.iadd, 1) := by decide +kernel
theorem d_X_numberWidth_41 : decode b_X_numberWidth 41 = .ok (.ireturn, 1) := by decide +kernel
theorem d_X_fill_0 : decode b_X_fill 0 = .ok (.aload_n 0, 1) := by decide +kernel
theorem d_X_fill_1 : decode b_X_fill 1 = .ok (.getfield 13, 3) := by decide +kernel
theorem d_X_fill_4 : decode b_X_fill 4 = .ok (.ifCond .ne 8, 3) := by decide +kernel
theorem d_X_fill_7 : decode b_X_fill 7 = .ok (.bipush 8, 2) := by decide +kernel
theorem d_X_fill_9 : decode b_X_fill 9 = .ok (.goto 16, 3) := by decide +kernel
theorem d_X_fill_12 : decode b_X_fill 12 = .ok (.bipush 8, 2) := by decide +kernel
theorem d_X_fill_14 : decode b_X_fill 14 = .ok (.aload_n 0, 1) := by decide +kernel
theorem d_X_fill_15 : decode b_X_fill 15 = .ok (.getfield 13, 3) := by decide +kernel
theorem d_X_fill_18 : decode b_X_fill 18 = .ok (.bipush 8, 2) := by decide +kernel
theorem d_X_fill_20 : decode b_X_fill 20 = .ok (.irem, 1) := by decide +kernel
theorem d_X_fill_21 : decode b_X_fill 21 = .ok (.isub, 1) := by decide +kernel
theorem d_X_fill_22 : decode b_X_fill 22 = .ok (.bipush 8, 2) := by decide +kernel
theorem d_X_fill_24 : decode b_X_fill 24 = .ok (.irem, 1) := by decide +kernel
theorem d_X_fill_25 : decode b_X_fill 25 = .ok (.istore_n 1, 1) := by decide +kernel
theorem d_X_fill_26 : decode b_X_fill 26 = .ok (.aload_n 0, 1) := by decide +kernel
theorem d_X_fill_27 : decode b_X_fill 27 = .ok (.iload_n 1, 1) := by decide +kernel
theorem d_X_fill_28 : decode b_X_fill 28 = .ok (.invokevirtual 24, 3) := by decide +kernel
theorem d_X_fill_31 : decode b_X_fill 31 = .ok (.aload_n 0, 1) := by decide +kernel
theorem d_X_fill_32 : decode b_X_fill 32 = .ok (.lconst 0, 1) := by decide +kernel
theorem d_X_fill_33 : decode b_X_fill 33 = .ok (.iload_n 1, 1) := by decide +kernel
theorem d_X_fill_34 : decode b_X_fill 34 = .ok (.invokevirtual 27, 3) := by decide +kernel
theorem d_X_fill_37 : decode b_X_fill 37 = .ok (.aload_n 0, 1) := by decide +kernel
theorem d_X_fill_38 : decode b_X_fill 38 = .ok (.getfield 13, 3) := by decide +kernel
theorem d_X_fill_41 : decode b_X_fill 41 = .ok (.ireturn, 1) := by decide +kernel
theorem d_X_take_0 : decode b_X_take 0 = .ok (.iload_n 1, 1) := by decide +kernel
theorem d_X_take_1 : decode b_X_take 1 = .ok (.invokestatic 20, 3) := by decide +kernel
theorem d_X_take_4 : decode b_X_take 4 = .ok (.aload_n 0, 1) := by decide +kernel
theorem d_X_take_5 : decode b_X_take 5 = .ok (.aload_n 0, 1) := by decide +kernel
theorem d_X_take_6 : decode b_X_take 6 = .ok (.getfield 17, 3) := by decide +kernel
theorem d_X_take_9 : decode b_X_take 9 = .ok (.iload_n 1, 1) := by decide +kernel
theorem d_X_take_10 : decode b_X_take 10 = .ok (.invokevirtual 68, 3) := by decide +kernel
theorem d_X_take_13 : decode b_X_take 13 = .ok (.lstore_n 2, 1) := by decide +kernel
theorem d_X_take_14 : decode b_X_take 14 = .ok (.aload_n 0, 1) := by decide +kernel
theorem d_X_take_15 : decode b_X_take 15 = .ok (.dup, 1) := by decide +kernel
theorem d_X_take_16 : decode b_X_take 16 = .ok (.getfield 17, 3) := by decide +kernel
theorem d_X_take_19 : decode b_X_take 19 = .ok (.iload_n 1, 1) := by decide +kernel
theorem d_X_take_20 : decode b_X_take 20 = .ok (.iadd, 1) := by decide +kernel
theorem d_X_take_21 : decode b_X_take 21 = .ok (.putfield 17, 3) := by decide +kernel
theorem d_X_take_24 : decode b_X_take 24 = .ok (.lload_n 2, 1) := by decide +kernel
theorem d_X_take_25 : decode b_X_take 25 = .ok (.lreturn, 1) := by decide +kernel
theorem d_X_bitsAt_0 : decode b_X_bitsAt 0 = .ok (.iload_n 2, 1) := by decide +kernel
theorem d_X_bitsAt_1 : decode b_X_bitsAt 1 = .ok (.aload_n 0, 1) := by decide +kernel
theorem d_X_bitsAt_2 : decode b_X_bitsAt 2 = .ok (.getfield 13, 3) := by decide +kernel
theorem d_X_bitsAt_5 : decode b_X_bitsAt 5 = .ok (.iload_n 1, 1) := by decide +kernel
theorem d_X_bitsAt_6 : decode b_X_bitsAt 6 = .ok (.isub, 1) := by decide +kernel
theorem d_X_bitsAt_7 : decode b_X_bitsAt 7 = .ok (.if_icmp .le 13, 3) := by decide +kernel
theorem d_X_bitsAt_10 : decode b_X_bitsAt 10 = .ok (.new 80, 3) := by decide +kernel
theorem d_X_bitsAt_13 : decode b_X_bitsAt 13 = .ok (.dup, 1) := by decide +kernel
theorem d_X_bitsAt_14 : decode b_X_bitsAt 14 = .ok (.ldc 129, 2) := by decide +kernel
theorem d_X_bitsAt_16 : decode b_X_bitsAt 16 = .ok (.invokespecial 84, 3) := by decide +kernel
theorem d_X_bitsAt_19 : decode b_X_bitsAt 19 = .ok (.athrow, 1) := by decide +kernel
theorem d_X_bitsAt_20 : decode b_X_bitsAt 20 = .ok (.lconst 0, 1) := by decide +kernel
theorem d_X_bitsAt_21 : decode b_X_bitsAt 21 = .ok (.lstore_n 3, 1) := by decide +kernel
theorem d_X_bitsAt_22 : decode b_X_bitsAt 22 = .ok (.iload_n 1, 1) := by decide +kernel
theorem d_X_bitsAt_23 : decode b_X_bitsAt 23 = .ok (.istore 5, 2) := by decide +kernel
theorem d_X_bitsAt_25 : decode b_X_bitsAt 25 = .ok (.iload 5, 2) := by decide +kernel
theorem d_X_bitsAt_27 : decode b_X_bitsAt 27 = .ok (.iload_n 1, 1) := by decide +kernel
theorem d_X_bitsAt_28 : decode b_X_bitsAt 28 = .ok (.iload_n 2, 1) := by decide +kernel
theorem d_X_bitsAt_29 : decode b_X_bitsAt 29 = .ok (.iadd, 1) := by decide +kernel
theorem d_X_bitsAt_30 : decode b_X_bitsAt 30 = .ok (.if_icmp .ge 20, 3) := by decide +kernel
theorem d_X_bitsAt_33 : decode b_X_bitsAt 33 = .ok (.lload_n 3, 1) := by decide +kernel
theorem d_X_bitsAt_34 : decode b_X_bitsAt 34 = .ok (.iconst 1, 1) := by decide +kernel
theorem d_X_bitsAt_35 : decode b_X_bitsAt 35 = .ok (.lshl, 1) := by decide +kernel
theorem d_X_bitsAt_36 : decode b_X_bitsAt 36 = .ok (.aload_n 0, 1) := by decide +kernel
theorem d_X_bitsAt_37 : decode b_X_bitsAt 37 = .ok (.iload 5, 2) := by decide +kernel
theorem d_X_bitsAt_39 : decode b_X_bitsAt 39 = .ok (.invokevirtual 104, 3) := by decide +kernel
theorem d_X_bitsAt_42 : decode b_X_bitsAt 42 = .ok (.lor, 1) := by decide +kernel
theorem d_X_bitsAt_43 : decode b_X_bitsAt 43 = .ok (.lstore_n 3, 1) := by decide +kernel
theorem d_X_bitsAt_44 : decode b_X_bitsAt 44 = .ok (.iinc 5 1, 3) := by decide +kernel
theorem d_X_bitsAt_47 : decode b_X_bitsAt 47 = .ok (.goto (-22), 3) := by decide +kernel
theorem d_X_bitsAt_50 : decode b_X_bitsAt 50 = .ok (.lload_n 3, 1) := by decide +kernel
theorem d_X_bitsAt_51 : decode b_X_bitsAt 51 = .ok (.lreturn, 1) := by decide +kernel
theorem d_X_bit_0 : decode b_X_bit 0 = .ok (.aload_n 0, 1) := by decide +kernel
theorem d_X_bit_1 : decode b_X_bit 1 = .ok (.getfield 9, 3) := by decide +kernel
theorem d_X_bit_4 : decode b_X_bit 4 = .ok (.iload_n 1, 1) := by decide +kernel
theorem d_X_bit_5 : decode b_X_bit 5 = .ok (.bipush 64, 2) := by decide +kernel
theorem d_X_bit_7 : decode b_X_bit 7 = .ok (.idiv, 1) := by decide +kernel
theorem d_X_bit_8 : decode b_X_bit 8 = .ok (.laload, 1) := by decide +kernel
theorem d_X_bit_9 : decode b_X_bit 9 = .ok (.iload_n 1, 1) := by decide +kernel
theorem d_X_bit_10 : decode b_X_bit 10 = .ok (.bipush 64, 2) := by decide +kernel
theorem d_X_bit_12 : decode b_X_bit 12 = .ok (.irem, 1) := by decide +kernel
theorem d_X_bit_13 : decode b_X_bit 13 = .ok (.lushr, 1) := by decide +kernel
theorem d_X_bit_14 : decode b_X_bit 14 = .ok (.lconst 1, 1) := by decide +kernel
theorem d_X_bit_15 : decode b_X_bit 15 = .ok (.land, 1) := by decide +kernel
theorem d_X_bit_16 : decode b_X_bit 16 = .ok (.lreturn, 1) := by decide +kernel
theorem d_X_takeRange_0 : decode b_X_takeRange 0 = .ok (.lload_n 1, 1) := by decide +kernel
theorem d_X_takeRange_1 : decode b_X_takeRange 1 = .ok (.lload_n 3, 1) := by decide +kernel
theorem d_X_takeRange_2 : decode b_X_takeRange 2 = .ok (.lcmp, 1) := by decide +kernel
theorem d_X_takeRange_3 : decode b_X_takeRange 3 = .ok (.ifCond .le 13, 3) := by decide +kernel
theorem d_X_takeRange_6 : decode b_X_takeRange 6 = .ok (.new 31, 3) := by decide +kernel
theorem d_X_takeRange_9 : decode b_X_takeRange 9 = .ok (.dup, 1) := by decide +kernel
theorem d_X_takeRange_10 : decode b_X_takeRange 10 = .ok (.ldc 72, 2) := by decide +kernel
theorem d_X_takeRange_12 : decode b_X_takeRange 12 = .ok (.invokespecial 35, 3) := by decide +kernel
theorem d_X_takeRange_15 : decode b_X_takeRange 15 = .ok (.athrow, 1) := by decide +kernel
theorem d_X_takeRange_16 : decode b_X_takeRange 16 = .ok (.lload_n 3, 1) := by decide +kernel
theorem d_X_takeRange_17 : decode b_X_takeRange 17 = .ok (.lload_n 1, 1) := by decide +kernel
theorem d_X_takeRange_18 : decode b_X_takeRange 18 = .ok (.lsub, 1) := by decide +kernel
theorem d_X_takeRange_19 : decode b_X_takeRange 19 = .ok (.invokestatic 38, 3) := by decide +kernel
theorem d_X_takeRange_22 : decode b_X_takeRange 22 = .ok (.istore 5, 2) := by decide +kernel
theorem d_X_takeRange_24 : decode b_X_takeRange 24 = .ok (.aload_n 0, 1) := by decide +kernel
theorem d_X_takeRange_25 : decode b_X_takeRange 25 = .ok (.aload_n 0, 1) := by decide +kernel
theorem d_X_takeRange_26 : decode b_X_takeRange 26 = .ok (.getfield 17, 3) := by decide +kernel
theorem d_X_takeRange_29 : decode b_X_takeRange 29 = .ok (.iload 5, 2) := by decide +kernel
theorem d_X_takeRange_31 : decode b_X_takeRange 31 = .ok (.invokevirtual 68, 3) := by decide +kernel
theorem d_X_takeRange_34 : decode b_X_takeRange 34 = .ok (.lstore 6, 2) := by decide +kernel
theorem d_X_takeRange_36 : decode b_X_takeRange 36 = .ok (.lload 6, 2) := by decide +kernel
theorem d_X_takeRange_38 : decode b_X_takeRange 38 = .ok (.lload_n 3, 1) := by decide +kernel
theorem d_X_takeRange_39 : decode b_X_takeRange 39 = .ok (.lload_n 1, 1) := by decide +kernel
theorem d_X_takeRange_40 : decode b_X_takeRange 40 = .ok (.lsub, 1) := by decide +kernel
theorem d_X_takeRange_41 : decode b_X_takeRange 41 = .ok (.invokestatic 74, 3) := by decide +kernel
theorem d_X_takeRange_44 : decode b_X_takeRange 44 = .ok (.ifCond .le 13, 3) := by decide +kernel
theorem d_X_takeRange_47 : decode b_X_takeRange 47 = .ok (.new 80, 3) := by decide +kernel
theorem d_X_takeRange_50 : decode b_X_takeRange 50 = .ok (.dup, 1) := by decide +kernel
theorem d_X_takeRange_51 : decode b_X_takeRange 51 = .ok (.ldc 82, 2) := by decide +kernel
theorem d_X_takeRange_53 : decode b_X_takeRange 53 = .ok (.invokespecial 84, 3) := by decide +kernel
theorem d_X_takeRange_56 : decode b_X_takeRange 56 = .ok (.athrow, 1) := by decide +kernel
theorem d_X_takeRange_57 : decode b_X_takeRange 57 = .ok (.aload_n 0, 1) := by decide +kernel
theorem d_X_takeRange_58 : decode b_X_takeRange 58 = .ok (.dup, 1) := by decide +kernel
theorem d_X_takeRange_59 : decode b_X_takeRange 59 = .ok (.getfield 17, 3) := by decide +kernel
theorem d_X_takeRange_62 : decode b_X_takeRange 62 = .ok (.iload 5, 2) := by decide +kernel
theorem d_X_takeRange_64 : decode b_X_takeRange 64 = .ok (.iadd, 1) := by decide +kernel
theorem d_X_takeRange_65 : decode b_X_takeRange 65 = .ok (.putfield 17, 3) := by decide +kernel
theorem d_X_takeRange_68 : decode b_X_takeRange 68 = .ok (.lload_n 1, 1) := by decide +kernel
theorem d_X_takeRange_69 : decode b_X_takeRange 69 = .ok (.lload 6, 2) := by decide +kernel
theorem d_X_takeRange_71 : decode b_X_takeRange 71 = .ok (.ladd, 1) := by decide +kernel
theorem d_X_takeRange_72 : decode b_X_takeRange 72 = .ok (.lreturn, 1) := by decide +kernel
theorem d_X_takeLength_0 : decode b_X_takeLength 0 = .ok (.aload_n 0, 1) := by decide +kernel
theorem d_X_takeLength_1 : decode b_X_takeLength 1 = .ok (.aload_n 0, 1) := by decide +kernel
theorem d_X_takeLength_2 : decode b_X_takeLength 2 = .ok (.getfield 17, 3) := by decide +kernel
theorem d_X_takeLength_5 : decode b_X_takeLength 5 = .ok (.invokevirtual 85, 3) := by decide +kernel
theorem d_X_takeLength_8 : decode b_X_takeLength 8 = .ok (.istore_n 1, 1) := by decide +kernel
theorem d_X_takeLength_9 : decode b_X_takeLength 9 = .ok (.aload_n 0, 1) := by decide +kernel
theorem d_X_takeLength_10 : decode b_X_takeLength 10 = .ok (.dup, 1) := by decide +kernel
theorem d_X_takeLength_11 : decode b_X_takeLength 11 = .ok (.getfield 17, 3) := by decide +kernel
theorem d_X_takeLength_14 : decode b_X_takeLength 14 = .ok (.iload_n 1, 1) := by decide +kernel
theorem d_X_takeLength_15 : decode b_X_takeLength 15 = .ok (.invokestatic 50, 3) := by decide +kernel
theorem d_X_takeLength_18 : decode b_X_takeLength 18 = .ok (.iadd, 1) := by decide +kernel
theorem d_X_takeLength_19 : decode b_X_takeLength 19 = .ok (.putfield 17, 3) := by decide +kernel
theorem d_X_takeLength_22 : decode b_X_takeLength 22 = .ok (.iload_n 1, 1) := by decide +kernel
theorem d_X_takeLength_23 : decode b_X_takeLength 23 = .ok (.ireturn, 1) := by decide +kernel
theorem d_X_lengthAt_0 : decode b_X_lengthAt 0 = .ok (.aload_n 0, 1) := by decide +kernel
theorem d_X_lengthAt_1 : decode b_X_lengthAt 1 = .ok (.iload_n 1, 1) := by decide +kernel
theorem d_X_lengthAt_2 : decode b_X_lengthAt 2 = .ok (.iconst 1, 1) := by decide +kernel
theorem d_X_lengthAt_3 : decode b_X_lengthAt 3 = .ok (.invokevirtual 68, 3) := by decide +kernel
theorem d_X_lengthAt_6 : decode b_X_lengthAt 6 = .ok (.lconst 0, 1) := by decide +kernel
theorem d_X_lengthAt_7 : decode b_X_lengthAt 7 = .ok (.lcmp, 1) := by decide +kernel
theorem d_X_lengthAt_8 : decode b_X_lengthAt 8 = .ok (.ifCond .ne 14, 3) := by decide +kernel
theorem d_X_lengthAt_11 : decode b_X_lengthAt 11 = .ok (.aload_n 0, 1) := by decide +kernel
theorem d_X_lengthAt_12 : decode b_X_lengthAt 12 = .ok (.iload_n 1, 1) := by decide +kernel
theorem d_X_lengthAt_13 : decode b_X_lengthAt 13 = .ok (.iconst 1, 1) := by decide +kernel
theorem d_X_lengthAt_14 : decode b_X_lengthAt 14 = .ok (.iadd, 1) := by decide +kernel
theorem d_X_lengthAt_15 : decode b_X_lengthAt 15 = .ok (.bipush 7, 2) := by decide +kernel
theorem d_X_lengthAt_17 : decode b_X_lengthAt 17 = .ok (.invokevirtual 68, 3) := by decide +kernel
theorem d_X_lengthAt_20 : decode b_X_lengthAt 20 = .ok (.l2i, 1) := by decide +kernel
theorem d_X_lengthAt_21 : decode b_X_lengthAt 21 = .ok (.ireturn, 1) := by decide +kernel
theorem d_X_lengthAt_22 : decode b_X_lengthAt 22 = .ok (.aload_n 0, 1) := by decide +kernel
theorem d_X_lengthAt_23 : decode b_X_lengthAt 23 = .ok (.iload_n 1, 1) := by decide +kernel
theorem d_X_lengthAt_24 : decode b_X_lengthAt 24 = .ok (.iconst 1, 1) := by decide +kernel
theorem d_X_lengthAt_25 : decode b_X_lengthAt 25 = .ok (.iadd, 1) := by decide +kernel
theorem d_X_lengthAt_26 : decode b_X_lengthAt 26 = .ok (.iconst 1, 1) := by decide +kernel
theorem d_X_lengthAt_27 : decode b_X_lengthAt 27 = .ok (.invokevirtual 68, 3) := by decide +kernel
theorem d_X_lengthAt_30 : decode b_X_lengthAt 30 = .ok (.lconst 0, 1) := by decide +kernel
theorem d_X_lengthAt_31 : decode b_X_lengthAt 31 = .ok (.lcmp, 1) := by decide +kernel
theorem d_X_lengthAt_32 : decode b_X_lengthAt 32 = .ok (.ifCond .ne 13, 3) := by decide +kernel
theorem d_X_lengthAt_35 : decode b_X_lengthAt 35 = .ok (.aload_n 0, 1) := by decide +kernel
theorem d_X_lengthAt_36 : decode b_X_lengthAt 36 = .ok (.iload_n 1, 1) := by decide +kernel
theorem d_X_lengthAt_37 : decode b_X_lengthAt 37 = .ok (.iconst 2, 1) := by decide +kernel
theorem d_X_lengthAt_38 : decode b_X_lengthAt 38 = .ok (.iadd, 1) := by decide +kernel
theorem d_X_lengthAt_39 : decode b_X_lengthAt 39 = .ok (.invokevirtual 131, 3) := by decide +kernel
theorem d_X_lengthAt_42 : decode b_X_lengthAt 42 = .ok (.goto 10, 3) := by decide +kernel
theorem d_X_lengthAt_45 : decode b_X_lengthAt 45 = .ok (.aload_n 0, 1) := by decide +kernel
theorem d_X_lengthAt_46 : decode b_X_lengthAt 46 = .ok (.iload_n 1, 1) := by decide +kernel
theorem d_X_lengthAt_47 : decode b_X_lengthAt 47 = .ok (.iconst 2, 1) := by decide +kernel
theorem d_X_lengthAt_48 : decode b_X_lengthAt 48 = .ok (.iadd, 1) := by decide +kernel
theorem d_X_lengthAt_49 : decode b_X_lengthAt 49 = .ok (.invokevirtual 134, 3) := by decide +kernel
theorem d_X_lengthAt_52 : decode b_X_lengthAt 52 = .ok (.ireturn, 1) := by decide +kernel
theorem d_X_longLengthAt_0 : decode b_X_longLengthAt 0 = .ok (.aload_n 0, 1) := by decide +kernel
theorem d_X_longLengthAt_1 : decode b_X_longLengthAt 1 = .ok (.iload_n 1, 1) := by decide +kernel
theorem d_X_longLengthAt_2 : decode b_X_longLengthAt 2 = .ok (.bipush 14, 2) := by decide +kernel
theorem d_X_longLengthAt_4 : decode b_X_longLengthAt 4 = .ok (.invokevirtual 68, 3) := by decide +kernel
theorem d_X_longLengthAt_7 : decode b_X_longLengthAt 7 = .ok (.l2i, 1) := by decide +kernel
theorem d_X_longLengthAt_8 : decode b_X_longLengthAt 8 = .ok (.istore_n 2, 1) := by decide +kernel
theorem d_X_longLengthAt_9 : decode b_X_longLengthAt 9 = .ok (.iload_n 2, 1) := by decide +kernel
theorem d_X_longLengthAt_10 : decode b_X_longLengthAt 10 = .ok (.sipush 128, 3) := by decide +kernel
theorem d_X_longLengthAt_13 : decode b_X_longLengthAt 13 = .ok (.if_icmp .ge 13, 3) := by decide +kernel
theorem d_X_longLengthAt_16 : decode b_X_longLengthAt 16 = .ok (.new 80, 3) := by decide +kernel
theorem d_X_longLengthAt_19 : decode b_X_longLengthAt 19 = .ok (.dup, 1) := by decide +kernel
theorem d_X_longLengthAt_20 : decode b_X_longLengthAt 20 = .ok (.ldc 137, 2) := by decide +kernel
theorem d_X_longLengthAt_22 : decode b_X_longLengthAt 22 = .ok (.invokespecial 84, 3) := by decide +kernel
theorem d_X_longLengthAt_25 : decode b_X_longLengthAt 25 = .ok (.athrow, 1) := by decide +kernel
theorem d_X_longLengthAt_26 : decode b_X_longLengthAt 26 = .ok (.iload_n 2, 1) := by decide +kernel
theorem d_X_longLengthAt_27 : decode b_X_longLengthAt 27 = .ok (.ireturn, 1) := by decide +kernel
theorem d_X_piecesAt_0 : decode b_X_piecesAt 0 = .ok (.aload_n 0, 1) := by decide +kernel
theorem d_X_piecesAt_1 : decode b_X_piecesAt 1 = .ok (.iload_n 1, 1) := by decide +kernel
theorem d_X_piecesAt_2 : decode b_X_piecesAt 2 = .ok (.bipush 6, 2) := by decide +kernel
theorem d_X_piecesAt_4 : decode b_X_piecesAt 4 = .ok (.invokevirtual 68, 3) := by decide +kernel
theorem d_X_piecesAt_7 : decode b_X_piecesAt 7 = .ok (.l2i, 1) := by decide +kernel
theorem d_X_piecesAt_8 : decode b_X_piecesAt 8 = .ok (.istore_n 2, 1) := by decide +kernel
theorem d_X_piecesAt_9 : decode b_X_piecesAt 9 = .ok (.iload_n 2, 1) := by decide +kernel
theorem d_X_piecesAt_10 : decode b_X_piecesAt 10 = .ok (.iconst 1, 1) := by decide +kernel
theorem d_X_piecesAt_11 : decode b_X_piecesAt 11 = .ok (.if_icmp .lt 8, 3) := by decide +kernel
theorem d_X_piecesAt_14 : decode b_X_piecesAt 14 = .ok (.iload_n 2, 1) := by decide +kernel
theorem d_X_piecesAt_15 : decode b_X_piecesAt 15 = .ok (.iconst 4, 1) := by decide +kernel
theorem d_X_piecesAt_16 : decode b_X_piecesAt 16 = .ok (.if_icmp .le 13, 3) := by decide +kernel
theorem d_X_piecesAt_19 : decode b_X_piecesAt 19 = .ok (.new 80, 3) := by decide +kernel
theorem d_X_piecesAt_22 : decode b_X_piecesAt 22 = .ok (.dup, 1) := by decide +kernel
theorem d_X_piecesAt_23 : decode b_X_piecesAt 23 = .ok (.ldc 139, 2) := by decide +kernel
theorem d_X_piecesAt_25 : decode b_X_piecesAt 25 = .ok (.invokespecial 84, 3) := by decide +kernel
theorem d_X_piecesAt_28 : decode b_X_piecesAt 28 = .ok (.athrow, 1) := by decide +kernel
theorem d_X_piecesAt_29 : decode b_X_piecesAt 29 = .ok (.iload_n 2, 1) := by decide +kernel
theorem d_X_piecesAt_30 : decode b_X_piecesAt 30 = .ok (.sipush 16384, 3) := by decide +kernel
theorem d_X_piecesAt_33 : decode b_X_piecesAt 33 = .ok (.imul, 1) := by decide +kernel
theorem d_X_piecesAt_34 : decode b_X_piecesAt 34 = .ok (.ireturn, 1) := by decide +kernel
theorem d_X_takeNumber_0 : decode b_X_takeNumber 0 = .ok (.iload_n 1, 1) := by decide +kernel
theorem d_X_takeNumber_1 : decode b_X_takeNumber 1 = .ok (.invokestatic 57, 3) := by decide +kernel
theorem d_X_takeNumber_4 : decode b_X_takeNumber 4 = .ok (.iload_n 1, 1) := by decide +kernel
theorem d_X_takeNumber_5 : decode b_X_takeNumber 5 = .ok (.iconst 2, 1) := by decide +kernel
theorem d_X_takeNumber_6 : decode b_X_takeNumber 6 = .ok (.if_icmp .ne 14, 3) := by decide +kernel
theorem d_X_takeNumber_9 : decode b_X_takeNumber 9 = .ok (.aload_n 0, 1) := by decide +kernel
theorem d_X_takeNumber_10 : decode b_X_takeNumber 10 = .ok (.aload_n 0, 1) := by decide +kernel
theorem d_X_takeNumber_11 : decode b_X_takeNumber 11 = .ok (.getfield 17, 3) := by decide +kernel
theorem d_X_takeNumber_14 : decode b_X_takeNumber 14 = .ok (.invokevirtual 88, 3) := by decide +kernel
theorem d_X_takeNumber_17 : decode b_X_takeNumber 17 = .ok (.goto 12, 3) := by decide +kernel
theorem d_X_takeNumber_20 : decode b_X_takeNumber 20 = .ok (.aload_n 0, 1) := by decide +kernel
theorem d_X_takeNumber_21 : decode b_X_takeNumber 21 = .ok (.iload_n 1, 1) := by decide +kernel
theorem d_X_takeNumber_22 : decode b_X_takeNumber 22 = .ok (.aload_n 0, 1) := by decide +kernel
theorem d_X_takeNumber_23 : decode b_X_takeNumber 23 = .ok (.getfield 17, 3) := by decide +kernel
theorem d_X_takeNumber_26 : decode b_X_takeNumber 26 = .ok (.invokevirtual 92, 3) := by decide +kernel
theorem d_X_takeNumber_29 : decode b_X_takeNumber 29 = .ok (.lstore_n 2, 1) := by decide +kernel
theorem d_X_takeNumber_30 : decode b_X_takeNumber 30 = .ok (.aload_n 0, 1) := by decide +kernel
theorem d_X_takeNumber_31 : decode b_X_takeNumber 31 = .ok (.dup, 1) := by decide +kernel
theorem d_X_takeNumber_32 : decode b_X_takeNumber 32 = .ok (.getfield 17, 3) := by decide +kernel
theorem d_X_takeNumber_35 : decode b_X_takeNumber 35 = .ok (.iload_n 1, 1) := by decide +kernel
theorem d_X_takeNumber_36 : decode b_X_takeNumber 36 = .ok (.lload_n 2, 1) := by decide +kernel
theorem d_X_takeNumber_37 : decode b_X_takeNumber 37 = .ok (.invokestatic 95, 3) := by decide +kernel
theorem d_X_takeNumber_40 : decode b_X_takeNumber 40 = .ok (.iadd, 1) := by decide +kernel
theorem d_X_takeNumber_41 : decode b_X_takeNumber 41 = .ok (.putfield 17, 3) := by decide +kernel
theorem d_X_takeNumber_44 : decode b_X_takeNumber 44 = .ok (.lload_n 2, 1) := by decide +kernel
theorem d_X_takeNumber_45 : decode b_X_takeNumber 45 = .ok (.lreturn, 1) := by decide +kernel
theorem d_X_smallAt_0 : decode b_X_smallAt 0 = .ok (.aload_n 0, 1) := by decide +kernel
theorem d_X_smallAt_1 : decode b_X_smallAt 1 = .ok (.iload_n 1, 1) := by decide +kernel
theorem d_X_smallAt_2 : decode b_X_smallAt 2 = .ok (.iconst 1, 1) := by decide +kernel
theorem d_X_smallAt_3 : decode b_X_smallAt 3 = .ok (.invokevirtual 68, 3) := by decide +kernel
theorem d_X_smallAt_6 : decode b_X_smallAt 6 = .ok (.lconst 0, 1) := by decide +kernel
theorem d_X_smallAt_7 : decode b_X_smallAt 7 = .ok (.lcmp, 1) := by decide +kernel
theorem d_X_smallAt_8 : decode b_X_smallAt 8 = .ok (.ifCond .ne 13, 3) := by decide +kernel
theorem d_X_smallAt_11 : decode b_X_smallAt 11 = .ok (.aload_n 0, 1) := by decide +kernel
theorem d_X_smallAt_12 : decode b_X_smallAt 12 = .ok (.iload_n 1, 1) := by decide +kernel
theorem d_X_smallAt_13 : decode b_X_smallAt 13 = .ok (.iconst 1, 1) := by decide +kernel
theorem d_X_smallAt_14 : decode b_X_smallAt 14 = .ok (.iadd, 1) := by decide +kernel
theorem d_X_smallAt_15 : decode b_X_smallAt 15 = .ok (.bipush 6, 2) := by decide +kernel
theorem d_X_smallAt_17 : decode b_X_smallAt 17 = .ok (.invokevirtual 68, 3) := by decide +kernel
theorem d_X_smallAt_20 : decode b_X_smallAt 20 = .ok (.lreturn, 1) := by decide +kernel
theorem d_X_smallAt_21 : decode b_X_smallAt 21 = .ok (.aload_n 0, 1) := by decide +kernel
theorem d_X_smallAt_22 : decode b_X_smallAt 22 = .ok (.iconst 0, 1) := by decide +kernel
theorem d_X_smallAt_23 : decode b_X_smallAt 23 = .ok (.iload_n 1, 1) := by decide +kernel
theorem d_X_smallAt_24 : decode b_X_smallAt 24 = .ok (.iconst 1, 1) := by decide +kernel
theorem d_X_smallAt_25 : decode b_X_smallAt 25 = .ok (.iadd, 1) := by decide +kernel
theorem d_X_smallAt_26 : decode b_X_smallAt 26 = .ok (.invokevirtual 92, 3) := by decide +kernel
theorem d_X_smallAt_29 : decode b_X_smallAt 29 = .ok (.lstore_n 2, 1) := by decide +kernel
theorem d_X_smallAt_30 : decode b_X_smallAt 30 = .ok (.lload_n 2, 1) := by decide +kernel
theorem d_X_smallAt_31 : decode b_X_smallAt 31 = .ok (.invokestatic 60, 3) := by decide +kernel
theorem d_X_smallAt_34 : decode b_X_smallAt 34 = .ok (.ifCond .eq 13, 3) := by decide +kernel
theorem d_X_smallAt_37 : decode b_X_smallAt 37 = .ok (.new 80, 3) := by decide +kernel
theorem d_X_smallAt_40 : decode b_X_smallAt 40 = .ok (.dup, 1) := by decide +kernel
theorem d_X_smallAt_41 : decode b_X_smallAt 41 = .ok (.ldc 141, 2) := by decide +kernel
theorem d_X_smallAt_43 : decode b_X_smallAt 43 = .ok (.invokespecial 84, 3) := by decide +kernel
theorem d_X_smallAt_46 : decode b_X_smallAt 46 = .ok (.athrow, 1) := by decide +kernel
theorem d_X_smallAt_47 : decode b_X_smallAt 47 = .ok (.lload_n 2, 1) := by decide +kernel
theorem d_X_smallAt_48 : decode b_X_smallAt 48 = .ok (.lreturn, 1) := by decide +kernel
theorem d_X_numberAt_0 : decode b_X_numberAt 0 = .ok (.aload_n 0, 1) := by decide +kernel
theorem d_X_numberAt_1 : decode b_X_numberAt 1 = .ok (.iload_n 2, 1) := by decide +kernel
theorem d_X_numberAt_2 : decode b_X_numberAt 2 = .ok (.invokevirtual 85, 3) := by decide +kernel
theorem d_X_numberAt_5 : decode b_X_numberAt 5 = .ok (.istore_n 3, 1) := by decide +kernel
theorem d_X_numberAt_6 : decode b_X_numberAt 6 = .ok (.iload_n 3, 1) := by decide +kernel
theorem d_X_numberAt_7 : decode b_X_numberAt 7 = .ok (.iconst 1, 1) := by decide +kernel
theorem d_X_numberAt_8 : decode b_X_numberAt 8 = .ok (.if_icmp .lt 9, 3) := by decide +kernel
theorem d_X_numberAt_11 : decode b_X_numberAt 11 = .ok (.iload_n 3, 1) := by decide +kernel
theorem d_X_numberAt_12 : decode b_X_numberAt 12 = .ok (.bipush 8, 2) := by decide +kernel
theorem d_X_numberAt_14 : decode b_X_numberAt 14 = .ok (.if_icmp .le 13, 3) := by decide +kernel
theorem d_X_numberAt_17 : decode b_X_numberAt 17 = .ok (.new 80, 3) := by decide +kernel
theorem d_X_numberAt_20 : decode b_X_numberAt 20 = .ok (.dup, 1) := by decide +kernel
theorem d_X_numberAt_21 : decode b_X_numberAt 21 = .ok (.ldc 143, 2) := by decide +kernel
theorem d_X_numberAt_23 : decode b_X_numberAt 23 = .ok (.invokespecial 84, 3) := by decide +kernel
theorem d_X_numberAt_26 : decode b_X_numberAt 26 = .ok (.athrow, 1) := by decide +kernel
theorem d_X_numberAt_27 : decode b_X_numberAt 27 = .ok (.iload_n 3, 1) := by decide +kernel
theorem d_X_numberAt_28 : decode b_X_numberAt 28 = .ok (.bipush 8, 2) := by decide +kernel
theorem d_X_numberAt_30 : decode b_X_numberAt 30 = .ok (.imul, 1) := by decide +kernel
theorem d_X_numberAt_31 : decode b_X_numberAt 31 = .ok (.istore 4, 2) := by decide +kernel
theorem d_X_numberAt_33 : decode b_X_numberAt 33 = .ok (.aload_n 0, 1) := by decide +kernel
theorem d_X_numberAt_34 : decode b_X_numberAt 34 = .ok (.iload_n 2, 1) := by decide +kernel
theorem d_X_numberAt_35 : decode b_X_numberAt 35 = .ok (.iload_n 3, 1) := by decide +kernel
theorem d_X_numberAt_36 : decode b_X_numberAt 36 = .ok (.invokestatic 50, 3) := by decide +kernel
theorem d_X_numberAt_39 : decode b_X_numberAt 39 = .ok (.iadd, 1) := by decide +kernel
theorem d_X_numberAt_40 : decode b_X_numberAt 40 = .ok (.iload 4, 2) := by decide +kernel
theorem d_X_numberAt_42 : decode b_X_numberAt 42 = .ok (.invokevirtual 68, 3) := by decide +kernel
theorem d_X_numberAt_45 : decode b_X_numberAt 45 = .ok (.lstore 5, 2) := by decide +kernel
theorem d_X_numberAt_47 : decode b_X_numberAt 47 = .ok (.iload_n 1, 1) := by decide +kernel
theorem d_X_numberAt_48 : decode b_X_numberAt 48 = .ok (.iconst 1, 1) := by decide +kernel
theorem d_X_numberAt_49 : decode b_X_numberAt 49 = .ok (.if_icmp .ne 19, 3) := by decide +kernel
theorem d_X_numberAt_52 : decode b_X_numberAt 52 = .ok (.lload 5, 2) := by decide +kernel
theorem d_X_numberAt_54 : decode b_X_numberAt 54 = .ok (.bipush 64, 2) := by decide +kernel
theorem d_X_numberAt_56 : decode b_X_numberAt 56 = .ok (.iload 4, 2) := by decide +kernel
theorem d_X_numberAt_58 : decode b_X_numberAt 58 = .ok (.isub, 1) := by decide +kernel
theorem d_X_numberAt_59 : decode b_X_numberAt 59 = .ok (.lshl, 1) := by decide +kernel
theorem d_X_numberAt_60 : decode b_X_numberAt 60 = .ok (.bipush 64, 2) := by decide +kernel
theorem d_X_numberAt_62 : decode b_X_numberAt 62 = .ok (.iload 4, 2) := by decide +kernel
theorem d_X_numberAt_64 : decode b_X_numberAt 64 = .ok (.isub, 1) := by decide +kernel
theorem d_X_numberAt_65 : decode b_X_numberAt 65 = .ok (.lshr, 1) := by decide +kernel
theorem d_X_numberAt_66 : decode b_X_numberAt 66 = .ok (.lstore 5, 2) := by decide +kernel
theorem d_X_numberAt_68 : decode b_X_numberAt 68 = .ok (.iload_n 1, 1) := by decide +kernel
theorem d_X_numberAt_69 : decode b_X_numberAt 69 = .ok (.lload 5, 2) := by decide +kernel
theorem d_X_numberAt_71 : decode b_X_numberAt 71 = .ok (.invokestatic 124, 3) := by decide +kernel
theorem d_X_numberAt_74 : decode b_X_numberAt 74 = .ok (.iload_n 3, 1) := by decide +kernel
theorem d_X_numberAt_75 : decode b_X_numberAt 75 = .ok (.if_icmp .eq 13, 3) := by decide +kernel
theorem d_X_numberAt_78 : decode b_X_numberAt 78 = .ok (.new 80, 3) := by decide +kernel
theorem d_X_numberAt_81 : decode b_X_numberAt 81 = .ok (.dup, 1) := by decide +kernel
theorem d_X_numberAt_82 : decode b_X_numberAt 82 = .ok (.ldc 145, 2) := by decide +kernel
theorem d_X_numberAt_84 : decode b_X_numberAt 84 = .ok (.invokespecial 84, 3) := by decide +kernel
theorem d_X_numberAt_87 : decode b_X_numberAt 87 = .ok (.athrow, 1) := by decide +kernel
theorem d_X_numberAt_88 : decode b_X_numberAt 88 = .ok (.lload 5, 2) := by decide +kernel
theorem d_X_numberAt_90 : decode b_X_numberAt 90 = .ok (.lreturn, 1) := by decide +kernel
theorem d_X_go_0 : decode b_X_go 0 = .ok (.aload_n 0, 1) := by decide +kernel
theorem d_X_go_1 : decode b_X_go 1 = .ok (.iload_n 1, 1) := by decide +kernel
theorem d_X_go_2 : decode b_X_go 2 = .ok (.invokevirtual 99, 3) := by decide +kernel
theorem d_X_go_5 : decode b_X_go 5 = .ok (.aload_n 0, 1) := by decide +kernel
theorem d_X_go_6 : decode b_X_go 6 = .ok (.getfield 17, 3) := by decide +kernel
theorem d_X_go_9 : decode b_X_go 9 = .ok (.istore_n 2, 1) := by decide +kernel
theorem d_X_go_10 : decode b_X_go 10 = .ok (.aload_n 0, 1) := by decide +kernel
theorem d_X_go_11 : decode b_X_go 11 = .ok (.iload_n 1, 1) := by decide +kernel
theorem d_X_go_12 : decode b_X_go 12 = .ok (.putfield 17, 3) := by decide +kernel
theorem d_X_go_15 : decode b_X_go 15 = .ok (.iload_n 2, 1) := by decide +kernel
theorem d_X_go_16 : decode b_X_go 16 = .ok (.ireturn, 1) := by decide +kernel
theorem d_X_requireCut_0 : decode b_X_requireCut 0 = .ok (.iload_n 1, 1) := by decide +kernel
theorem d_X_requireCut_1 : decode b_X_requireCut 1 = .ok (.ifCond .lt 11, 3) := by decide +kernel
theorem d_X_requireCut_4 : decode b_X_requireCut 4 = .ok (.iload_n 1, 1) := by decide +kernel
theorem d_X_requireCut_5 : decode b_X_requireCut 5 = .ok (.aload_n 0, 1) := by decide +kernel
theorem d_X_requireCut_6 : decode b_X_requireCut 6 = .ok (.getfield 13, 3) := by decide +kernel
theorem d_X_requireCut_9 : decode b_X_requireCut 9 = .ok (.if_icmp .le 13, 3) := by decide +kernel
theorem d_X_requireCut_12 : decode b_X_requireCut 12 = .ok (.new 31, 3) := by decide +kernel
theorem d_X_requireCut_15 : decode b_X_requireCut 15 = .ok (.dup, 1) := by decide +kernel
theorem d_X_requireCut_16 : decode b_X_requireCut 16 = .ok (.ldc 116, 2) := by decide +kernel
theorem d_X_requireCut_18 : decode b_X_requireCut 18 = .ok (.invokespecial 35, 3) := by decide +kernel
theorem d_X_requireCut_21 : decode b_X_requireCut 21 = .ok (.athrow, 1) := by decide +kernel
theorem d_X_requireCut_22 : decode b_X_requireCut 22 = .ok (.return_, 1) := by decide +kernel
theorem d_X_turn_0 : decode b_X_turn 0 = .ok (.iload_n 1, 1) := by decide +kernel
theorem d_X_turn_1 : decode b_X_turn 1 = .ok (.ifCond .lt 11, 3) := by decide +kernel
theorem d_X_turn_4 : decode b_X_turn 4 = .ok (.iload_n 1, 1) := by decide +kernel
theorem d_X_turn_5 : decode b_X_turn 5 = .ok (.aload_n 0, 1) := by decide +kernel
theorem d_X_turn_6 : decode b_X_turn 6 = .ok (.getfield 13, 3) := by decide +kernel
theorem d_X_turn_9 : decode b_X_turn 9 = .ok (.if_icmp .lt 13, 3) := by decide +kernel
theorem d_X_turn_12 : decode b_X_turn 12 = .ok (.new 31, 3) := by decide +kernel
theorem d_X_turn_15 : decode b_X_turn 15 = .ok (.dup, 1) := by decide +kernel
theorem d_X_turn_16 : decode b_X_turn 16 = .ok (.ldc 102, 2) := by decide +kernel
theorem d_X_turn_18 : decode b_X_turn 18 = .ok (.invokespecial 35, 3) := by decide +kernel
theorem d_X_turn_21 : decode b_X_turn 21 = .ok (.athrow, 1) := by decide +kernel
theorem d_X_turn_22 : decode b_X_turn 22 = .ok (.lconst 1, 1) := by decide +kernel
theorem d_X_turn_23 : decode b_X_turn 23 = .ok (.aload_n 0, 1) := by decide +kernel
theorem d_X_turn_24 : decode b_X_turn 24 = .ok (.iload_n 1, 1) := by decide +kernel
theorem d_X_turn_25 : decode b_X_turn 25 = .ok (.invokevirtual 104, 3) := by decide +kernel
theorem d_X_turn_28 : decode b_X_turn 28 = .ok (.lsub, 1) := by decide +kernel
theorem d_X_turn_29 : decode b_X_turn 29 = .ok (.lstore_n 2, 1) := by decide +kernel
theorem d_X_turn_30 : decode b_X_turn 30 = .ok (.aload_n 0, 1) := by decide +kernel
theorem d_X_turn_31 : decode b_X_turn 31 = .ok (.iload_n 1, 1) := by decide +kernel
theorem d_X_turn_32 : decode b_X_turn 32 = .ok (.lload_n 2, 1) := by decide +kernel
theorem d_X_turn_33 : decode b_X_turn 33 = .ok (.invokevirtual 107, 3) := by decide +kernel
theorem d_X_turn_36 : decode b_X_turn 36 = .ok (.lload_n 2, 1) := by decide +kernel
theorem d_X_turn_37 : decode b_X_turn 37 = .ok (.lconst 1, 1) := by decide +kernel
theorem d_X_turn_38 : decode b_X_turn 38 = .ok (.lcmp, 1) := by decide +kernel
theorem d_X_turn_39 : decode b_X_turn 39 = .ok (.ifCond .ne 7, 3) := by decide +kernel
theorem d_X_turn_42 : decode b_X_turn 42 = .ok (.iconst 1, 1) := by decide +kernel
theorem d_X_turn_43 : decode b_X_turn 43 = .ok (.goto 4, 3) := by decide +kernel
theorem d_X_turn_46 : decode b_X_turn 46 = .ok (.iconst 0, 1) := by decide +kernel
theorem d_X_turn_47 : decode b_X_turn 47 = .ok (.ireturn, 1) := by decide +kernel
theorem d_X_cut_0 : decode b_X_cut 0 = .ok (.aload_n 0, 1) := by decide +kernel
theorem d_X_cut_1 : decode b_X_cut 1 = .ok (.iload_n 1, 1) := by decide +kernel
theorem d_X_cut_2 : decode b_X_cut 2 = .ok (.invokevirtual 99, 3) := by decide +kernel
theorem d_X_cut_5 : decode b_X_cut 5 = .ok (.aload_n 0, 1) := by decide +kernel
theorem d_X_cut_6 : decode b_X_cut 6 = .ok (.getfield 13, 3) := by decide +kernel
theorem d_X_cut_9 : decode b_X_cut 9 = .ok (.istore_n 2, 1) := by decide +kernel
theorem d_X_cut_10 : decode b_X_cut 10 = .ok (.aload_n 0, 1) := by decide +kernel
theorem d_X_cut_11 : decode b_X_cut 11 = .ok (.iload_n 1, 1) := by decide +kernel
theorem d_X_cut_12 : decode b_X_cut 12 = .ok (.putfield 13, 3) := by decide +kernel
theorem d_X_cut_15 : decode b_X_cut 15 = .ok (.aload_n 0, 1) := by decide +kernel
theorem d_X_cut_16 : decode b_X_cut 16 = .ok (.aload_n 0, 1) := by decide +kernel
theorem d_X_cut_17 : decode b_X_cut 17 = .ok (.getfield 17, 3) := by decide +kernel
theorem d_X_cut_20 : decode b_X_cut 20 = .ok (.iload_n 1, 1) := by decide +kernel
theorem d_X_cut_21 : decode b_X_cut 21 = .ok (.invokestatic 44, 3) := by decide +kernel
theorem d_X_cut_24 : decode b_X_cut 24 = .ok (.putfield 17, 3) := by decide +kernel
theorem d_X_cut_27 : decode b_X_cut 27 = .ok (.iload_n 2, 1) := by decide +kernel
theorem d_X_cut_28 : decode b_X_cut 28 = .ok (.ireturn, 1) := by decide +kernel
theorem d_X_count_0 : decode b_X_count 0 = .ok (.iload_n 1, 1) := by decide +kernel
theorem d_X_count_1 : decode b_X_count 1 = .ok (.ifCond .eq 18, 3) := by decide +kernel
theorem d_X_count_4 : decode b_X_count 4 = .ok (.iload_n 1, 1) := by decide +kernel
theorem d_X_count_5 : decode b_X_count 5 = .ok (.iconst 1, 1) := by decide +kernel
theorem d_X_count_6 : decode b_X_count 6 = .ok (.if_icmp .eq 13, 3) := by decide +kernel
theorem d_X_count_9 : decode b_X_count 9 = .ok (.new 31, 3) := by decide +kernel
theorem d_X_count_12 : decode b_X_count 12 = .ok (.dup, 1) := by decide +kernel
theorem d_X_count_13 : decode b_X_count 13 = .ok (.ldc 110, 2) := by decide +kernel
theorem d_X_count_15 : decode b_X_count 15 = .ok (.invokespecial 35, 3) := by decide +kernel
theorem d_X_count_18 : decode b_X_count 18 = .ok (.athrow, 1) := by decide +kernel
theorem d_X_count_19 : decode b_X_count 19 = .ok (.iload_n 1, 1) := by decide +kernel
theorem d_X_count_20 : decode b_X_count 20 = .ok (.ifCond .ne 10, 3) := by decide +kernel
theorem d_X_count_23 : decode b_X_count 23 = .ok (.aload_n 0, 1) := by decide +kernel
theorem d_X_count_24 : decode b_X_count 24 = .ok (.getfield 13, 3) := by decide +kernel
theorem d_X_count_27 : decode b_X_count 27 = .ok (.goto 7, 3) := by decide +kernel
theorem d_X_count_30 : decode b_X_count 30 = .ok (.aload_n 0, 1) := by decide +kernel
theorem d_X_count_31 : decode b_X_count 31 = .ok (.getfield 17, 3) := by decide +kernel
theorem d_X_count_34 : decode b_X_count 34 = .ok (.ireturn, 1) := by decide +kernel
end
section
theorem d_J_numberOfLeadingZeros_0 : decode b_J_numberOfLeadingZeros 0 = .ok (.lload_n 0, 1) := by decide +kernel
theorem d_J_numberOfLeadingZeros_1 : decode b_J_numberOfLeadingZeros 1 = .ok (.bipush 32, 2) := by decide +kernel
theorem d_J_numberOfLeadingZeros_3 : decode b_J_numberOfLeadingZeros 3 = .ok (.lushr, 1) := by decide +kernel
theorem d_J_numberOfLeadingZeros_4 : decode b_J_numberOfLeadingZeros 4 = .ok (.l2i, 1) := by decide +kernel
theorem d_J_numberOfLeadingZeros_5 : decode b_J_numberOfLeadingZeros 5 = .ok (.istore_n 2, 1) := by decide +kernel
theorem d_J_numberOfLeadingZeros_6 : decode b_J_numberOfLeadingZeros 6 = .ok (.iload_n 2, 1) := by decide +kernel
theorem d_J_numberOfLeadingZeros_7 : decode b_J_numberOfLeadingZeros 7 = .ok (.ifCond .ne 14, 3) := by decide +kernel
theorem d_J_numberOfLeadingZeros_10 : decode b_J_numberOfLeadingZeros 10 = .ok (.bipush 32, 2) := by decide +kernel
theorem d_J_numberOfLeadingZeros_12 : decode b_J_numberOfLeadingZeros 12 = .ok (.lload_n 0, 1) := by decide +kernel
theorem d_J_numberOfLeadingZeros_13 : decode b_J_numberOfLeadingZeros 13 = .ok (.l2i, 1) := by decide +kernel
theorem d_J_numberOfLeadingZeros_14 : decode b_J_numberOfLeadingZeros 14 = .ok (.invokestatic 308, 3) := by decide +kernel
theorem d_J_numberOfLeadingZeros_17 : decode b_J_numberOfLeadingZeros 17 = .ok (.iadd, 1) := by decide +kernel
theorem d_J_numberOfLeadingZeros_18 : decode b_J_numberOfLeadingZeros 18 = .ok (.goto 7, 3) := by decide +kernel
theorem d_J_numberOfLeadingZeros_21 : decode b_J_numberOfLeadingZeros 21 = .ok (.iload_n 2, 1) := by decide +kernel
theorem d_J_numberOfLeadingZeros_22 : decode b_J_numberOfLeadingZeros 22 = .ok (.invokestatic 308, 3) := by decide +kernel
theorem d_J_numberOfLeadingZeros_25 : decode b_J_numberOfLeadingZeros 25 = .ok (.ireturn, 1) := by decide +kernel
theorem d_I_numberOfLeadingZeros_0 : decode b_I_numberOfLeadingZeros 0 = .ok (.iload_n 0, 1) := by decide +kernel
theorem d_I_numberOfLeadingZeros_1 : decode b_I_numberOfLeadingZeros 1 = .ok (.ifCond .gt 14, 3) := by decide +kernel
theorem d_I_numberOfLeadingZeros_4 : decode b_I_numberOfLeadingZeros 4 = .ok (.iload_n 0, 1) := by decide +kernel
theorem d_I_numberOfLeadingZeros_5 : decode b_I_numberOfLeadingZeros 5 = .ok (.ifCond .ne 8, 3) := by decide +kernel
theorem d_I_numberOfLeadingZeros_8 : decode b_I_numberOfLeadingZeros 8 = .ok (.bipush 32, 2) := by decide +kernel
theorem d_I_numberOfLeadingZeros_10 : decode b_I_numberOfLeadingZeros 10 = .ok (.goto 4, 3) := by decide +kernel
theorem d_I_numberOfLeadingZeros_13 : decode b_I_numberOfLeadingZeros 13 = .ok (.iconst 0, 1) := by decide +kernel
theorem d_I_numberOfLeadingZeros_14 : decode b_I_numberOfLeadingZeros 14 = .ok (.ireturn, 1) := by decide +kernel
theorem d_I_numberOfLeadingZeros_15 : decode b_I_numberOfLeadingZeros 15 = .ok (.bipush 31, 2) := by decide +kernel
theorem d_I_numberOfLeadingZeros_17 : decode b_I_numberOfLeadingZeros 17 = .ok (.istore_n 1, 1) := by decide +kernel
theorem d_I_numberOfLeadingZeros_18 : decode b_I_numberOfLeadingZeros 18 = .ok (.iload_n 0, 1) := by decide +kernel
theorem d_I_numberOfLeadingZeros_19 : decode b_I_numberOfLeadingZeros 19 = .ok (.ldc_w 264, 3) := by decide +kernel
theorem d_I_numberOfLeadingZeros_22 : decode b_I_numberOfLeadingZeros 22 = .ok (.if_icmp .lt 11, 3) := by decide +kernel
theorem d_I_numberOfLeadingZeros_25 : decode b_I_numberOfLeadingZeros 25 = .ok (.iinc 1 (-16), 3) := by decide +kernel
theorem d_I_numberOfLeadingZeros_28 : decode b_I_numberOfLeadingZeros 28 = .ok (.iload_n 0, 1) := by decide +kernel
theorem d_I_numberOfLeadingZeros_29 : decode b_I_numberOfLeadingZeros 29 = .ok (.bipush 16, 2) := by decide +kernel
theorem d_I_numberOfLeadingZeros_31 : decode b_I_numberOfLeadingZeros 31 = .ok (.iushr, 1) := by decide +kernel
theorem d_I_numberOfLeadingZeros_32 : decode b_I_numberOfLeadingZeros 32 = .ok (.istore_n 0, 1) := by decide +kernel
theorem d_I_numberOfLeadingZeros_33 : decode b_I_numberOfLeadingZeros 33 = .ok (.iload_n 0, 1) := by decide +kernel
theorem d_I_numberOfLeadingZeros_34 : decode b_I_numberOfLeadingZeros 34 = .ok (.sipush 256, 3) := by decide +kernel
theorem d_I_numberOfLeadingZeros_37 : decode b_I_numberOfLeadingZeros 37 = .ok (.if_icmp .lt 11, 3) := by decide +kernel
theorem d_I_numberOfLeadingZeros_40 : decode b_I_numberOfLeadingZeros 40 = .ok (.iinc 1 (-8), 3) := by decide +kernel
theorem d_I_numberOfLeadingZeros_43 : decode b_I_numberOfLeadingZeros 43 = .ok (.iload_n 0, 1) := by decide +kernel
theorem d_I_numberOfLeadingZeros_44 : decode b_I_numberOfLeadingZeros 44 = .ok (.bipush 8, 2) := by decide +kernel
theorem d_I_numberOfLeadingZeros_46 : decode b_I_numberOfLeadingZeros 46 = .ok (.iushr, 1) := by decide +kernel
theorem d_I_numberOfLeadingZeros_47 : decode b_I_numberOfLeadingZeros 47 = .ok (.istore_n 0, 1) := by decide +kernel
theorem d_I_numberOfLeadingZeros_48 : decode b_I_numberOfLeadingZeros 48 = .ok (.iload_n 0, 1) := by decide +kernel
theorem d_I_numberOfLeadingZeros_49 : decode b_I_numberOfLeadingZeros 49 = .ok (.bipush 16, 2) := by decide +kernel
theorem d_I_numberOfLeadingZeros_51 : decode b_I_numberOfLeadingZeros 51 = .ok (.if_icmp .lt 10, 3) := by decide +kernel
theorem d_I_numberOfLeadingZeros_54 : decode b_I_numberOfLeadingZeros 54 = .ok (.iinc 1 (-4), 3) := by decide +kernel
theorem d_I_numberOfLeadingZeros_57 : decode b_I_numberOfLeadingZeros 57 = .ok (.iload_n 0, 1) := by decide +kernel
theorem d_I_numberOfLeadingZeros_58 : decode b_I_numberOfLeadingZeros 58 = .ok (.iconst 4, 1) := by decide +kernel
theorem d_I_numberOfLeadingZeros_59 : decode b_I_numberOfLeadingZeros 59 = .ok (.iushr, 1) := by decide +kernel
theorem d_I_numberOfLeadingZeros_60 : decode b_I_numberOfLeadingZeros 60 = .ok (.istore_n 0, 1) := by decide +kernel
theorem d_I_numberOfLeadingZeros_61 : decode b_I_numberOfLeadingZeros 61 = .ok (.iload_n 0, 1) := by decide +kernel
theorem d_I_numberOfLeadingZeros_62 : decode b_I_numberOfLeadingZeros 62 = .ok (.iconst 4, 1) := by decide +kernel
theorem d_I_numberOfLeadingZeros_63 : decode b_I_numberOfLeadingZeros 63 = .ok (.if_icmp .lt 10, 3) := by decide +kernel
theorem d_I_numberOfLeadingZeros_66 : decode b_I_numberOfLeadingZeros 66 = .ok (.iinc 1 (-2), 3) := by decide +kernel
theorem d_I_numberOfLeadingZeros_69 : decode b_I_numberOfLeadingZeros 69 = .ok (.iload_n 0, 1) := by decide +kernel
theorem d_I_numberOfLeadingZeros_70 : decode b_I_numberOfLeadingZeros 70 = .ok (.iconst 2, 1) := by decide +kernel
theorem d_I_numberOfLeadingZeros_71 : decode b_I_numberOfLeadingZeros 71 = .ok (.iushr, 1) := by decide +kernel
theorem d_I_numberOfLeadingZeros_72 : decode b_I_numberOfLeadingZeros 72 = .ok (.istore_n 0, 1) := by decide +kernel
theorem d_I_numberOfLeadingZeros_73 : decode b_I_numberOfLeadingZeros 73 = .ok (.iload_n 1, 1) := by decide +kernel
theorem d_I_numberOfLeadingZeros_74 : decode b_I_numberOfLeadingZeros 74 = .ok (.iload_n 0, 1) := by decide +kernel
theorem d_I_numberOfLeadingZeros_75 : decode b_I_numberOfLeadingZeros 75 = .ok (.iconst 1, 1) := by decide +kernel
theorem d_I_numberOfLeadingZeros_76 : decode b_I_numberOfLeadingZeros 76 = .ok (.iushr, 1) := by decide +kernel
theorem d_I_numberOfLeadingZeros_77 : decode b_I_numberOfLeadingZeros 77 = .ok (.isub, 1) := by decide +kernel
theorem d_I_numberOfLeadingZeros_78 : decode b_I_numberOfLeadingZeros 78 = .ok (.ireturn, 1) := by decide +kernel
theorem d_J_compareUnsigned_0 : decode b_J_compareUnsigned 0 = .ok (.lload_n 0, 1) := by decide +kernel
theorem d_J_compareUnsigned_1 : decode b_J_compareUnsigned 1 = .ok (.ldc2_w 168, 3) := by decide +kernel
theorem d_J_compareUnsigned_4 : decode b_J_compareUnsigned 4 = .ok (.ladd, 1) := by decide +kernel
theorem d_J_compareUnsigned_5 : decode b_J_compareUnsigned 5 = .ok (.lload_n 2, 1) := by decide +kernel
theorem d_J_compareUnsigned_6 : decode b_J_compareUnsigned 6 = .ok (.ldc2_w 168, 3) := by decide +kernel
theorem d_J_compareUnsigned_9 : decode b_J_compareUnsigned 9 = .ok (.ladd, 1) := by decide +kernel
theorem d_J_compareUnsigned_10 : decode b_J_compareUnsigned 10 = .ok (.invokestatic 302, 3) := by decide +kernel
theorem d_J_compareUnsigned_13 : decode b_J_compareUnsigned 13 = .ok (.ireturn, 1) := by decide +kernel
theorem d_J_compare_0 : decode b_J_compare 0 = .ok (.lload_n 0, 1) := by decide +kernel
theorem d_J_compare_1 : decode b_J_compare 1 = .ok (.lload_n 2, 1) := by decide +kernel
theorem d_J_compare_2 : decode b_J_compare 2 = .ok (.lcmp, 1) := by decide +kernel
theorem d_J_compare_3 : decode b_J_compare 3 = .ok (.ifCond .ge 7, 3) := by decide +kernel
theorem d_J_compare_6 : decode b_J_compare 6 = .ok (.iconst (-1), 1) := by decide +kernel
theorem d_J_compare_7 : decode b_J_compare 7 = .ok (.goto 14, 3) := by decide +kernel
theorem d_J_compare_10 : decode b_J_compare 10 = .ok (.lload_n 0, 1) := by decide +kernel
theorem d_J_compare_11 : decode b_J_compare 11 = .ok (.lload_n 2, 1) := by decide +kernel
theorem d_J_compare_12 : decode b_J_compare 12 = .ok (.lcmp, 1) := by decide +kernel
theorem d_J_compare_13 : decode b_J_compare 13 = .ok (.ifCond .ne 7, 3) := by decide +kernel
theorem d_J_compare_16 : decode b_J_compare 16 = .ok (.iconst 0, 1) := by decide +kernel
theorem d_J_compare_17 : decode b_J_compare 17 = .ok (.goto 4, 3) := by decide +kernel
theorem d_J_compare_20 : decode b_J_compare 20 = .ok (.iconst 1, 1) := by decide +kernel
theorem d_J_compare_21 : decode b_J_compare 21 = .ok (.ireturn, 1) := by decide +kernel
end
section
/-! The class: what asks and refuses; a bit. -/
section XL10
theorem xi_nlt {a b : Int32} : ¬ a < b ↔ b ≤ a := by
  rw [Int32.lt_iff_toInt_lt, Int32.le_iff_toInt_le]
  omega
theorem xi_nle {a b : Int32} : ¬ a ≤ b ↔ b < a := by
  rw [Int32.lt_iff_toInt_lt, Int32.le_iff_toInt_le]
  omega
set_option maxHeartbeats 4000000 in
set_option maxRecDepth 100000 in
theorem c_requireWidth (l : Launch) (hL : l.stackTraces = false) (k : Int32) : xM l y_X_requireWidth w_X_requireWidth (xrm 0) [.int k] xq xNA (fun v st t => ¬ (k < 0 ∨ 64 < k) ∧ v = none ∧ t.heap = st.heap) (fun x st t => (k < 0 ∨ 64 < k) ∧ xl_T E_IA x st.heap t.heap t.vm) := by
  refine xM.of (by decide) ?_
  intro p e s m args below meth c hav E hr hk hh hnm hQ
  subst hav
  have hS : va_S xNA s.heap s.heap [] := va_S.rf
  refine xl_entry _ (Nat.le_of_ble_eq_true rfl) (fun ls hl => ?_)
  have hl : lv_has ls 1 [(0, .int k)] := hl
  refine lv_iload_n E.1 E.2.1 d_X_requireWidth_0 rfl (lv_at hl 0 rfl) ?_
  refine lv_if_lt (tgt := 10) E.1 E.2.1 d_X_requireWidth_1 (by decide) (fun h1 => ?_) (fun h1 => ?_)
  · skip
    exact xr_throw E hL hQ hh hk tw_IA_requireWidth hl.1 d_X_requireWidth_10 d_X_requireWidth_13 d_X_requireWidth_14 d_X_requireWidth_16 d_X_requireWidth_19 (by decide) (fun x t hT => ⟨Or.inl h1, hT⟩)
  · skip
    refine lv_iload_n E.1 E.2.1 d_X_requireWidth_4 rfl (lv_at hl 0 rfl) ?_
    refine lv_bipush (v := 64) E.1 E.2.1 d_X_requireWidth_5 (by decide) ?_
    refine lv_icmp_le (tgt := 20) E.1 E.2.1 d_X_requireWidth_7 (by decide) (fun h2 => ?_) (fun h2 => ?_)
    · skip
      exact xr_vret E hr hk hS (fun t ht _ => ⟨fun z => z.elim h1 (xi_nlt.mpr h2), rfl, ht⟩) d_X_requireWidth_20
    · skip
      exact xr_throw E hL hQ hh hk tw_IA_requireWidth hl.1 d_X_requireWidth_10 d_X_requireWidth_13 d_X_requireWidth_14 d_X_requireWidth_16 d_X_requireWidth_19 (by decide) (fun x t hT => ⟨Or.inr (xi_nle.mp h2), hT⟩)
set_option maxHeartbeats 4000000 in
set_option maxRecDepth 100000 in
theorem c_requireKind (l : Launch) (hL : l.stackTraces = false) (k : Int32) : xM l y_X_requireKind w_X_requireKind (xrm 0) [.int k] xq xNA (fun v st t => ¬ (k < 0 ∨ 2 < k) ∧ v = none ∧ t.heap = st.heap) (fun x st t => (k < 0 ∨ 2 < k) ∧ xl_T E_IA x st.heap t.heap t.vm) := by
  refine xM.of (by decide) ?_
  intro p e s m args below meth c hav E hr hk hh hnm hQ
  subst hav
  have hS : va_S xNA s.heap s.heap [] := va_S.rf
  refine xl_entry _ (Nat.le_of_ble_eq_true rfl) (fun ls hl => ?_)
  have hl : lv_has ls 1 [(0, .int k)] := hl
  refine lv_iload_n E.1 E.2.1 d_X_requireKind_0 rfl (lv_at hl 0 rfl) ?_
  refine lv_if_lt (tgt := 9) E.1 E.2.1 d_X_requireKind_1 (by decide) (fun h1 => ?_) (fun h1 => ?_)
  · skip
    exact xr_throw E hL hQ hh hk tw_IA_requireKind hl.1 d_X_requireKind_9 d_X_requireKind_12 d_X_requireKind_13 d_X_requireKind_15 d_X_requireKind_18 (by decide) (fun x t hT => ⟨Or.inl h1, hT⟩)
  · skip
    refine lv_iload_n E.1 E.2.1 d_X_requireKind_4 rfl (lv_at hl 0 rfl) ?_
    refine lv_iconst (v := 2) E.1 E.2.1 d_X_requireKind_5 (by decide) ?_
    refine lv_icmp_le (tgt := 19) E.1 E.2.1 d_X_requireKind_6 (by decide) (fun h2 => ?_) (fun h2 => ?_)
    · skip
      exact xr_vret E hr hk hS (fun t ht _ => ⟨fun z => z.elim h1 (xi_nlt.mpr h2), rfl, ht⟩) d_X_requireKind_19
    · skip
      exact xr_throw E hL hQ hh hk tw_IA_requireKind hl.1 d_X_requireKind_9 d_X_requireKind_12 d_X_requireKind_13 d_X_requireKind_15 d_X_requireKind_18 (by decide) (fun x t hT => ⟨Or.inr (xi_nle.mp h2), hT⟩)
set_option maxHeartbeats 4000000 in
set_option maxRecDepth 100000 in
theorem c_requireCut (l : Launch) (hL : l.stackTraces = false) (D : va_G) (a w : Nat) (cJ cZ : ClassId) (β : Nat → Bool) (n q : Nat) (k : Int32) : xM l y_X_requireCut w_X_requireCut (xrm 0) [.ref a, .int k] (wXt D a w cJ cZ β n q) xNA (fun v st t => ¬ (k < 0 ∨ nI n < k) ∧ v = none ∧ t.heap = st.heap) (fun x st t => (k < 0 ∨ nI n < k) ∧ xl_T E_IA x st.heap t.heap t.vm) := by
  refine xM.of (by decide) ?_
  intro p e s m args below meth c hav E hr hk hh hnm hwX
  subst hav
  obtain ⟨⟨hP, hK⟩, hQ⟩ := hwX
  have hS : va_S xNA s.heap s.heap [] := va_S.rf
  refine xl_entry _ (Nat.le_of_ble_eq_true rfl) (fun ls hl => ?_)
  have hl : lv_has ls 2 [(0, .ref a), (1, .int k)] := hl
  refine lv_iload_n E.1 E.2.1 d_X_requireCut_0 rfl (lv_at hl 1 rfl) ?_
  refine lv_if_lt (tgt := 12) E.1 E.2.1 d_X_requireCut_1 (by decide) (fun h1 => ?_) (fun h1 => ?_)
  · skip
    exact xr_throw E hL hQ hh hk tw_IA_requireCut hl.1 d_X_requireCut_12 d_X_requireCut_15 d_X_requireCut_16 d_X_requireCut_18 d_X_requireCut_21 (by decide) (fun x t hT => ⟨Or.inl h1, hT⟩)
  · skip
    refine lv_iload_n E.1 E.2.1 d_X_requireCut_4 rfl (lv_at hl 1 rfl) ?_
    refine lv_aload_n E.1 E.2.1 d_X_requireCut_5 rfl (lv_at hl 0 rfl) ?_
    refine gx_size E hK hP d_X_requireCut_6 ?_
    refine lv_icmp_le (tgt := 22) E.1 E.2.1 d_X_requireCut_9 (by decide) (fun h2 => ?_) (fun h2 => ?_)
    · skip
      exact xr_vret E hr hk hS (fun t ht _ => ⟨fun z => z.elim h1 (xi_nlt.mpr h2), rfl, ht⟩) d_X_requireCut_22
    · skip
      exact xr_throw E hL hQ hh hk tw_IA_requireCut hl.1 d_X_requireCut_12 d_X_requireCut_15 d_X_requireCut_16 d_X_requireCut_18 d_X_requireCut_21 (by decide) (fun x t hT => ⟨Or.inr (xi_nle.mp h2), hT⟩)
set_option maxHeartbeats 4000000 in
set_option maxRecDepth 100000 in
theorem c_requireRoom (l : Launch) (hL : l.stackTraces = false) (D : va_G) (a w : Nat) (cJ cZ : ClassId) (β : Nat → Bool) (n q k : Nat) (hn : n ≤ 65536) (hkb : k < 2 ^ 31) : xM l y_X_requireRoom w_X_requireRoom (xrm 0) [.ref a, .int (nI k)] (wXt D a w cJ cZ β n q) xNA (fun v st t => n + k ≤ 65536 ∧ v = none ∧ t.heap = st.heap) (fun x st t => 65536 < n + k ∧ xl_T E_IO x st.heap t.heap t.vm) := by
  refine xM.of (by decide) ?_
  intro p e s m args below meth c hav E hr hk hh hnm hwX
  subst hav
  obtain ⟨⟨hP, hK⟩, hQ⟩ := hwX
  have hS : va_S xNA s.heap s.heap [] := va_S.rf
  refine xl_entry _ (Nat.le_of_ble_eq_true rfl) (fun ls hl => ?_)
  have hl : lv_has ls 2 [(0, .ref a), (1, .int (nI k))] := hl
  refine lv_iload_n E.1 E.2.1 d_X_requireRoom_0 rfl (lv_at hl 1 rfl) ?_
  refine lv_ldc (v := 65536) E.1 E.2.1 E.2.2.2.1 (E.2.2.2.2 _ co_X_118) d_X_requireRoom_1 ?_
  refine lv_aload_n E.1 E.2.1 d_X_requireRoom_3 rfl (lv_at hl 0 rfl) ?_
  refine gx_size E hK hP d_X_requireRoom_4 ?_
  refine lv_isub E.1 E.2.1 d_X_requireRoom_7 ?_
  refine xl_ti (y := (nI (65536 - n))) (pk_sub hn) ?_
  refine lv_icmp_le (tgt := 21) E.1 E.2.1 d_X_requireRoom_8 (by decide) (fun h1 => ?_) (fun h1 => ?_)
  · skip
    have h2 : k ≤ 65536 - n := (nI_leI hkb (by omega)).mp h1
    exact xr_vret E hr hk hS (fun t ht _ => ⟨by omega, rfl, ht⟩) d_X_requireRoom_21
  · skip
    have h2 : ¬ k ≤ 65536 - n := fun z => h1 ((nI_leI hkb (by omega)).mpr z)
    exact xr_throw E hL hQ hh hk tw_IO_requireRoom hl.1 d_X_requireRoom_11 d_X_requireRoom_14 d_X_requireRoom_15 d_X_requireRoom_17 d_X_requireRoom_20 (by decide) (fun x t hT => ⟨by omega, hT⟩)
set_option maxHeartbeats 4000000 in
set_option maxRecDepth 100000 in
theorem c_isSmall (l : Launch) (x : Int64) : xM l y_X_isSmall w_X_isSmall (xrm 0) [.long x] (fun _ => True) xNA (fun v st t => v = some (.int (if 0 ≤ x ∧ x < 64 then 1 else 0)) ∧ t.heap = st.heap) (fun _ _ _ => False) := by
  refine xM.of (by decide) ?_
  intro p e s m args below meth c hav E hr hk hh hnm _
  subst hav
  have hS : va_S xNA s.heap s.heap [] := va_S.rf
  refine xl_entry _ (Nat.le_of_ble_eq_true rfl) (fun ls hl => ?_)
  have hl : lv_has ls 2 [(0, .long x)] := hl
  refine lv_lload_n E.1 E.2.1 d_X_isSmall_0 rfl (lv_at hl 0 rfl) ?_
  refine lv_lconst (v := 0) E.1 E.2.1 d_X_isSmall_1 (by decide) ?_
  refine xl_lc_lt (tgt := 18) E.1 E.2.1 d_X_isSmall_2 d_X_isSmall_3 (by decide) (fun h1 => ?_) (fun h1 => ?_)
  · skip
    refine lv_iconst (v := 0) E.1 E.2.1 d_X_isSmall_18 (by decide) ?_
    exact xr_zret E hr hk (by decide) hS (fun t ht _ => ⟨by rw [if_neg (fun z => by have := z.1; rw [Int64.le_iff_toInt_le] at this; rw [Int64.lt_iff_toInt_lt] at h1; omega)], ht⟩) d_X_isSmall_19
  · skip
    refine lv_lload_n E.1 E.2.1 d_X_isSmall_6 rfl (lv_at hl 0 rfl) ?_
    refine lv_ldc2 (v := 64) E.1 E.2.1 E.2.2.2.1 (E.2.2.2.2 _ co_X_147) d_X_isSmall_7 ?_
    refine xl_lc_ge (tgt := 18) E.1 E.2.1 d_X_isSmall_10 d_X_isSmall_11 (by decide) (fun h2 => ?_) (fun h2 => ?_)
    · skip
      refine lv_iconst (v := 0) E.1 E.2.1 d_X_isSmall_18 (by decide) ?_
      exact xr_zret E hr hk (by decide) hS (fun t ht _ => ⟨by rw [if_neg (fun z => by have := z.2; rw [Int64.lt_iff_toInt_lt] at this; rw [Int64.le_iff_toInt_le] at h2; omega)], ht⟩) d_X_isSmall_19
    · skip
      refine lv_iconst (v := 1) E.1 E.2.1 d_X_isSmall_14 (by decide) ?_
      refine lv_goto (tgt := 19) E.1 E.2.1 d_X_isSmall_15 (by decide) ?_
      exact xr_zret E hr hk (by decide) hS (fun t ht _ => ⟨by rw [if_pos ⟨by rw [Int64.le_iff_toInt_le]; rw [Int64.lt_iff_toInt_lt] at h1; omega, by rw [Int64.lt_iff_toInt_lt]; rw [Int64.le_iff_toInt_le] at h2; omega⟩], ht⟩) d_X_isSmall_19
set_option maxHeartbeats 4000000 in
set_option maxRecDepth 100000 in
theorem c_lengthWidth (l : Launch) (k : Nat) (hkb : k < 2 ^ 31) : xM l y_X_lengthWidth w_X_lengthWidth (xrm 0) [.int (nI k)] (fun _ => True) xNA (fun v st t => v = some (.int (nI (xlw k))) ∧ t.heap = st.heap) (fun _ _ _ => False) := by
  refine xM.of (by decide) ?_
  intro p e s m args below meth c hav E hr hk hh hnm _
  subst hav
  have hS : va_S xNA s.heap s.heap [] := va_S.rf
  refine xl_entry _ (Nat.le_of_ble_eq_true rfl) (fun ls hl => ?_)
  have hl : lv_has ls 1 [(0, .int (nI k))] := hl
  refine lv_iload_n E.1 E.2.1 d_X_lengthWidth_0 rfl (lv_at hl 0 rfl) ?_
  refine lv_sipush (v := 128) E.1 E.2.1 d_X_lengthWidth_1 (by decide) ?_
  refine lv_icmp_lt (tgt := 19) E.1 E.2.1 d_X_lengthWidth_4 (by decide) (fun h1 => ?_) (fun h1 => ?_)
  · skip
    have h1 : k < 128 := (nI_ltI hkb (by decide)).mp h1
    refine lv_bipush (v := 8) E.1 E.2.1 d_X_lengthWidth_19 (by decide) ?_
    exact xr_iret E hr hk hS (fun t ht _ => ⟨by unfold xlw; rw [if_neg (by omega)]; rfl, ht⟩) d_X_lengthWidth_21
  · skip
    have h1 : ¬ k < 128 := fun z => h1 ((nI_ltI hkb (by decide)).mpr z)
    refine lv_iload_n E.1 E.2.1 d_X_lengthWidth_7 rfl (lv_at hl 0 rfl) ?_
    refine lv_sipush (v := 16384) E.1 E.2.1 d_X_lengthWidth_8 (by decide) ?_
    refine lv_icmp_ge (tgt := 19) E.1 E.2.1 d_X_lengthWidth_11 (by decide) (fun h2 => ?_) (fun h2 => ?_)
    · skip
      have h2 : 16384 ≤ k := (nI_leI (by decide) hkb).mp h2
      refine lv_bipush (v := 8) E.1 E.2.1 d_X_lengthWidth_19 (by decide) ?_
      exact xr_iret E hr hk hS (fun t ht _ => ⟨by unfold xlw; rw [if_neg (by omega)]; rfl, ht⟩) d_X_lengthWidth_21
    · skip
      have h2 : ¬ 16384 ≤ k := fun z => h2 ((nI_leI (by decide) hkb).mpr z)
      refine lv_bipush (v := 16) E.1 E.2.1 d_X_lengthWidth_14 (by decide) ?_
      refine lv_goto (tgt := 21) E.1 E.2.1 d_X_lengthWidth_16 (by decide) ?_
      exact xr_iret E hr hk hS (fun t ht _ => ⟨by unfold xlw; rw [if_pos (by omega)]; rfl, ht⟩) d_X_lengthWidth_21
end XL10
end
section
/-! The class: codes of lengths; a bit read, a bit set, bits appended. -/
section XL11
set_option maxHeartbeats 4000000 in
set_option maxRecDepth 100000 in
theorem c_lengthCode (l : Launch) (k : Nat) (hkb : k ≤ 65536) : xM l y_X_lengthCode w_X_lengthCode (xrm 0) [.int (nI k)] (fun _ => True) xNA (fun v st t => v = some (.int (nI (xlc k))) ∧ t.heap = st.heap) (fun _ _ _ => False) := by
  refine xM.of (by decide) ?_
  intro p e s m args below meth c hav E hr hk hh hnm _
  subst hav
  have hS : va_S xNA s.heap s.heap [] := va_S.rf
  have hkb' : k < 2 ^ 31 := by omega
  refine xl_entry _ (Nat.le_of_ble_eq_true rfl) (fun ls hl => ?_)
  have hl : lv_has ls 1 [(0, .int (nI k))] := hl
  refine lv_iload_n E.1 E.2.1 d_X_lengthCode_0 rfl (lv_at hl 0 rfl) ?_
  refine lv_sipush (v := 128) E.1 E.2.1 d_X_lengthCode_1 (by decide) ?_
  refine lv_icmp_ge (tgt := 9) E.1 E.2.1 d_X_lengthCode_4 (by decide) (fun h1 => ?_) (fun h1 => ?_)
  · skip
    have h1 : 128 ≤ k := (nI_leI (by decide) hkb').mp h1
    refine lv_iload_n E.1 E.2.1 d_X_lengthCode_9 rfl (lv_at hl 0 rfl) ?_
    refine lv_sipush (v := 16384) E.1 E.2.1 d_X_lengthCode_10 (by decide) ?_
    refine lv_icmp_ge (tgt := 23) E.1 E.2.1 d_X_lengthCode_13 (by decide) (fun h2 => ?_) (fun h2 => ?_)
    · skip
      have h2 : 16384 ≤ k := (nI_leI (by decide) hkb').mp h2
      refine lv_sipush (v := 192) E.1 E.2.1 d_X_lengthCode_23 (by decide) ?_
      refine lv_iload_n E.1 E.2.1 d_X_lengthCode_26 rfl (lv_at hl 0 rfl) ?_
      refine lv_sipush (v := 16384) E.1 E.2.1 d_X_lengthCode_27 (by decide) ?_
      refine lv_idiv E.1 E.2.1 d_X_lengthCode_30 (by decide) ?_
      refine xl_ti (y := (nI (k / 16384))) (pk_div hkb' (by decide) (by decide)) ?_
      refine lv_ior E.1 E.2.1 d_X_lengthCode_31 ?_
      exact xr_iret E hr hk hS (fun t ht _ => ⟨by unfold xlc; rw [if_neg (by omega), if_neg (by omega), ← or_6 (show k / 16384 < 64 by omega), ← nx_or]; rfl, ht⟩) d_X_lengthCode_32
    · skip
      have h2 : ¬ 16384 ≤ k := fun z => h2 ((nI_leI (by decide) hkb').mpr z)
      refine lv_ldc (v := 32768) E.1 E.2.1 E.2.2.2.1 (E.2.2.2.2 _ co_X_155) d_X_lengthCode_16 ?_
      refine lv_iload_n E.1 E.2.1 d_X_lengthCode_18 rfl (lv_at hl 0 rfl) ?_
      refine lv_ior E.1 E.2.1 d_X_lengthCode_19 ?_
      refine lv_goto (tgt := 32) E.1 E.2.1 d_X_lengthCode_20 (by decide) ?_
      exact xr_iret E hr hk hS (fun t ht _ => ⟨by unfold xlc; rw [if_neg (by omega), if_pos (by omega), ← or_15 (show k < 32768 by omega), ← nx_or]; rfl, ht⟩) d_X_lengthCode_32
  · skip
    have h1 : ¬ 128 ≤ k := fun z => h1 ((nI_leI (by decide) hkb').mpr z)
    refine lv_iload_n E.1 E.2.1 d_X_lengthCode_7 rfl (lv_at hl 0 rfl) ?_
    exact xr_iret E hr hk hS (fun t ht _ => ⟨by unfold xlc; rw [if_pos (by omega)], ht⟩) d_X_lengthCode_8
set_option maxHeartbeats 4000000 in
set_option maxRecDepth 100000 in
theorem c_bit (l : Launch) (D : va_G) (a w : Nat) (cJ cZ : ClassId) (β : Nat → Bool) (n q i : Nat) (hi : i < 65536) : xM l y_X_bit w_X_bit (xrm 0) [.ref a, .int (nI i)] (wX D a w cJ cZ β n q) xNA (fun v st t => v = some (.long (lN (β i).toNat)) ∧ t.heap = st.heap) (fun _ _ _ => False) := by
  refine xM.of (by decide) ?_
  intro p e s m args below meth c hav E hr hk hh hnm hwX
  subst hav
  obtain ⟨hP, hK⟩ := hwX
  obtain ⟨f, hf, hP⟩ := hP
  have hS : va_S xNA s.heap s.heap [] := va_S.rf
  refine xl_entry _ (Nat.le_of_ble_eq_true rfl) (fun ls hl => ?_)
  have hl : lv_has ls 2 [(0, .ref a), (1, .int (nI i))] := hl
  refine lv_aload_n E.1 E.2.1 d_X_bit_0 rfl (lv_at hl 0 rfl) ?_
  refine gx_words E hK hP d_X_bit_1 ?_
  refine lv_iload_n E.1 E.2.1 d_X_bit_4 rfl (lv_at hl 1 rfl) ?_
  refine lv_bipush (v := 64) E.1 E.2.1 d_X_bit_5 (by decide) ?_
  refine lv_idiv E.1 E.2.1 d_X_bit_7 (by decide) ?_
  refine xl_ti (y := (nI (i / 64))) (pk_div (by omega) (by decide) (by decide)) ?_
  refine va_lald E.1 E.2.1 hK hP 1 0 rfl rfl (vp_in_nI (by omega) (by decide)) d_X_bit_8 ?_
  refine xl_tl (y := (f (i / 64))) (by rw [nI_clamp (by omega)]) ?_
  refine lv_iload_n E.1 E.2.1 d_X_bit_9 rfl (lv_at hl 1 rfl) ?_
  refine lv_bipush (v := 64) E.1 E.2.1 d_X_bit_10 (by decide) ?_
  refine lv_irem E.1 E.2.1 d_X_bit_12 (by decide) ?_
  refine xl_ti (y := (nI (i % 64))) (pk_rem (by omega) (by decide) (by decide)) ?_
  refine lv_lushr (v := xsh (f (i / 64)) (nI (i % 64))) E.1 E.2.1 d_X_bit_13 rfl ?_
  refine lv_lconst (v := 1) E.1 E.2.1 d_X_bit_14 (by decide) ?_
  refine lv_land E.1 E.2.1 d_X_bit_15 ?_
  refine xl_tl (y := (lN (β i).toNat)) (by rw [xsh_1 _ (by omega), ← hf]; rfl) ?_
  exact xr_lret E hr hk hS (fun t ht _ => ⟨rfl, ht⟩) d_X_bit_16
set_option maxHeartbeats 4000000 in
set_option maxRecDepth 100000 in
theorem c_setBit (l : Launch) (D : va_G) (a w : Nat) (cJ cZ : ClassId) (β : Nat → Bool) (n q i : Nat) (b : Bool) (hi : i < 65536) (hne : a ≠ w) : xM l y_X_setBit w_X_setBit (xrm 0) [.ref a, .int (nI i), .long (lN b.toNat)] (wX D a w cJ cZ β n q) (xA2 a w) (fun v st t => v = none ∧ PX D a w cJ (va_up β i b) n q t.heap) (fun _ _ _ => False) := by
  refine xM.of (by decide) ?_
  intro p e s m args below meth c hav E hr hk hh hnm hwX
  subst hav
  obtain ⟨hP, hK⟩ := hwX
  obtain ⟨f, hf, hP⟩ := hP
  have hS : va_S (xA2 a w) s.heap s.heap [] := va_S.rf
  refine xl_entry _ (Nat.le_of_ble_eq_true rfl) (fun ls hl => ?_)
  have hl : lv_has ls 7 [(0, .ref a), (1, .int (nI i)), (2, .long (lN b.toNat))] := hl
  refine lv_lconst (v := 1) E.1 E.2.1 d_X_setBit_0 (by decide) ?_
  refine lv_iload_n E.1 E.2.1 d_X_setBit_1 rfl (lv_at hl 1 rfl) ?_
  refine lv_bipush (v := 64) E.1 E.2.1 d_X_setBit_2 (by decide) ?_
  refine lv_irem E.1 E.2.1 d_X_setBit_4 (by decide) ?_
  refine xl_ti (y := (nI (i % 64))) (pk_rem (by omega) (by decide) (by decide)) ?_
  refine lv_lshl (v := xsl 1 (nI (i % 64))) E.1 E.2.1 d_X_setBit_5 rfl ?_
  refine xl_tl (y := (lN (2 ^ (i % 64)))) (xsl_1 (by omega)) ?_
  refine lv_lstore E.1 E.2.1 d_X_setBit_6 hl (by decide) rfl (fun ls hl => ?_)
  have hl : lv_has ls 7 [(4, .long (lN (2 ^ (i % 64)))), (0, .ref a), (1, .int (nI i)), (2, .long (lN b.toNat))] := hl
  refine lv_iload_n E.1 E.2.1 d_X_setBit_8 rfl (lv_at hl 2 rfl) ?_
  refine lv_bipush (v := 64) E.1 E.2.1 d_X_setBit_9 (by decide) ?_
  refine lv_idiv E.1 E.2.1 d_X_setBit_11 (by decide) ?_
  refine xl_ti (y := (nI (i / 64))) (pk_div (by omega) (by decide) (by decide)) ?_
  refine lv_istore E.1 E.2.1 d_X_setBit_12 hl (by decide) rfl (fun ls hl => ?_)
  have hl : lv_has ls 7 [(6, .int (nI (i / 64))), (4, .long (lN (2 ^ (i % 64)))), (0, .ref a), (1, .int (nI i)), (2, .long (lN b.toNat))] := hl
  refine lv_aload_n E.1 E.2.1 d_X_setBit_14 rfl (lv_at hl 2 rfl) ?_
  refine gx_words E hK hP d_X_setBit_15 ?_
  refine lv_iload E.1 E.2.1 d_X_setBit_18 (lv_at hl 0 rfl) ?_
  refine lv_lload_n E.1 E.2.1 d_X_setBit_20 rfl (lv_at hl 4 rfl) ?_
  refine lv_lconst (v := 1) E.1 E.2.1 d_X_setBit_21 (by decide) ?_
  refine xl_lc_ne (tgt := 39) E.1 E.2.1 d_X_setBit_22 d_X_setBit_23 (by decide) (fun h1 => ?_) (fun h1 => ?_)
  · skip
    have hb : b = false := by
      cases b
      · rfl
      · exact absurd rfl h1
    subst hb
    refine lv_aload_n E.1 E.2.1 d_X_setBit_39 rfl (lv_at hl 2 rfl) ?_
    refine gx_words E hK hP d_X_setBit_40 ?_
    refine lv_iload E.1 E.2.1 d_X_setBit_43 (lv_at hl 0 rfl) ?_
    refine va_lald E.1 E.2.1 hK hP 1 0 rfl rfl (vp_in_nI (by omega) (by decide)) d_X_setBit_45 ?_
    refine xl_tl (y := (f (i / 64))) (by rw [nI_clamp (by omega)]) ?_
    refine lv_lload E.1 E.2.1 d_X_setBit_46 (lv_at hl 1 rfl) ?_
    refine lv_ldc2 (v := (-1)) E.1 E.2.1 E.2.2.2.1 (E.2.2.2.2 _ co_X_127) d_X_setBit_48 ?_
    refine lv_lxor E.1 E.2.1 d_X_setBit_51 ?_
    refine lv_land E.1 E.2.1 d_X_setBit_52 ?_
    refine va_last E.1 E.2.1 hK hP (xD2 hne) hS 1 0 rfl rfl (vp_in_nI (by omega) (by decide)) d_X_setBit_53 (fun H1 locs1 hP1 _ hS1 => ?_)
    have hP1 : va_P D xcl (xqX a w cJ (vp_updL f (nI (i / 64)).toNatClampNeg (f (i / 64) &&& (lN (2 ^ (i % 64)) ^^^ (-1)))) n q) H1 := hP1
    rw [nI_clamp (by omega)] at hP1
    exact xr_vret E hr hk hS1 (fun t ht _ => ⟨rfl, by rw [ht]; exact ⟨_, by funext j; rw [xw_clear, hf], hP1⟩⟩) d_X_setBit_54
  · skip
    have hb : b = true := by
      cases b
      · exact absurd h1 (by decide)
      · rfl
    subst hb
    refine lv_aload_n E.1 E.2.1 d_X_setBit_26 rfl (lv_at hl 2 rfl) ?_
    refine gx_words E hK hP d_X_setBit_27 ?_
    refine lv_iload E.1 E.2.1 d_X_setBit_30 (lv_at hl 0 rfl) ?_
    refine va_lald E.1 E.2.1 hK hP 1 0 rfl rfl (vp_in_nI (by omega) (by decide)) d_X_setBit_32 ?_
    refine xl_tl (y := (f (i / 64))) (by rw [nI_clamp (by omega)]) ?_
    refine lv_lload E.1 E.2.1 d_X_setBit_33 (lv_at hl 1 rfl) ?_
    refine lv_lor E.1 E.2.1 d_X_setBit_35 ?_
    refine lv_goto (tgt := 53) E.1 E.2.1 d_X_setBit_36 (by decide) ?_
    refine va_last E.1 E.2.1 hK hP (xD2 hne) hS 1 0 rfl rfl (vp_in_nI (by omega) (by decide)) d_X_setBit_53 (fun H1 locs1 hP1 _ hS1 => ?_)
    have hP1 : va_P D xcl (xqX a w cJ (vp_updL f (nI (i / 64)).toNatClampNeg (f (i / 64) ||| lN (2 ^ (i % 64)))) n q) H1 := hP1
    rw [nI_clamp (by omega)] at hP1
    exact xr_vret E hr hk hS1 (fun t ht _ => ⟨rfl, by rw [ht]; exact ⟨_, by funext j; rw [xw_set, hf], hP1⟩⟩) d_X_setBit_54
set_option maxHeartbeats 4000000 in
set_option maxRecDepth 100000 in
theorem c_append (l : Launch) (D : va_G) (a w : Nat) (cJ cZ : ClassId) (β : Nat → Bool) (n q k : Nat) (x : Int64) (hn : n + k ≤ 65536) (hk64 : k ≤ 64) (hne : a ≠ w) : xM l y_X_append w_X_append (xrm 1) [.ref a, .long x, .int (nI k)] (wX D a w cJ cZ β n q) (xA2 a w) (fun v st t => v = none ∧ PX D a w cJ (xa β n x k) (n + k) q t.heap) (fun _ _ _ => False) := by
  refine xM.of (by decide) ?_
  intro p e s m args below meth c hav E hr hk hh hnm hwX
  subst hav
  obtain ⟨hP, hK⟩ := hwX
  have hS : va_S (xA2 a w) s.heap s.heap [] := va_S.rf
  have key : ∀ (r : Nat) (β1 : Nat → Bool) (n1 : Nat) (H : Heap) (locs : List Loc) (ls : Array Slot), r ≤ 64 → n1 + r ≤ 65536 → xa β1 n1 x r = xa β n x k → n1 + r = n + k → PX D a w cJ β1 n1 q H → va_S (xA2 a w) s.heap H locs → lv_has ls 5 [(4, .int (nI r - 1)), (0, .ref a), (1, .long x), (3, .int (nI k))] →
      W p l e (xrm 1) s m [Value.ref a, .long x, .int (nI k)].toArray below meth c H locs 0 0 (xl_MQ below (xl_Q (xA2 a w) (fun v st t => v = none ∧ PX D a w cJ (xa β n x k) (n + k) q t.heap) (fun _ _ _ => False)) [Value.ref a, .long x, .int (nI k)].toArray s (xl_k 0 1) (xl_k 0 6) (xA2 a w)) (F0 m 5 ls []) := by
    intro r
    induction r with
    | zero =>
      intro β1 n1 H locs ls _ _ hβ hnn hP hS hl
      refine lv_iload E.1 E.2.1 d_X_append_5 (lv_at hl 0 rfl) ?_
      refine lv_if_lt (tgt := 40) E.1 E.2.1 d_X_append_7 (by decide) (fun h1 => ?_) (fun h1 => ?_)
      · skip
        have hnn : n1 = n + k := hnn
        subst hnn
        rw [xa_0] at hβ
        subst hβ
        exact xr_vret E hr hk hS (fun t ht _ => ⟨rfl, by rw [ht]; exact hP⟩) d_X_append_40
      · skip
        exact absurd (by decide) h1
    | succ r ih =>
      intro β1 n1 H locs ls hr64 hnr hβ hnn hP hS hl
      have e1 : nI (r + 1) - 1 = nI r := nI_pred r
      rw [e1] at hl
      refine lv_iload E.1 E.2.1 d_X_append_5 (lv_at hl 0 rfl) ?_
      refine lv_if_lt (tgt := 40) E.1 E.2.1 d_X_append_7 (by decide) (fun h1 => ?_) (fun h1 => ?_)
      · skip
        exact absurd h1 (nI_pos (by omega))
      · skip
        refine lv_aload_n E.1 E.2.1 d_X_append_10 rfl (lv_at hl 1 rfl) ?_
        refine lv_aload_n E.1 E.2.1 d_X_append_11 rfl (lv_at hl 1 rfl) ?_
        refine gx_size E hK hP d_X_append_12 ?_
        refine lv_lload_n E.1 E.2.1 d_X_append_15 rfl (lv_at hl 2 rfl) ?_
        refine lv_iload E.1 E.2.1 d_X_append_16 (lv_at hl 0 rfl) ?_
        refine lv_lushr (v := xsh x (nI r)) E.1 E.2.1 d_X_append_18 rfl ?_
        refine lv_lconst (v := 1) E.1 E.2.1 d_X_append_19 (by decide) ?_
        refine lv_land E.1 E.2.1 d_X_append_20 ?_
        refine xl_tl (y := (lN (xb x r).toNat)) (xsh_1 x (by omega)) ?_
        refine xg_goes (xc_V E xGT (c_setBit l D a w cJ cZ β1 n1 q n1 (xb x r) (by omega) hne) vw_X_setBit (by decide) (wX.call hP hK) (PX.recv hP hK) rfl hl.1 rfl (Nat.le_of_ble_eq_true rfl) d_X_append_21) hS (fun q _ h => h) (fun q h => h) (fun v st t locs1 h0 hal hrt hS1 hz hkp => ?_) (fun x st t locs1 h0 hal hth => hth.elim)
        obtain ⟨rfl, hP1⟩ := hrt
        refine W.eq (g2 := F0 m 24 ls []) rfl ?_
        generalize t.heap = H1 at hP1 hS1 hz hkp ⊢
        clear hP hS
        have hP := hP1
        have hS := hS1
        refine lv_aload_n E.1 E.2.1 d_X_append_24 rfl (lv_at hl 1 rfl) ?_
        refine lv_dup E.1 E.2.1 d_X_append_25 rfl ?_
        refine gx_size E hK hP d_X_append_26 ?_
        refine lv_iconst (v := 1) E.1 E.2.1 d_X_append_29 (by decide) ?_
        refine lv_iadd E.1 E.2.1 d_X_append_30 ?_
        refine xl_ti (y := (nI (n1 + 1))) (nI_1 n1) ?_
        refine sx_size (k := n1 + 1) E hK hP hne hS d_X_append_31 (fun H2 locs2 hP2 hS2 => ?_)
        refine lv_iinc (k := 0) (v := (nI r) + (-1)) E.1 E.2.1 d_X_append_34 hl rfl rfl (by decide) rfl (fun ls hl => ?_)
        have hl : lv_has ls 5 [(4, .int ((nI r) + (-1))), (0, .ref a), (1, .long x), (3, .int (nI k))] := hl
        refine lv_goto (tgt := 5) E.1 E.2.1 d_X_append_37 (by decide) ?_
        rw [← Int32.sub_eq_add_neg] at hl
        refine ih _ (n1 + 1) H2 locs2 ls (by omega) (by omega) ?_ (by omega) hP2 hS2 hl
        rw [xa_succ]
        exact hβ
  refine xl_entry _ (Nat.le_of_ble_eq_true rfl) (fun ls hl => ?_)
  have hl : lv_has ls 5 [(0, .ref a), (1, .long x), (3, .int (nI k))] := hl
  refine lv_iload_n E.1 E.2.1 d_X_append_0 rfl (lv_at hl 2 rfl) ?_
  refine lv_iconst (v := 1) E.1 E.2.1 d_X_append_1 (by decide) ?_
  refine lv_isub E.1 E.2.1 d_X_append_2 ?_
  refine lv_istore E.1 E.2.1 d_X_append_3 hl (by decide) rfl (fun ls hl => ?_)
  have hl : lv_has ls 5 [(4, .int ((nI k) - 1)), (0, .ref a), (1, .long x), (3, .int (nI k))] := hl
  exact key k β n s.heap [] ls hk64 hn rfl rfl hP hS hl
end XL11
end
section
/-! The JDK's own: leading zeros, comparison without sign. -/
section XL11b
def xus (x k : Int32) : Int32 := (x.toUInt32 >>> (k.toUInt32 &&& Int32.toUInt32 31)).toInt32
theorem nI_int {k : Nat} (h : k < 2 ^ 32) : (nI k).toInt = if 2 * k < 4294967296 then (k : Int) else (k : Int) - 4294967296 := by
  have := BitVec.toInt_eq_toNat_cond (nI k).toBitVec
  rw [pk_tn h] at this
  exact this
theorem nI_neg {m e : Nat} (h : e ≤ m) : nI m + (-nI e) = nI (m - e) := by
  rw [← Int32.sub_eq_add_neg]
  exact pk_sub h
set_option maxHeartbeats 4000000 in
set_option maxRecDepth 100000 in
theorem c_nlz32 (l : Launch) (k : Nat) (hkb : k < 2 ^ 32) : xM l y_I_numberOfLeadingZeros w_I_numberOfLeadingZeros (xrm 0) [.int (nI k)] (fun _ => True) xNA (fun v st t => v = some (.int (nI (32 - nbl k))) ∧ t.heap = st.heap) (fun _ _ _ => False) := by
  refine xM.of (by decide) ?_
  intro p e s m args below meth c hav E hr hk hh hnm _
  subst hav
  have hS : va_S xNA s.heap s.heap [] := va_S.rf
  have hki := nI_int hkb
  refine xl_entry _ (Nat.le_of_ble_eq_true rfl) (fun ls hl => ?_)
  have hl : lv_has ls 2 [(0, .int (nI k))] := hl
  refine lv_iload_n E.1 E.2.1 d_I_numberOfLeadingZeros_0 rfl (lv_at hl 0 rfl) ?_
  refine lv_if_gt (tgt := 15) E.1 E.2.1 d_I_numberOfLeadingZeros_1 (by decide) (fun h1 => ?_) (fun h1 => ?_)
  · skip
    have h2 : 0 < k ∧ k < 2147483648 := by
      rw [Int32.lt_iff_toInt_lt, hki, Int32.toInt_zero] at h1
      split at h1 <;> omega
    have hk31 : nbl k ≤ 31 := nbl_le.mpr (by omega)
    refine xl_join (fun ls : Array Slot => ∃ k1 m1 : Nat, 0 < k1 ∧ k1 < 4 ∧ nbl k + m1 = nbl k1 + 31 ∧ m1 ≤ 31 ∧ lv_has ls 2 [(0, .int (nI k1)), (1, .int (nI m1))]) (fun ls => F0 m 73 ls []) (fun ls hz => ?_) (fun j73 => ?_)
    · obtain ⟨k1, m1, g1, g2, g3, g4, hl⟩ := hz
      refine lv_iload_n E.1 E.2.1 d_I_numberOfLeadingZeros_73 rfl (lv_at hl 1 rfl) ?_
      refine lv_iload_n E.1 E.2.1 d_I_numberOfLeadingZeros_74 rfl (lv_at hl 0 rfl) ?_
      refine lv_iconst (v := 1) E.1 E.2.1 d_I_numberOfLeadingZeros_75 (by decide) ?_
      refine lv_iushr (v := xus (nI k1) 1) E.1 E.2.1 d_I_numberOfLeadingZeros_76 rfl ?_
      refine xl_ti (y := (nI (k1 / 2))) (pk_ushrN (by omega) 1 1 (by decide)) ?_
      refine lv_isub E.1 E.2.1 d_I_numberOfLeadingZeros_77 ?_
      have g5 : nbl k1 = 1 + k1 / 2 := by
        rcases (show k1 = 1 ∨ k1 = 2 ∨ k1 = 3 by omega) with rfl | rfl | rfl <;> decide
      refine xl_ti (y := (nI (32 - nbl k))) (by rw [pk_sub (by omega)]; congr 1; omega) ?_
      exact xr_iret E hr hk hS (fun t ht _ => ⟨rfl, ht⟩) d_I_numberOfLeadingZeros_78
    refine xl_join (fun ls : Array Slot => ∃ k1 m1 : Nat, 0 < k1 ∧ k1 < 16 ∧ nbl k + m1 = nbl k1 + 31 ∧ m1 ≤ 31 ∧ lv_has ls 2 [(0, .int (nI k1)), (1, .int (nI m1))]) (fun ls => F0 m 61 ls []) (fun ls hz => ?_) (fun j61 => ?_)
    · obtain ⟨k1, m1, g1, g2, g3, g4, hl⟩ := hz
      refine lv_iload_n E.1 E.2.1 d_I_numberOfLeadingZeros_61 rfl (lv_at hl 0 rfl) ?_
      refine lv_iconst (v := 4) E.1 E.2.1 d_I_numberOfLeadingZeros_62 (by decide) ?_
      refine lv_icmp_lt (tgt := 73) E.1 E.2.1 d_I_numberOfLeadingZeros_63 (by decide) (fun h3 => ?_) (fun h3 => ?_)
      · skip
        exact j73 ls ⟨k1, m1, g1, (nI_ltI (b := 4) (by omega) (by decide)).mp h3, g3, g4, hl⟩
      · skip
        have h3 : 2 ^ 2 ≤ k1 := Nat.not_lt.mp (fun z => h3 ((nI_ltI (b := 4) (by omega) (by decide)).mpr z))
        have g5 := nbl_div h3
        refine lv_iinc (k := 1) (v := (nI m1) + (-2)) E.1 E.2.1 d_I_numberOfLeadingZeros_66 hl rfl rfl (by decide) rfl (fun ls hl => ?_)
        have hl : lv_has ls 2 [(1, .int ((nI m1) + (-2))), (0, .int (nI k1))] := hl
        refine lv_iload_n E.1 E.2.1 d_I_numberOfLeadingZeros_69 rfl (lv_at hl 1 rfl) ?_
        refine lv_iconst (v := 2) E.1 E.2.1 d_I_numberOfLeadingZeros_70 (by decide) ?_
        refine lv_iushr (v := xus (nI k1) 2) E.1 E.2.1 d_I_numberOfLeadingZeros_71 rfl ?_
        refine xl_ti (y := (nI (k1 / 2 ^ 2))) (pk_ushrN (by omega) 2 2 (by decide)) ?_
        refine lv_istore_n E.1 E.2.1 d_I_numberOfLeadingZeros_72 rfl hl (by decide) rfl (fun ls hl => ?_)
        have hl : lv_has ls 2 [(0, .int (nI (k1 / 2 ^ 2))), (1, .int ((nI m1) + (-2)))] := hl
        have g6 : 0 < nbl (k1 / 2 ^ 2) := by rw [Nat.pos_iff_ne_zero]; intro z; rw [nbl_0] at z; omega
        rw [show nI m1 + (-2) = nI (m1 - 2) from nI_neg (e := 2) (by omega)] at hl
        exact j73 ls ⟨_, _, by omega, by omega, by omega, by omega, hl⟩
    refine xl_join (fun ls : Array Slot => ∃ k1 m1 : Nat, 0 < k1 ∧ k1 < 256 ∧ nbl k + m1 = nbl k1 + 31 ∧ m1 ≤ 31 ∧ lv_has ls 2 [(0, .int (nI k1)), (1, .int (nI m1))]) (fun ls => F0 m 48 ls []) (fun ls hz => ?_) (fun j48 => ?_)
    · obtain ⟨k1, m1, g1, g2, g3, g4, hl⟩ := hz
      refine lv_iload_n E.1 E.2.1 d_I_numberOfLeadingZeros_48 rfl (lv_at hl 0 rfl) ?_
      refine lv_bipush (v := 16) E.1 E.2.1 d_I_numberOfLeadingZeros_49 (by decide) ?_
      refine lv_icmp_lt (tgt := 61) E.1 E.2.1 d_I_numberOfLeadingZeros_51 (by decide) (fun h3 => ?_) (fun h3 => ?_)
      · skip
        exact j61 ls ⟨k1, m1, g1, (nI_ltI (b := 16) (by omega) (by decide)).mp h3, g3, g4, hl⟩
      · skip
        have h3 : 2 ^ 4 ≤ k1 := Nat.not_lt.mp (fun z => h3 ((nI_ltI (b := 16) (by omega) (by decide)).mpr z))
        have g5 := nbl_div h3
        refine lv_iinc (k := 1) (v := (nI m1) + (-4)) E.1 E.2.1 d_I_numberOfLeadingZeros_54 hl rfl rfl (by decide) rfl (fun ls hl => ?_)
        have hl : lv_has ls 2 [(1, .int ((nI m1) + (-4))), (0, .int (nI k1))] := hl
        refine lv_iload_n E.1 E.2.1 d_I_numberOfLeadingZeros_57 rfl (lv_at hl 1 rfl) ?_
        refine lv_iconst (v := 4) E.1 E.2.1 d_I_numberOfLeadingZeros_58 (by decide) ?_
        refine lv_iushr (v := xus (nI k1) 4) E.1 E.2.1 d_I_numberOfLeadingZeros_59 rfl ?_
        refine xl_ti (y := (nI (k1 / 2 ^ 4))) (pk_ushrN (by omega) 4 4 (by decide)) ?_
        refine lv_istore_n E.1 E.2.1 d_I_numberOfLeadingZeros_60 rfl hl (by decide) rfl (fun ls hl => ?_)
        have hl : lv_has ls 2 [(0, .int (nI (k1 / 2 ^ 4))), (1, .int ((nI m1) + (-4)))] := hl
        have g6 : 0 < nbl (k1 / 2 ^ 4) := by rw [Nat.pos_iff_ne_zero]; intro z; rw [nbl_0] at z; omega
        rw [show nI m1 + (-4) = nI (m1 - 4) from nI_neg (e := 4) (by omega)] at hl
        exact j61 ls ⟨_, _, by omega, by omega, by omega, by omega, hl⟩
    refine xl_join (fun ls : Array Slot => ∃ k1 m1 : Nat, 0 < k1 ∧ k1 < 65536 ∧ nbl k + m1 = nbl k1 + 31 ∧ m1 ≤ 31 ∧ lv_has ls 2 [(0, .int (nI k1)), (1, .int (nI m1))]) (fun ls => F0 m 33 ls []) (fun ls hz => ?_) (fun j33 => ?_)
    · obtain ⟨k1, m1, g1, g2, g3, g4, hl⟩ := hz
      refine lv_iload_n E.1 E.2.1 d_I_numberOfLeadingZeros_33 rfl (lv_at hl 0 rfl) ?_
      refine lv_sipush (v := 256) E.1 E.2.1 d_I_numberOfLeadingZeros_34 (by decide) ?_
      refine lv_icmp_lt (tgt := 48) E.1 E.2.1 d_I_numberOfLeadingZeros_37 (by decide) (fun h3 => ?_) (fun h3 => ?_)
      · skip
        exact j48 ls ⟨k1, m1, g1, (nI_ltI (b := 256) (by omega) (by decide)).mp h3, g3, g4, hl⟩
      · skip
        have h3 : 2 ^ 8 ≤ k1 := Nat.not_lt.mp (fun z => h3 ((nI_ltI (b := 256) (by omega) (by decide)).mpr z))
        have g5 := nbl_div h3
        refine lv_iinc (k := 1) (v := (nI m1) + (-8)) E.1 E.2.1 d_I_numberOfLeadingZeros_40 hl rfl rfl (by decide) rfl (fun ls hl => ?_)
        have hl : lv_has ls 2 [(1, .int ((nI m1) + (-8))), (0, .int (nI k1))] := hl
        refine lv_iload_n E.1 E.2.1 d_I_numberOfLeadingZeros_43 rfl (lv_at hl 1 rfl) ?_
        refine lv_bipush (v := 8) E.1 E.2.1 d_I_numberOfLeadingZeros_44 (by decide) ?_
        refine lv_iushr (v := xus (nI k1) 8) E.1 E.2.1 d_I_numberOfLeadingZeros_46 rfl ?_
        refine xl_ti (y := (nI (k1 / 2 ^ 8))) (pk_ushrN (by omega) 8 8 (by decide)) ?_
        refine lv_istore_n E.1 E.2.1 d_I_numberOfLeadingZeros_47 rfl hl (by decide) rfl (fun ls hl => ?_)
        have hl : lv_has ls 2 [(0, .int (nI (k1 / 2 ^ 8))), (1, .int ((nI m1) + (-8)))] := hl
        have g6 : 0 < nbl (k1 / 2 ^ 8) := by rw [Nat.pos_iff_ne_zero]; intro z; rw [nbl_0] at z; omega
        rw [show nI m1 + (-8) = nI (m1 - 8) from nI_neg (e := 8) (by omega)] at hl
        exact j48 ls ⟨_, _, by omega, by omega, by omega, by omega, hl⟩
    refine lv_bipush (v := 31) E.1 E.2.1 d_I_numberOfLeadingZeros_15 (by decide) ?_
    refine lv_istore_n E.1 E.2.1 d_I_numberOfLeadingZeros_17 rfl hl (by decide) rfl (fun ls hl => ?_)
    have hl : lv_has ls 2 [(1, .int 31), (0, .int (nI k))] := hl
    refine lv_iload_n E.1 E.2.1 d_I_numberOfLeadingZeros_18 rfl (lv_at hl 1 rfl) ?_
    refine lv_ldcw (v := 65536) E.1 E.2.1 E.2.2.2.1 (E.2.2.2.2 _ co_I_264) d_I_numberOfLeadingZeros_19 ?_
    refine lv_icmp_lt (tgt := 33) E.1 E.2.1 d_I_numberOfLeadingZeros_22 (by decide) (fun h3 => ?_) (fun h3 => ?_)
    · skip
      have hl := lv_sub hl (l' := [(0, .int (nI k)), (1, .int (nI 31))]) [1, 0] rfl
      exact j33 ls ⟨k, 31, h2.1, (nI_ltI (b := 65536) (by omega) (by decide)).mp h3, rfl, by decide, hl⟩
    · skip
      have h3 : 2 ^ 16 ≤ k := Nat.not_lt.mp (fun z => h3 ((nI_ltI (b := 65536) (by omega) (by decide)).mpr z))
      have g5 := nbl_div h3
      refine lv_iinc (k := 0) (v := 31 + (-16)) E.1 E.2.1 d_I_numberOfLeadingZeros_25 hl rfl rfl (by decide) rfl (fun ls hl => ?_)
      have hl : lv_has ls 2 [(1, .int (31 + (-16))), (0, .int (nI k))] := hl
      refine lv_iload_n E.1 E.2.1 d_I_numberOfLeadingZeros_28 rfl (lv_at hl 1 rfl) ?_
      refine lv_bipush (v := 16) E.1 E.2.1 d_I_numberOfLeadingZeros_29 (by decide) ?_
      refine lv_iushr (v := xus (nI k) 16) E.1 E.2.1 d_I_numberOfLeadingZeros_31 rfl ?_
      refine xl_ti (y := (nI (k / 2 ^ 16))) (pk_ushrN (by omega) 16 16 (by decide)) ?_
      refine lv_istore_n E.1 E.2.1 d_I_numberOfLeadingZeros_32 rfl hl (by decide) rfl (fun ls hl => ?_)
      have hl : lv_has ls 2 [(0, .int (nI (k / 2 ^ 16))), (1, .int (31 + (-16)))] := hl
      have g6 : 0 < nbl (k / 2 ^ 16) := by rw [Nat.pos_iff_ne_zero]; intro z; rw [nbl_0] at z; omega
      rw [show (31 : Int32) + (-16) = nI 15 by decide] at hl
      exact j33 ls ⟨_, 15, by omega, by omega, by omega, by decide, hl⟩
  · skip
    refine lv_iload_n E.1 E.2.1 d_I_numberOfLeadingZeros_4 rfl (lv_at hl 0 rfl) ?_
    refine lv_if_ne (tgt := 13) E.1 E.2.1 d_I_numberOfLeadingZeros_5 (by decide) (fun h2 => ?_) (fun h2 => ?_)
    · skip
      have h3 : 2147483648 ≤ k := by
        have h4 : ¬ k = 0 := fun z => h2 (by rw [z]; rfl)
        rw [Int32.lt_iff_toInt_lt, hki, Int32.toInt_zero] at h1
        split at h1 <;> omega
      have h5 : nbl k = 32 := nbl_eq hkb (fun _ => h3)
      refine lv_iconst (v := 0) E.1 E.2.1 d_I_numberOfLeadingZeros_13 (by decide) ?_
      exact xr_iret E hr hk hS (fun t ht _ => ⟨by rw [h5]; rfl, ht⟩) d_I_numberOfLeadingZeros_14
    · skip
      have h3 : k = 0 := by
        rw [← Int32.toInt_inj, hki, Int32.toInt_zero] at h2
        split at h2 <;> omega
      subst h3
      refine lv_bipush (v := 32) E.1 E.2.1 d_I_numberOfLeadingZeros_8 (by decide) ?_
      refine lv_goto (tgt := 14) E.1 E.2.1 d_I_numberOfLeadingZeros_10 (by decide) ?_
      exact xr_iret E hr hk hS (fun t ht _ => ⟨rfl, ht⟩) d_I_numberOfLeadingZeros_14
set_option maxHeartbeats 4000000 in
set_option maxRecDepth 100000 in
theorem c_nlz64 (l : Launch) (x : Int64) : xM l y_J_numberOfLeadingZeros w_J_numberOfLeadingZeros (xrm 1) [.long x] (fun _ => True) xNA (fun v st t => v = some (.int (nI (64 - nbl (uN x)))) ∧ t.heap = st.heap) (fun _ _ _ => False) := by
  refine xM.of (by decide) ?_
  intro p e s m args below meth c hav E hr hk hh hnm _
  subst hav
  have hS : va_S xNA s.heap s.heap [] := va_S.rf
  have hX := uN_lt x
  have hhi : (xsh x 32).toInt32 = nI (uN x / 2 ^ 32) := by
    have h : xsh x (nI 32) = lN (uN x / 2 ^ 32) := uN_inj (by rw [uN_lN (by omega)]; exact uN_sk x (by decide))
    rw [← lN_i, ← h]
    rfl
  have hlo : x.toInt32 = nI (uN x) := by
    rw [← lN_i, ← xN x]
  refine xl_entry _ (Nat.le_of_ble_eq_true rfl) (fun ls hl => ?_)
  have hl : lv_has ls 3 [(0, .long x)] := hl
  refine lv_lload_n E.1 E.2.1 d_J_numberOfLeadingZeros_0 rfl (lv_at hl 0 rfl) ?_
  refine lv_bipush (v := 32) E.1 E.2.1 d_J_numberOfLeadingZeros_1 (by decide) ?_
  refine lv_lushr (v := xsh x 32) E.1 E.2.1 d_J_numberOfLeadingZeros_3 rfl ?_
  refine lv_l2i (v := (xsh x 32).toInt32) E.1 E.2.1 d_J_numberOfLeadingZeros_4 rfl ?_
  refine xl_ti (y := (nI (uN x / 2 ^ 32))) (hhi) ?_
  refine lv_istore_n E.1 E.2.1 d_J_numberOfLeadingZeros_5 rfl hl (by decide) rfl (fun ls hl => ?_)
  have hl : lv_has ls 3 [(2, .int (nI (uN x / 2 ^ 32))), (0, .long x)] := hl
  refine lv_iload_n E.1 E.2.1 d_J_numberOfLeadingZeros_6 rfl (lv_at hl 0 rfl) ?_
  refine lv_if_ne (tgt := 21) E.1 E.2.1 d_J_numberOfLeadingZeros_7 (by decide) (fun h1 => ?_) (fun h1 => ?_)
  · skip
    have h1 : ¬ uN x / 2 ^ 32 = 0 := fun z => h1 (by rw [z]; rfl)
    have h2 : nbl (uN x) = 32 + nbl (uN x / 2 ^ 32) := nbl_div (by omega)
    refine lv_iload_n E.1 E.2.1 d_J_numberOfLeadingZeros_21 rfl (lv_at hl 0 rfl) ?_
    refine xg_looks (xc_S E xGT (c_nlz32 l (uN x / 2 ^ 32) (by omega)) sw_J_I_numberOfLeadingZeros (by decide) xNo rfl hl.1 rfl (Nat.le_of_ble_eq_true rfl) d_J_numberOfLeadingZeros_22) (fun v st t h => h.2) (fun v st t h0 hal hrt => ?_) (fun x st t h0 hal hth hz => hth.elim)
    obtain ⟨rfl, -⟩ := hrt
    refine W.eq (g2 := F0 m 25 ls [.int (nI (32 - nbl (uN x / 2 ^ 32)))]) rfl ?_
    exact xr_iret E hr hk hS (fun t ht _ => ⟨by rw [h2]; congr 3; omega, ht⟩) d_J_numberOfLeadingZeros_25
  · skip
    have h1 : uN x / 2 ^ 32 = 0 := by
      have h3 := nI_int (k := uN x / 2 ^ 32) (by omega)
      rw [h1, Int32.toInt_zero] at h3
      split at h3 <;> omega
    have h2 : nbl (uN x) ≤ 32 := nbl_le.mpr (by omega)
    refine lv_bipush (v := 32) E.1 E.2.1 d_J_numberOfLeadingZeros_10 (by decide) ?_
    refine lv_lload_n E.1 E.2.1 d_J_numberOfLeadingZeros_12 rfl (lv_at hl 1 rfl) ?_
    refine lv_l2i (v := x.toInt32) E.1 E.2.1 d_J_numberOfLeadingZeros_13 rfl ?_
    refine xl_ti (y := (nI (uN x))) (hlo) ?_
    refine xg_looks (xc_S E xGT (c_nlz32 l (uN x) (by omega)) sw_J_I_numberOfLeadingZeros (by decide) xNo rfl hl.1 rfl (Nat.le_of_ble_eq_true rfl) d_J_numberOfLeadingZeros_14) (fun v st t h => h.2) (fun v st t h0 hal hrt => ?_) (fun x st t h0 hal hth hz => hth.elim)
    obtain ⟨rfl, -⟩ := hrt
    refine W.eq (g2 := F0 m 17 ls [.int (nI (32 - nbl (uN x))), .int 32]) rfl ?_
    refine lv_iadd E.1 E.2.1 d_J_numberOfLeadingZeros_17 ?_
    refine xl_ti (y := (nI (64 - nbl (uN x)))) (by rw [show (32 : Int32) + nI (32 - nbl (uN x)) = nI (32 + (32 - nbl (uN x))) from nI_add 32 _]; congr 1; omega) ?_
    refine lv_goto (tgt := 25) E.1 E.2.1 d_J_numberOfLeadingZeros_18 (by decide) ?_
    exact xr_iret E hr hk hS (fun t ht _ => ⟨rfl, ht⟩) d_J_numberOfLeadingZeros_25
set_option maxHeartbeats 4000000 in
set_option maxRecDepth 100000 in
theorem c_bitsToHold (l : Launch) (x : Int64) : xM l y_X_bitsToHold w_X_bitsToHold (xrm 2) [.long x] (fun _ => True) xNA (fun v st t => v = some (.int (nI (nbl (uN x)))) ∧ t.heap = st.heap) (fun _ _ _ => False) := by
  refine xM.of (by decide) ?_
  intro p e s m args below meth c hav E hr hk hh hnm _
  subst hav
  have hS : va_S xNA s.heap s.heap [] := va_S.rf
  have hb := nbl_64 x
  refine xl_entry _ (Nat.le_of_ble_eq_true rfl) (fun ls hl => ?_)
  have hl : lv_has ls 2 [(0, .long x)] := hl
  refine lv_bipush (v := 64) E.1 E.2.1 d_X_bitsToHold_0 (by decide) ?_
  refine lv_lload_n E.1 E.2.1 d_X_bitsToHold_2 rfl (lv_at hl 0 rfl) ?_
  refine xg_looks (xc_S E xGT (c_nlz64 l x) sw_X_J_numberOfLeadingZeros (by decide) xNo rfl hl.1 rfl (Nat.le_of_ble_eq_true rfl) d_X_bitsToHold_3) (fun v st t h => h.2) (fun v st t h0 hal hrt => ?_) (fun x st t h0 hal hth hz => hth.elim)
  obtain ⟨rfl, -⟩ := hrt
  refine W.eq (g2 := F0 m 6 ls [.int (nI (64 - nbl (uN x))), .int 64]) rfl ?_
  refine lv_isub E.1 E.2.1 d_X_bitsToHold_6 ?_
  refine xl_ti (y := (nI (nbl (uN x)))) (by rw [show (64 : Int32) - nI (64 - nbl (uN x)) = nI (64 - (64 - nbl (uN x))) from pk_sub (a := 64) (b := 64 - nbl (uN x)) (Nat.sub_le _ _)]; congr 1; omega) ?_
  exact xr_iret E hr hk hS (fun t ht _ => ⟨rfl, ht⟩) d_X_bitsToHold_7
set_option maxHeartbeats 4000000 in
set_option maxRecDepth 100000 in
theorem c_compare (l : Launch) (x y : Int64) : xM l y_J_compare w_J_compare (xrm 0) [.long x, .long y] (fun _ => True) xNA (fun v st t => (∃ z : Int32, v = some (.int z) ∧ (0 < z ↔ y < x)) ∧ t.heap = st.heap) (fun _ _ _ => False) := by
  refine xM.of (by decide) ?_
  intro p e s m args below meth c hav E hr hk hh hnm _
  subst hav
  have hS : va_S xNA s.heap s.heap [] := va_S.rf
  refine xl_entry _ (Nat.le_of_ble_eq_true rfl) (fun ls hl => ?_)
  have hl : lv_has ls 4 [(0, .long x), (2, .long y)] := hl
  refine lv_lload_n E.1 E.2.1 d_J_compare_0 rfl (lv_at hl 0 rfl) ?_
  refine lv_lload_n E.1 E.2.1 d_J_compare_1 rfl (lv_at hl 1 rfl) ?_
  refine xl_lc_ge (tgt := 10) E.1 E.2.1 d_J_compare_2 d_J_compare_3 (by decide) (fun h1 => ?_) (fun h1 => ?_)
  · skip
    refine lv_lload_n E.1 E.2.1 d_J_compare_10 rfl (lv_at hl 0 rfl) ?_
    refine lv_lload_n E.1 E.2.1 d_J_compare_11 rfl (lv_at hl 1 rfl) ?_
    refine xl_lc_ne (tgt := 20) E.1 E.2.1 d_J_compare_12 d_J_compare_13 (by decide) (fun h2 => ?_) (fun h2 => ?_)
    · skip
      refine lv_iconst (v := 1) E.1 E.2.1 d_J_compare_20 (by decide) ?_
      refine xr_iret E hr hk hS (fun t ht _ => ⟨⟨_, rfl, fun _ => ?_, fun _ => by decide⟩, ht⟩) d_J_compare_21
      rw [Int64.le_iff_toInt_le] at h1
      rw [← Int64.toInt_inj] at h2
      rw [Int64.lt_iff_toInt_lt]
      omega
    · skip
      subst h2
      refine lv_iconst (v := 0) E.1 E.2.1 d_J_compare_16 (by decide) ?_
      refine lv_goto (tgt := 21) E.1 E.2.1 d_J_compare_17 (by decide) ?_
      refine xr_iret E hr hk hS (fun t ht _ => ⟨⟨_, rfl, fun z => absurd z (by decide), fun z => ?_⟩, ht⟩) d_J_compare_21
      rw [Int64.lt_iff_toInt_lt] at z
      omega
  · skip
    refine lv_iconst (v := (-1)) E.1 E.2.1 d_J_compare_6 (by decide) ?_
    refine lv_goto (tgt := 21) E.1 E.2.1 d_J_compare_7 (by decide) ?_
    refine xr_iret E hr hk hS (fun t ht _ => ⟨⟨_, rfl, fun z => absurd z (by decide), fun z => absurd ?_ h1⟩, ht⟩) d_J_compare_21
    rw [Int64.lt_iff_toInt_lt] at z
    rw [Int64.le_iff_toInt_le]
    omega
theorem uN_flip (x y : Int64) : y + (-9223372036854775808) < x + (-9223372036854775808) ↔ uN y < uN x := by
  have hx := uN_lt x
  have hy := uN_lt y
  have e : uN (-9223372036854775808) = 9223372036854775808 := by decide
  rw [Int64.lt_iff_toInt_lt, uN_int, uN_int, uN_add, uN_add, e]
  omega
set_option maxHeartbeats 4000000 in
set_option maxRecDepth 100000 in
theorem c_compareUnsigned (l : Launch) (x y : Int64) : xM l y_J_compareUnsigned w_J_compareUnsigned (xrm 1) [.long x, .long y] (fun _ => True) xNA (fun v st t => (∃ z : Int32, v = some (.int z) ∧ (0 < z ↔ uN y < uN x)) ∧ t.heap = st.heap) (fun _ _ _ => False) := by
  refine xM.of (by decide) ?_
  intro p e s m args below meth c hav E hr hk hh hnm _
  subst hav
  have hS : va_S xNA s.heap s.heap [] := va_S.rf
  refine xl_entry _ (Nat.le_of_ble_eq_true rfl) (fun ls hl => ?_)
  have hl : lv_has ls 4 [(0, .long x), (2, .long y)] := hl
  refine lv_lload_n E.1 E.2.1 d_J_compareUnsigned_0 rfl (lv_at hl 0 rfl) ?_
  refine lv_ldc2 (v := (-9223372036854775808)) E.1 E.2.1 E.2.2.2.1 (E.2.2.2.2 _ co_J_168) d_J_compareUnsigned_1 ?_
  refine lv_ladd E.1 E.2.1 d_J_compareUnsigned_4 ?_
  refine lv_lload_n E.1 E.2.1 d_J_compareUnsigned_5 rfl (lv_at hl 1 rfl) ?_
  refine lv_ldc2 (v := (-9223372036854775808)) E.1 E.2.1 E.2.2.2.1 (E.2.2.2.2 _ co_J_168) d_J_compareUnsigned_6 ?_
  refine lv_ladd E.1 E.2.1 d_J_compareUnsigned_9 ?_
  refine xg_looks (xc_S E xGT (c_compare l (x + (-9223372036854775808)) (y + (-9223372036854775808))) sw_J_compare (by decide) xNo rfl hl.1 rfl (Nat.le_of_ble_eq_true rfl) d_J_compareUnsigned_10) (fun v st t h => h.2) (fun v st t h0 hal hrt => ?_) (fun x st t h0 hal hth hz => hth.elim)
  obtain ⟨⟨z, rfl, hz⟩, -⟩ := hrt
  rw [uN_flip] at hz
  refine W.eq (g2 := F0 m 13 ls [.int z]) rfl ?_
  exact xr_iret E hr hk hS (fun t ht _ => ⟨⟨z, rfl, hz⟩, ht⟩) d_J_compareUnsigned_13
end XL11b
end
section
/-! The class: how wide a number is. (c_bitsToHold stands ahead.) -/
section XL12
def xnw (kind : Int32) (v : Int64) : Nat := if kind = 2 ∧ (0 ≤ v ∧ v < 64) then 7 else xt kind + 8 + 8 * nb kind v
theorem xt_1 (kind : Int32) : xt kind ≤ 1 := by
  unfold xt
  split <;> omega
theorem xnw_b (kind : Int32) (v : Int64) : xnw kind v ≤ 73 := by
  have h1 := nb_8 kind v
  have h2 := xt_1 kind
  unfold xnw
  split <;> omega
set_option maxHeartbeats 4000000 in
set_option maxRecDepth 100000 in
theorem c_bytesToHold (l : Launch) (kind : Int32) (v : Int64) : xM l y_X_bytesToHold w_X_bytesToHold (xrm 3) [.int kind, .long v] (fun _ => True) xNA (fun z st t => z = some (.int (nI (nb kind v))) ∧ t.heap = st.heap) (fun _ _ _ => False) := by
  refine xM.of (by decide) ?_
  intro p e s m args below meth c hav E hr hk hh hnm _
  subst hav
  have hS : va_S xNA s.heap s.heap [] := va_S.rf
  have hb1 := nbl_64 v
  have hb2 : nbl (uN (xav v)) ≤ 63 := nbl_le.mpr (xav_lt v)
  refine xl_entry _ (Nat.le_of_ble_eq_true rfl) (fun ls hl => ?_)
  have hl : lv_has ls 4 [(0, .int kind), (1, .long v)] := hl
  refine xl_join (fun z : Int32 => ∃ bt : Nat, bt ≤ 64 ∧ z = nI bt ∧ nb kind v = max 1 ((bt + 7) / 8)) (fun z => F0 m 32 ls [.int z]) (fun z hz => ?_) (fun hj => ?_)
  · obtain ⟨bt, hbt, rfl, hnb⟩ := hz
    refine lv_istore_n E.1 E.2.1 d_X_bytesToHold_32 rfl hl (by decide) rfl (fun ls hl => ?_)
    have hl : lv_has ls 4 [(3, .int (nI bt)), (0, .int kind), (1, .long v)] := hl
    refine lv_iconst (v := 1) E.1 E.2.1 d_X_bytesToHold_33 (by decide) ?_
    refine lv_iload_n E.1 E.2.1 d_X_bytesToHold_34 rfl (lv_at hl 0 rfl) ?_
    refine lv_bipush (v := 8) E.1 E.2.1 d_X_bytesToHold_35 (by decide) ?_
    refine lv_iadd E.1 E.2.1 d_X_bytesToHold_37 ?_
    refine xl_ti (y := (nI (bt + 8))) (nI_add bt 8) ?_
    refine lv_iconst (v := 1) E.1 E.2.1 d_X_bytesToHold_38 (by decide) ?_
    refine lv_isub E.1 E.2.1 d_X_bytesToHold_39 ?_
    refine xl_ti (y := (nI (bt + 7))) (nI_pred (bt + 7)) ?_
    refine lv_bipush (v := 8) E.1 E.2.1 d_X_bytesToHold_40 (by decide) ?_
    refine lv_idiv E.1 E.2.1 d_X_bytesToHold_42 (by decide) ?_
    refine xl_ti (y := (nI ((bt + 7) / 8))) (pk_div (by omega) (by decide) (by decide)) ?_
    refine va_mmax E.1 E.2.1 (by rw [E.2.2.1, hl.1]) E.2.2.2.1 (E.2.2.2.2 _ ml_X_max) (E.2.2.2.2 _ ml_max_static) (E.2.2.2.2 _ ml_Math_init) (E.2.2.2.2 _ ml_max_code) (by decide) (Nat.le_of_ble_eq_true rfl) (by decide) (by decide) d_X_bytesToHold_43 ?_
    refine xl_ti (y := nI (nb kind v)) ?_ ?_
    · rw [hnb]
      show (if nI 1 < nI ((bt + 7) / 8) then nI ((bt + 7) / 8) else nI 1) = nI (max 1 ((bt + 7) / 8))
      by_cases hc : 1 < (bt + 7) / 8
      · rw [if_pos ((nI_ltI (a := 1) (by decide) (by omega)).mpr hc), Nat.max_eq_right (by omega)]
      · rw [if_neg (fun z => hc ((nI_ltI (a := 1) (by decide) (by omega)).mp z)), Nat.max_eq_left (by omega)]
    · exact xr_iret E hr hk hS (fun t ht _ => ⟨rfl, ht⟩) d_X_bytesToHold_46
  · skip
    refine lv_iload_n E.1 E.2.1 d_X_bytesToHold_0 rfl (lv_at hl 0 rfl) ?_
    refine lv_iconst (v := 1) E.1 E.2.1 d_X_bytesToHold_1 (by decide) ?_
    refine lv_icmp_ne (tgt := 28) E.1 E.2.1 d_X_bytesToHold_2 (by decide) (fun h1 => ?_) (fun h1 => ?_)
    · skip
      refine lv_lload_n E.1 E.2.1 d_X_bytesToHold_28 rfl (lv_at hl 1 rfl) ?_
      refine xg_looks (xc_S E xGT (c_bitsToHold l v) sw_X_bitsToHold (by decide) xNo rfl hl.1 rfl (Nat.le_of_ble_eq_true rfl) d_X_bytesToHold_29) (fun v st t h => h.2) (fun v st t h0 hal hrt => ?_) (fun x st t h0 hal hth hz => hth.elim)
      obtain ⟨rfl, -⟩ := hrt
      refine W.eq (g2 := F0 m 32 ls [.int (nI (nbl (uN v)))]) rfl ?_
      exact hj _ ⟨_, hb1, rfl, by unfold nb; rw [if_neg h1]⟩
    · skip
      subst h1
      refine lv_iconst (v := 1) E.1 E.2.1 d_X_bytesToHold_5 (by decide) ?_
      refine lv_lload_n E.1 E.2.1 d_X_bytesToHold_6 rfl (lv_at hl 1 rfl) ?_
      refine lv_lconst (v := 0) E.1 E.2.1 d_X_bytesToHold_7 (by decide) ?_
      refine xl_lc_ge (tgt := 20) E.1 E.2.1 d_X_bytesToHold_8 d_X_bytesToHold_9 (by decide) (fun h2 => ?_) (fun h2 => ?_)
      · skip
        refine lv_lload_n E.1 E.2.1 d_X_bytesToHold_20 rfl (lv_at hl 1 rfl) ?_
        refine xg_looks (xc_S E xGT (c_bitsToHold l v) sw_X_bitsToHold (by decide) xNo rfl hl.1 rfl (Nat.le_of_ble_eq_true rfl) d_X_bytesToHold_21) (fun v st t h => h.2) (fun v st t h0 hal hrt => ?_) (fun x st t h0 hal hth hz => hth.elim)
        obtain ⟨rfl, -⟩ := hrt
        refine W.eq (g2 := F0 m 24 ls [.int (nI (nbl (uN v))), .int 1]) rfl ?_
        have hx : xav v = v := by
          unfold xav
          rw [if_neg]
          intro z
          rw [Int64.lt_iff_toInt_lt] at z
          rw [Int64.le_iff_toInt_le] at h2
          omega
        rw [hx] at hb2
        refine lv_iadd E.1 E.2.1 d_X_bytesToHold_24 ?_
        refine xl_ti (y := (nI (1 + nbl (uN v)))) (nI_add 1 _) ?_
        refine lv_goto (tgt := 32) E.1 E.2.1 d_X_bytesToHold_25 (by decide) ?_
        exact hj _ ⟨_, by omega, rfl, by unfold nb; rw [if_pos rfl, hx]⟩
      · skip
        refine lv_lload_n E.1 E.2.1 d_X_bytesToHold_12 rfl (lv_at hl 1 rfl) ?_
        refine lv_ldc2 (v := (-1)) E.1 E.2.1 E.2.2.2.1 (E.2.2.2.2 _ co_X_127) d_X_bytesToHold_13 ?_
        refine lv_lxor E.1 E.2.1 d_X_bytesToHold_16 ?_
        refine lv_goto (tgt := 21) E.1 E.2.1 d_X_bytesToHold_17 (by decide) ?_
        refine xg_looks (xc_S E xGT (c_bitsToHold l (v ^^^ (-1))) sw_X_bitsToHold (by decide) xNo rfl hl.1 rfl (Nat.le_of_ble_eq_true rfl) d_X_bytesToHold_21) (fun v st t h => h.2) (fun v st t h0 hal hrt => ?_) (fun x st t h0 hal hth hz => hth.elim)
        obtain ⟨rfl, -⟩ := hrt
        refine W.eq (g2 := F0 m 24 ls [.int (nI (nbl (uN (v ^^^ (-1))))), .int 1]) rfl ?_
        have hx : xav v = v ^^^ (-1) := by
          unfold xav
          rw [if_pos]
          rw [Int64.lt_iff_toInt_lt]
          rw [Int64.le_iff_toInt_le] at h2
          omega
        rw [hx] at hb2
        refine lv_iadd E.1 E.2.1 d_X_bytesToHold_24 ?_
        refine xl_ti (y := (nI (1 + nbl (uN (v ^^^ (-1)))))) (nI_add 1 _) ?_
        refine lv_goto (tgt := 32) E.1 E.2.1 d_X_bytesToHold_25 (by decide) ?_
        exact hj _ ⟨_, by omega, rfl, by unfold nb; rw [if_pos rfl, hx]⟩
set_option maxHeartbeats 4000000 in
set_option maxRecDepth 100000 in
theorem c_numberWidth (l : Launch) (kind : Int32) (v : Int64) : xM l y_X_numberWidth w_X_numberWidth (xrm 4) [.int kind, .long v] (fun _ => True) xNA (fun z st t => z = some (.int (nI (xnw kind v))) ∧ t.heap = st.heap) (fun _ _ _ => False) := by
  refine xM.of (by decide) ?_
  intro p e s m args below meth c hav E hr hk hh hnm _
  subst hav
  have hS : va_S xNA s.heap s.heap [] := va_S.rf
  have hb1 := nb_1 kind v
  have hb8 := nb_8 kind v
  refine xl_entry _ (Nat.le_of_ble_eq_true rfl) (fun ls hl => ?_)
  have hl : lv_has ls 4 [(0, .int kind), (1, .long v)] := hl
  refine xl_join (fun _ : Unit => ¬ (kind = 2 ∧ (0 ≤ v ∧ v < 64))) (fun _ => F0 m 15 ls []) (fun _ hns => ?_) (fun hj => ?_)
  · skip
    have hw : xnw kind v = xt kind + 8 + 8 * nb kind v := by
      unfold xnw
      rw [if_neg hns]
    have hl8 : xlw (nb kind v) = 8 := by
      unfold xlw
      rw [if_neg (by omega)]
    refine lv_iload_n E.1 E.2.1 d_X_numberWidth_15 rfl (lv_at hl 0 rfl) ?_
    refine lv_lload_n E.1 E.2.1 d_X_numberWidth_16 rfl (lv_at hl 1 rfl) ?_
    refine xg_looks (xc_S E xGT (c_bytesToHold l kind v) sw_X_bytesToHold (by decide) xNo rfl hl.1 rfl (Nat.le_of_ble_eq_true rfl) d_X_numberWidth_17) (fun v st t h => h.2) (fun v st t h0 hal hrt => ?_) (fun x st t h0 hal hth hz => hth.elim)
    obtain ⟨rfl, -⟩ := hrt
    refine W.eq (g2 := F0 m 20 ls [.int (nI (nb kind v))]) rfl ?_
    refine lv_istore_n E.1 E.2.1 d_X_numberWidth_20 rfl hl (by decide) rfl (fun ls hl => ?_)
    have hl : lv_has ls 4 [(3, .int (nI (nb kind v))), (0, .int kind), (1, .long v)] := hl
    refine lv_iload_n E.1 E.2.1 d_X_numberWidth_21 rfl (lv_at hl 1 rfl) ?_
    refine lv_iconst (v := 2) E.1 E.2.1 d_X_numberWidth_22 (by decide) ?_
    refine xl_join (fun z : Int32 => z = nI (xt kind)) (fun z => F0 m 31 ls [.int z]) (fun z hz => ?_) (fun hj2 => ?_)
    · subst hz
      refine lv_iload_n E.1 E.2.1 d_X_numberWidth_31 rfl (lv_at hl 0 rfl) ?_
      refine xg_looks (xc_S E xGT (c_lengthWidth l (nb kind v) (by omega)) sw_X_lengthWidth (by decide) xNo rfl hl.1 rfl (Nat.le_of_ble_eq_true rfl) d_X_numberWidth_32) (fun v st t h => h.2) (fun v st t h0 hal hrt => ?_) (fun x st t h0 hal hth hz => hth.elim)
      obtain ⟨rfl, -⟩ := hrt
      refine W.eq (g2 := F0 m 35 ls [.int (nI (xlw (nb kind v))), .int (nI (xt kind))]) rfl ?_
      refine lv_iadd E.1 E.2.1 d_X_numberWidth_35 ?_
      refine xl_ti (y := (nI (xt kind + xlw (nb kind v)))) (nI_add _ _) ?_
      refine lv_iload_n E.1 E.2.1 d_X_numberWidth_36 rfl (lv_at hl 0 rfl) ?_
      refine lv_bipush (v := 8) E.1 E.2.1 d_X_numberWidth_37 (by decide) ?_
      refine lv_imul E.1 E.2.1 d_X_numberWidth_39 ?_
      refine xl_ti (y := (nI (nb kind v * 8))) (pk_mul _ 8) ?_
      refine lv_iadd E.1 E.2.1 d_X_numberWidth_40 ?_
      refine xl_ti (y := (nI (xnw kind v))) (by rw [nI_add, hl8, hw, Nat.mul_comm (nb kind v) 8]) ?_
      exact xr_iret E hr hk hS (fun t ht _ => ⟨rfl, ht⟩) d_X_numberWidth_41
    · skip
      refine lv_icmp_ne (tgt := 30) E.1 E.2.1 d_X_numberWidth_23 (by decide) (fun h1 => ?_) (fun h1 => ?_)
      · skip
        refine lv_iconst (v := 0) E.1 E.2.1 d_X_numberWidth_30 (by decide) ?_
        exact hj2 _ (by unfold xt; rw [if_neg h1]; rfl)
      · skip
        refine lv_iconst (v := 1) E.1 E.2.1 d_X_numberWidth_26 (by decide) ?_
        refine lv_goto (tgt := 31) E.1 E.2.1 d_X_numberWidth_27 (by decide) ?_
        exact hj2 _ (by unfold xt; rw [if_pos h1]; rfl)
  · skip
    refine lv_iload_n E.1 E.2.1 d_X_numberWidth_0 rfl (lv_at hl 0 rfl) ?_
    refine lv_iconst (v := 2) E.1 E.2.1 d_X_numberWidth_1 (by decide) ?_
    refine lv_icmp_ne (tgt := 15) E.1 E.2.1 d_X_numberWidth_2 (by decide) (fun h1 => ?_) (fun h1 => ?_)
    · skip
      exact hj () (fun z => h1 z.1)
    · skip
      refine lv_lload_n E.1 E.2.1 d_X_numberWidth_5 rfl (lv_at hl 1 rfl) ?_
      refine xg_looks (xc_S E xGT (c_isSmall l v) sw_X_isSmall (by decide) xNo rfl hl.1 rfl (Nat.le_of_ble_eq_true rfl) d_X_numberWidth_6) (fun v st t h => h.2) (fun v st t h0 hal hrt => ?_) (fun x st t h0 hal hth hz => hth.elim)
      obtain ⟨rfl, -⟩ := hrt
      refine W.eq (g2 := F0 m 9 ls [.int (if 0 ≤ v ∧ v < 64 then 1 else 0)]) rfl ?_
      refine lv_if_eq (tgt := 15) E.1 E.2.1 d_X_numberWidth_9 (by decide) (fun h2 => ?_) (fun h2 => ?_)
      · skip
        refine hj () (fun z => ?_)
        rw [if_pos z.2] at h2
        exact absurd h2 (by decide)
      · skip
        have h3 : 0 ≤ v ∧ v < 64 := Classical.byContradiction fun z => h2 (by rw [if_neg z])
        refine lv_bipush (v := 7) E.1 E.2.1 d_X_numberWidth_12 (by decide) ?_
        exact xr_iret E hr hk hS (fun t ht _ => ⟨by unfold xnw; rw [if_pos ⟨h1, h3⟩]; rfl, ht⟩) d_X_numberWidth_14
end XL12
end
section
/-! The class: what looks at the row. -/
section XL13
set_option maxHeartbeats 4000000 in
set_option maxRecDepth 100000 in
theorem c_bitsAt (l : Launch) (hL : l.stackTraces = false) (D : va_G) (a w : Nat) (cJ cZ : ClassId) (β : Nat → Bool) (n q u k : Nat) (hn : n ≤ 65536) (hu : u ≤ n) (hk64 : k ≤ 64) : xM l y_X_bitsAt w_X_bitsAt (xrm 1) [.ref a, .int (nI u), .int (nI k)] (wXt D a w cJ cZ β n q) xNA (fun v st t => u + k ≤ n ∧ v = some (.long (lN (xv β u k))) ∧ t.heap = st.heap) (fun x st t => n < u + k ∧ xl_T E_UO x st.heap t.heap t.vm) := by
  refine xM.of (by decide) ?_
  intro p e s m args below meth c hav E hr hk hh hnm hwX
  subst hav
  obtain ⟨⟨hP, hK⟩, hQ⟩ := hwX
  have hS : va_S xNA s.heap s.heap [] := va_S.rf
  refine xl_entry _ (Nat.le_of_ble_eq_true rfl) (fun ls hl => ?_)
  have hl : lv_has ls 6 [(0, .ref a), (1, .int (nI u)), (2, .int (nI k))] := hl
  refine lv_iload_n E.1 E.2.1 d_X_bitsAt_0 rfl (lv_at hl 2 rfl) ?_
  refine lv_aload_n E.1 E.2.1 d_X_bitsAt_1 rfl (lv_at hl 0 rfl) ?_
  refine gx_size E hK hP d_X_bitsAt_2 ?_
  refine lv_iload_n E.1 E.2.1 d_X_bitsAt_5 rfl (lv_at hl 1 rfl) ?_
  refine lv_isub E.1 E.2.1 d_X_bitsAt_6 ?_
  refine xl_ti (y := (nI (n - u))) (pk_sub hu) ?_
  refine lv_icmp_le (tgt := 20) E.1 E.2.1 d_X_bitsAt_7 (by decide) (fun h1 => ?_) (fun h1 => ?_)
  · skip
    have h2 : k ≤ n - u := (nI_leI (by omega) (by omega)).mp h1
    have key : ∀ (d r : Nat) (ls : Array Slot), r + d = k → lv_has ls 6 [(5, .int (nI (u + r))), (3, .long (lN (xv β u r))), (0, .ref a), (1, .int (nI u)), (2, .int (nI k))] →
        W p l e (xrm 1) s m [Value.ref a, .int (nI u), .int (nI k)].toArray below meth c s.heap [] 0 0 (xl_MQ below (xl_Q xNA (fun v st t => u + k ≤ n ∧ v = some (.long (lN (xv β u k))) ∧ t.heap = st.heap) (fun x st t => n < u + k ∧ xl_T E_UO x st.heap t.heap t.vm)) [Value.ref a, .int (nI u), .int (nI k)].toArray s (xl_k 0 1) (xl_k 0 6) xNA) (F0 m 25 ls []) := by
      intro d
      induction d with
      | zero =>
        intro r ls hrd hl
        have hrk : r = k := hrd
        subst hrk
        refine lv_iload E.1 E.2.1 d_X_bitsAt_25 (lv_at hl 0 rfl) ?_
        refine lv_iload_n E.1 E.2.1 d_X_bitsAt_27 rfl (lv_at hl 3 rfl) ?_
        refine lv_iload_n E.1 E.2.1 d_X_bitsAt_28 rfl (lv_at hl 4 rfl) ?_
        refine lv_iadd E.1 E.2.1 d_X_bitsAt_29 ?_
        refine xl_ti (y := (nI (u + r))) (nI_add u r) ?_
        refine lv_icmp_ge (tgt := 50) E.1 E.2.1 d_X_bitsAt_30 (by decide) (fun h3 => ?_) (fun h3 => ?_)
        · skip
          refine lv_lload_n E.1 E.2.1 d_X_bitsAt_50 rfl (lv_at hl 1 rfl) ?_
          exact xr_lret E hr hk hS (fun t ht _ => ⟨by omega, rfl, ht⟩) d_X_bitsAt_51
        · skip
          exact absurd (nI_le (Nat.le_refl _) (by omega)) h3
      | succ d ih =>
        intro r ls hrd hl
        refine lv_iload E.1 E.2.1 d_X_bitsAt_25 (lv_at hl 0 rfl) ?_
        refine lv_iload_n E.1 E.2.1 d_X_bitsAt_27 rfl (lv_at hl 3 rfl) ?_
        refine lv_iload_n E.1 E.2.1 d_X_bitsAt_28 rfl (lv_at hl 4 rfl) ?_
        refine lv_iadd E.1 E.2.1 d_X_bitsAt_29 ?_
        refine xl_ti (y := (nI (u + k))) (nI_add u k) ?_
        refine lv_icmp_ge (tgt := 50) E.1 E.2.1 d_X_bitsAt_30 (by decide) (fun h3 => ?_) (fun h3 => ?_)
        · skip
          exact absurd ((nI_leI (by omega) (by omega)).mp h3) (by omega)
        · skip
          refine lv_lload_n E.1 E.2.1 d_X_bitsAt_33 rfl (lv_at hl 1 rfl) ?_
          refine lv_iconst (v := 1) E.1 E.2.1 d_X_bitsAt_34 (by decide) ?_
          refine lv_lshl (v := xsl (lN (xv β u r)) 1) E.1 E.2.1 d_X_bitsAt_35 rfl ?_
          refine lv_aload_n E.1 E.2.1 d_X_bitsAt_36 rfl (lv_at hl 2 rfl) ?_
          refine lv_iload E.1 E.2.1 d_X_bitsAt_37 (lv_at hl 0 rfl) ?_
          refine xg_looks (xc_V E xGT (c_bit l D a w cJ cZ β n q (u + r) (by omega)) vw_X_bit (by decide) (wX.call hP hK) (PX.recv hP hK) rfl hl.1 rfl (Nat.le_of_ble_eq_true rfl) d_X_bitsAt_39) (fun v st t h => h.2) (fun v st t h0 hal hrt => ?_) (fun x st t h0 hal hth hz => hth.elim)
          obtain ⟨rfl, -⟩ := hrt
          refine W.eq (g2 := F0 m 42 ls [.long (lN (β (u + r)).toNat), .long (xsl (lN (xv β u r)) 1)]) rfl ?_
          refine lv_lor E.1 E.2.1 d_X_bitsAt_42 ?_
          refine xl_tl (y := (lN (xv β u (r + 1)))) (xv_step (by omega)) ?_
          refine lv_lstore_n E.1 E.2.1 d_X_bitsAt_43 rfl hl (by decide) rfl (fun ls hl => ?_)
          have hl : lv_has ls 6 [(3, .long (lN (xv β u (r + 1)))), (5, .int (nI (u + r))), (0, .ref a), (1, .int (nI u)), (2, .int (nI k))] := hl
          refine lv_iinc (k := 1) (v := (nI (u + r)) + 1) E.1 E.2.1 d_X_bitsAt_44 hl rfl rfl (by decide) rfl (fun ls hl => ?_)
          have hl : lv_has ls 6 [(5, .int ((nI (u + r)) + 1)), (3, .long (lN (xv β u (r + 1)))), (0, .ref a), (1, .int (nI u)), (2, .int (nI k))] := hl
          refine lv_goto (tgt := 25) E.1 E.2.1 d_X_bitsAt_47 (by decide) ?_
          have e2 : nI (u + r) + 1 = nI (u + (r + 1)) := nI_1 (u + r)
          rw [e2] at hl
          exact ih (r + 1) ls (by omega) hl
    refine lv_lconst (v := 0) E.1 E.2.1 d_X_bitsAt_20 (by decide) ?_
    refine lv_lstore_n E.1 E.2.1 d_X_bitsAt_21 rfl hl (by decide) rfl (fun ls hl => ?_)
    have hl : lv_has ls 6 [(3, .long 0), (0, .ref a), (1, .int (nI u)), (2, .int (nI k))] := hl
    refine lv_iload_n E.1 E.2.1 d_X_bitsAt_22 rfl (lv_at hl 2 rfl) ?_
    refine lv_istore E.1 E.2.1 d_X_bitsAt_23 hl (by decide) rfl (fun ls hl => ?_)
    have hl : lv_has ls 6 [(5, .int (nI u)), (3, .long 0), (0, .ref a), (1, .int (nI u)), (2, .int (nI k))] := hl
    exact key k 0 ls (Nat.zero_add k) hl
  · skip
    have h2 : ¬ k ≤ n - u := fun z => h1 ((nI_leI (by omega) (by omega)).mpr z)
    exact xr_throw E hL hQ hh hk tw_UO_bitsAt hl.1 d_X_bitsAt_10 d_X_bitsAt_13 d_X_bitsAt_14 d_X_bitsAt_16 d_X_bitsAt_19 (by decide) (fun x t hT => ⟨by omega, hT⟩)
set_option maxHeartbeats 4000000 in
set_option maxRecDepth 100000 in
theorem c_longLengthAt (l : Launch) (hL : l.stackTraces = false) (D : va_G) (a w : Nat) (cJ cZ : ClassId) (β : Nat → Bool) (n q u : Nat) (hn : n ≤ 65536) (hu : u ≤ n) : xM l y_X_longLengthAt w_X_longLengthAt (xrm 2) [.ref a, .int (nI u)] (wXt D a w cJ cZ β n q) xNA (fun v st t => ¬ (n < u + 14 ∨ xv β u 14 < 128) ∧ v = some (.int (nI (xv β u 14))) ∧ t.heap = st.heap) (fun x st t => (n < u + 14 ∨ xv β u 14 < 128) ∧ xl_T E_UO x st.heap t.heap t.vm) := by
  refine xM.of (by decide) ?_
  intro p e s m args below meth c hav E hr hk hh hnm hwX
  subst hav
  obtain ⟨⟨hP, hK⟩, hQ⟩ := hwX
  have hS : va_S xNA s.heap s.heap [] := va_S.rf
  have hv := xv_lt β u 14
  refine xl_entry _ (Nat.le_of_ble_eq_true rfl) (fun ls hl => ?_)
  have hl : lv_has ls 3 [(0, .ref a), (1, .int (nI u))] := hl
  refine lv_aload_n E.1 E.2.1 d_X_longLengthAt_0 rfl (lv_at hl 0 rfl) ?_
  refine lv_iload_n E.1 E.2.1 d_X_longLengthAt_1 rfl (lv_at hl 1 rfl) ?_
  refine lv_bipush (v := 14) E.1 E.2.1 d_X_longLengthAt_2 (by decide) ?_
  refine xg_looks (xc_V E xGT (c_bitsAt l hL D a w cJ cZ β n q u 14 hn hu (by decide)) vw_X_bitsAt (by decide) (wXt.call hP hK hQ) (PX.recv hP hK) rfl hl.1 rfl (Nat.le_of_ble_eq_true rfl) d_X_longLengthAt_4) (fun v st t h => h.2.2) (fun v st t h0 hal hrt => ?_) (fun x st t h0 hal hth hz => xr_leave hh hk hal h0 hth.2 (fun t hT => ⟨Or.inl hth.1, hT⟩))
  obtain ⟨h1, rfl, -⟩ := hrt
  refine W.eq (g2 := F0 m 7 ls [.long (lN (xv β u 14))]) rfl ?_
  refine lv_l2i (v := (lN (xv β u 14)).toInt32) E.1 E.2.1 d_X_longLengthAt_7 rfl ?_
  refine xl_ti (y := (nI (xv β u 14))) (lN_i _) ?_
  refine lv_istore_n E.1 E.2.1 d_X_longLengthAt_8 rfl hl (by decide) rfl (fun ls hl => ?_)
  have hl : lv_has ls 3 [(2, .int (nI (xv β u 14))), (0, .ref a), (1, .int (nI u))] := hl
  refine lv_iload_n E.1 E.2.1 d_X_longLengthAt_9 rfl (lv_at hl 0 rfl) ?_
  refine lv_sipush (v := 128) E.1 E.2.1 d_X_longLengthAt_10 (by decide) ?_
  refine lv_icmp_ge (tgt := 26) E.1 E.2.1 d_X_longLengthAt_13 (by decide) (fun h2 => ?_) (fun h2 => ?_)
  · skip
    have h2 : 128 ≤ xv β u 14 := (nI_leI (by decide) (by omega)).mp h2
    refine lv_iload_n E.1 E.2.1 d_X_longLengthAt_26 rfl (lv_at hl 0 rfl) ?_
    exact xr_iret E hr hk hS (fun t ht _ => ⟨by omega, rfl, ht⟩) d_X_longLengthAt_27
  · skip
    have h2 : ¬ 128 ≤ xv β u 14 := fun z => h2 ((nI_leI (by decide) (by omega)).mpr z)
    exact xr_throw E hL hQ hh hk tw_UO_longLengthAt hl.1 d_X_longLengthAt_16 d_X_longLengthAt_19 d_X_longLengthAt_20 d_X_longLengthAt_22 d_X_longLengthAt_25 (by decide) (fun x t hT => ⟨Or.inr (by omega), hT⟩)
set_option maxHeartbeats 4000000 in
set_option maxRecDepth 100000 in
theorem c_piecesAt (l : Launch) (hL : l.stackTraces = false) (D : va_G) (a w : Nat) (cJ cZ : ClassId) (β : Nat → Bool) (n q u : Nat) (hn : n ≤ 65536) (hu : u ≤ n) : xM l y_X_piecesAt w_X_piecesAt (xrm 2) [.ref a, .int (nI u)] (wXt D a w cJ cZ β n q) xNA (fun v st t => ¬ (n < u + 6 ∨ xv β u 6 < 1 ∨ 4 < xv β u 6) ∧ v = some (.int (nI (16384 * xv β u 6))) ∧ t.heap = st.heap) (fun x st t => (n < u + 6 ∨ xv β u 6 < 1 ∨ 4 < xv β u 6) ∧ xl_T E_UO x st.heap t.heap t.vm) := by
  refine xM.of (by decide) ?_
  intro p e s m args below meth c hav E hr hk hh hnm hwX
  subst hav
  obtain ⟨⟨hP, hK⟩, hQ⟩ := hwX
  have hS : va_S xNA s.heap s.heap [] := va_S.rf
  have hv := xv_lt β u 6
  refine xl_entry _ (Nat.le_of_ble_eq_true rfl) (fun ls hl => ?_)
  have hl : lv_has ls 3 [(0, .ref a), (1, .int (nI u))] := hl
  refine lv_aload_n E.1 E.2.1 d_X_piecesAt_0 rfl (lv_at hl 0 rfl) ?_
  refine lv_iload_n E.1 E.2.1 d_X_piecesAt_1 rfl (lv_at hl 1 rfl) ?_
  refine lv_bipush (v := 6) E.1 E.2.1 d_X_piecesAt_2 (by decide) ?_
  refine xg_looks (xc_V E xGT (c_bitsAt l hL D a w cJ cZ β n q u 6 hn hu (by decide)) vw_X_bitsAt (by decide) (wXt.call hP hK hQ) (PX.recv hP hK) rfl hl.1 rfl (Nat.le_of_ble_eq_true rfl) d_X_piecesAt_4) (fun v st t h => h.2.2) (fun v st t h0 hal hrt => ?_) (fun x st t h0 hal hth hz => xr_leave hh hk hal h0 hth.2 (fun t hT => ⟨Or.inl hth.1, hT⟩))
  obtain ⟨h1, rfl, -⟩ := hrt
  refine W.eq (g2 := F0 m 7 ls [.long (lN (xv β u 6))]) rfl ?_
  refine lv_l2i (v := (lN (xv β u 6)).toInt32) E.1 E.2.1 d_X_piecesAt_7 rfl ?_
  refine xl_ti (y := (nI (xv β u 6))) (lN_i _) ?_
  refine lv_istore_n E.1 E.2.1 d_X_piecesAt_8 rfl hl (by decide) rfl (fun ls hl => ?_)
  have hl : lv_has ls 3 [(2, .int (nI (xv β u 6))), (0, .ref a), (1, .int (nI u))] := hl
  refine lv_iload_n E.1 E.2.1 d_X_piecesAt_9 rfl (lv_at hl 0 rfl) ?_
  refine lv_iconst (v := 1) E.1 E.2.1 d_X_piecesAt_10 (by decide) ?_
  refine lv_icmp_lt (tgt := 19) E.1 E.2.1 d_X_piecesAt_11 (by decide) (fun h2 => ?_) (fun h2 => ?_)
  · skip
    have h2 : xv β u 6 < 1 := (nI_ltI (by omega) (by decide)).mp h2
    exact xr_throw E hL hQ hh hk tw_UO_piecesAt hl.1 d_X_piecesAt_19 d_X_piecesAt_22 d_X_piecesAt_23 d_X_piecesAt_25 d_X_piecesAt_28 (by decide) (fun x t hT => ⟨by omega, hT⟩)
  · skip
    have h2 : ¬ xv β u 6 < 1 := fun z => h2 ((nI_ltI (by omega) (by decide)).mpr z)
    refine lv_iload_n E.1 E.2.1 d_X_piecesAt_14 rfl (lv_at hl 0 rfl) ?_
    refine lv_iconst (v := 4) E.1 E.2.1 d_X_piecesAt_15 (by decide) ?_
    refine lv_icmp_le (tgt := 29) E.1 E.2.1 d_X_piecesAt_16 (by decide) (fun h3 => ?_) (fun h3 => ?_)
    · skip
      have h3 : xv β u 6 ≤ 4 := (nI_leI (by omega) (by decide)).mp h3
      refine lv_iload_n E.1 E.2.1 d_X_piecesAt_29 rfl (lv_at hl 0 rfl) ?_
      refine lv_sipush (v := 16384) E.1 E.2.1 d_X_piecesAt_30 (by decide) ?_
      refine lv_imul E.1 E.2.1 d_X_piecesAt_33 ?_
      refine xl_ti (y := (nI (16384 * xv β u 6))) (by rw [Nat.mul_comm]; exact pk_mul _ 16384) ?_
      exact xr_iret E hr hk hS (fun t ht _ => ⟨by omega, rfl, ht⟩) d_X_piecesAt_34
    · skip
      have h3 : ¬ xv β u 6 ≤ 4 := fun z => h3 ((nI_leI (by omega) (by decide)).mpr z)
      exact xr_throw E hL hQ hh hk tw_UO_piecesAt hl.1 d_X_piecesAt_19 d_X_piecesAt_22 d_X_piecesAt_23 d_X_piecesAt_25 d_X_piecesAt_28 (by decide) (fun x t hT => ⟨by omega, hT⟩)
theorem xv_1 (β : Nat → Bool) (u : Nat) : xv β u 1 = (β u).toNat := by simp [xv]
theorem xv_10 {β : Nat → Bool} {u : Nat} : lN (xv β u 1) = 0 ↔ β u = false := by
  rw [xv_1]
  cases β u <;> decide
theorem xlen_ok {β : Nat → Bool} {n u len wd : Nat} (h : xlen β n u = some (len, wd)) : len ≤ 65536 ∧ wd = xlw len ∧ u + wd ≤ n := by
  have a1 := xv_lt β (u + 1) 7
  have a2 := xv_lt β (u + 2) 14
  have a3 := xv_lt β (u + 2) 6
  unfold xlen at h
  unfold xlw
  split at h
  · cases h
  · split at h
    · split at h
      · cases h
      · cases h
        rw [if_neg (by omega)]
        omega
    · split at h
      · cases h
      · split at h
        · split at h
          · cases h
          · split at h
            · cases h
            · cases h
              rw [if_pos (by omega)]
              omega
        · split at h
          · cases h
          · split at h
            · cases h
            · cases h
              rw [if_neg (by omega)]
              omega
set_option maxHeartbeats 4000000 in
set_option maxRecDepth 100000 in
theorem c_lengthAt (l : Launch) (hL : l.stackTraces = false) (D : va_G) (a w : Nat) (cJ cZ : ClassId) (β : Nat → Bool) (n q u : Nat) (hn : n ≤ 65536) (hu : u ≤ n) : xM l y_X_lengthAt w_X_lengthAt (xrm 3) [.ref a, .int (nI u)] (wXt D a w cJ cZ β n q) xNA (fun v st t => (∃ len wd, xlen β n u = some (len, wd) ∧ v = some (.int (nI len))) ∧ t.heap = st.heap) (fun x st t => xlen β n u = none ∧ xl_T E_UO x st.heap t.heap t.vm) := by
  refine xM.of (by decide) ?_
  intro p e s m args below meth c hav E hr hk hh hnm hwX
  subst hav
  obtain ⟨⟨hP, hK⟩, hQ⟩ := hwX
  have hS : va_S xNA s.heap s.heap [] := va_S.rf
  refine xl_entry _ (Nat.le_of_ble_eq_true rfl) (fun ls hl => ?_)
  have hl : lv_has ls 2 [(0, .ref a), (1, .int (nI u))] := hl
  refine lv_aload_n E.1 E.2.1 d_X_lengthAt_0 rfl (lv_at hl 0 rfl) ?_
  refine lv_iload_n E.1 E.2.1 d_X_lengthAt_1 rfl (lv_at hl 1 rfl) ?_
  refine lv_iconst (v := 1) E.1 E.2.1 d_X_lengthAt_2 (by decide) ?_
  refine xg_looks (xc_V E xGT (c_bitsAt l hL D a w cJ cZ β n q u 1 hn hu (by decide)) vw_X_bitsAt (by decide) (wXt.call hP hK hQ) (PX.recv hP hK) rfl hl.1 rfl (Nat.le_of_ble_eq_true rfl) d_X_lengthAt_3) (fun v st t h => h.2.2) (fun v st t h0 hal hrt => ?_) (fun x st t h0 hal hth hz => xr_leave hh hk hal h0 hth.2 (fun t hT => ⟨by unfold xlen; rw [if_pos (by have := hth.1; omega)], hT⟩))
  obtain ⟨h1, rfl, -⟩ := hrt
  refine W.eq (g2 := F0 m 6 ls [.long (lN (xv β u 1))]) rfl ?_
  refine lv_lconst (v := 0) E.1 E.2.1 d_X_lengthAt_6 (by decide) ?_
  refine xl_lc_ne (tgt := 22) E.1 E.2.1 d_X_lengthAt_7 d_X_lengthAt_8 (by decide) (fun h2 => ?_) (fun h2 => ?_)
  · skip
    have h2 : ¬ β u = false := fun z => h2 (xv_10.mpr z)
    refine lv_aload_n E.1 E.2.1 d_X_lengthAt_22 rfl (lv_at hl 0 rfl) ?_
    refine lv_iload_n E.1 E.2.1 d_X_lengthAt_23 rfl (lv_at hl 1 rfl) ?_
    refine lv_iconst (v := 1) E.1 E.2.1 d_X_lengthAt_24 (by decide) ?_
    refine lv_iadd E.1 E.2.1 d_X_lengthAt_25 ?_
    refine xl_ti (y := (nI (u + 1))) (nI_1 u) ?_
    refine lv_iconst (v := 1) E.1 E.2.1 d_X_lengthAt_26 (by decide) ?_
    refine xg_looks (xc_V E xGT (c_bitsAt l hL D a w cJ cZ β n q (u + 1) 1 hn (by omega) (by decide)) vw_X_bitsAt (by decide) (wXt.call hP hK hQ) (PX.recv hP hK) rfl hl.1 rfl (Nat.le_of_ble_eq_true rfl) d_X_lengthAt_27) (fun v st t h => h.2.2) (fun v st t h0 hal hrt => ?_) (fun x st t h0 hal hth hz => xr_leave hh hk hal h0 hth.2 (fun t hT => ⟨by unfold xlen; rw [if_neg (by omega), if_neg h2, if_pos (by have := hth.1; omega)], hT⟩))
    obtain ⟨h3, rfl, -⟩ := hrt
    refine W.eq (g2 := F0 m 30 ls [.long (lN (xv β (u + 1) 1))]) rfl ?_
    refine lv_lconst (v := 0) E.1 E.2.1 d_X_lengthAt_30 (by decide) ?_
    refine xl_lc_ne (tgt := 45) E.1 E.2.1 d_X_lengthAt_31 d_X_lengthAt_32 (by decide) (fun h4 => ?_) (fun h4 => ?_)
    · skip
      have h4 : ¬ β (u + 1) = false := fun z => h4 (xv_10.mpr z)
      refine lv_aload_n E.1 E.2.1 d_X_lengthAt_45 rfl (lv_at hl 0 rfl) ?_
      refine lv_iload_n E.1 E.2.1 d_X_lengthAt_46 rfl (lv_at hl 1 rfl) ?_
      refine lv_iconst (v := 2) E.1 E.2.1 d_X_lengthAt_47 (by decide) ?_
      refine lv_iadd E.1 E.2.1 d_X_lengthAt_48 ?_
      refine xl_ti (y := (nI (u + 2))) (nI_add u 2) ?_
      refine xg_looks (xc_V E xGT (c_piecesAt l hL D a w cJ cZ β n q (u + 2) hn (by omega)) vw_X_piecesAt (by decide) (wXt.call hP hK hQ) (PX.recv hP hK) rfl hl.1 rfl (Nat.le_of_ble_eq_true rfl) d_X_lengthAt_49) (fun v st t h => h.2.2) (fun v st t h0 hal hrt => ?_) (fun x st t h0 hal hth hz => xr_leave hh hk hal h0 hth.2 (fun t hT => ⟨?_, hT⟩))
      · obtain ⟨h5, rfl, -⟩ := hrt
        refine W.eq (g2 := F0 m 52 ls [.int (nI (16384 * xv β (u + 2) 6))]) rfl ?_
        exact xr_iret E hr hk hS (fun t ht _ => ⟨⟨_, 8, by unfold xlen; rw [if_neg (by omega), if_neg h2, if_neg (by omega), if_neg h4, if_neg (by omega), if_neg (by omega)], rfl⟩, ht⟩) d_X_lengthAt_52
      · unfold xlen
        rw [if_neg (by omega), if_neg h2, if_neg (by omega), if_neg h4]
        rcases hth.1 with h6 | h6
        · rw [if_pos (by omega)]
        · by_cases h7 : n < u + 8
          · rw [if_pos h7]
          · rw [if_neg h7, if_pos h6]
    · skip
      have h4 : β (u + 1) = false := xv_10.mp h4
      refine lv_aload_n E.1 E.2.1 d_X_lengthAt_35 rfl (lv_at hl 0 rfl) ?_
      refine lv_iload_n E.1 E.2.1 d_X_lengthAt_36 rfl (lv_at hl 1 rfl) ?_
      refine lv_iconst (v := 2) E.1 E.2.1 d_X_lengthAt_37 (by decide) ?_
      refine lv_iadd E.1 E.2.1 d_X_lengthAt_38 ?_
      refine xl_ti (y := (nI (u + 2))) (nI_add u 2) ?_
      refine xg_looks (xc_V E xGT (c_longLengthAt l hL D a w cJ cZ β n q (u + 2) hn (by omega)) vw_X_longLengthAt (by decide) (wXt.call hP hK hQ) (PX.recv hP hK) rfl hl.1 rfl (Nat.le_of_ble_eq_true rfl) d_X_lengthAt_39) (fun v st t h => h.2.2) (fun v st t h0 hal hrt => ?_) (fun x st t h0 hal hth hz => xr_leave hh hk hal h0 hth.2 (fun t hT => ⟨?_, hT⟩))
      · obtain ⟨h5, rfl, -⟩ := hrt
        refine W.eq (g2 := F0 m 42 ls [.int (nI (xv β (u + 2) 14))]) rfl ?_
        refine lv_goto (tgt := 52) E.1 E.2.1 d_X_lengthAt_42 (by decide) ?_
        exact xr_iret E hr hk hS (fun t ht _ => ⟨⟨_, 16, by unfold xlen; rw [if_neg (by omega), if_neg h2, if_neg (by omega), if_pos h4, if_neg (by omega), if_neg (by omega)], rfl⟩, ht⟩) d_X_lengthAt_52
      · unfold xlen
        rw [if_neg (by omega), if_neg h2, if_neg (by omega), if_pos h4]
        rcases hth.1 with h6 | h6
        · rw [if_pos (by omega)]
        · by_cases h7 : n < u + 16
          · rw [if_pos h7]
          · rw [if_neg h7, if_pos h6]
  · skip
    have h2 : β u = false := xv_10.mp h2
    refine lv_aload_n E.1 E.2.1 d_X_lengthAt_11 rfl (lv_at hl 0 rfl) ?_
    refine lv_iload_n E.1 E.2.1 d_X_lengthAt_12 rfl (lv_at hl 1 rfl) ?_
    refine lv_iconst (v := 1) E.1 E.2.1 d_X_lengthAt_13 (by decide) ?_
    refine lv_iadd E.1 E.2.1 d_X_lengthAt_14 ?_
    refine xl_ti (y := (nI (u + 1))) (nI_1 u) ?_
    refine lv_bipush (v := 7) E.1 E.2.1 d_X_lengthAt_15 (by decide) ?_
    refine xg_looks (xc_V E xGT (c_bitsAt l hL D a w cJ cZ β n q (u + 1) 7 hn (by omega) (by decide)) vw_X_bitsAt (by decide) (wXt.call hP hK hQ) (PX.recv hP hK) rfl hl.1 rfl (Nat.le_of_ble_eq_true rfl) d_X_lengthAt_17) (fun v st t h => h.2.2) (fun v st t h0 hal hrt => ?_) (fun x st t h0 hal hth hz => xr_leave hh hk hal h0 hth.2 (fun t hT => ⟨by unfold xlen; rw [if_neg (by omega), if_pos h2, if_pos (by have := hth.1; omega)], hT⟩))
    obtain ⟨h3, rfl, -⟩ := hrt
    refine W.eq (g2 := F0 m 20 ls [.long (lN (xv β (u + 1) 7))]) rfl ?_
    refine lv_l2i (v := (lN (xv β (u + 1) 7)).toInt32) E.1 E.2.1 d_X_lengthAt_20 rfl ?_
    refine xl_ti (y := (nI (xv β (u + 1) 7))) (lN_i _) ?_
    exact xr_iret E hr hk hS (fun t ht _ => ⟨⟨_, 8, by unfold xlen; rw [if_neg (by omega), if_pos h2, if_neg (by omega)], rfl⟩, ht⟩) d_X_lengthAt_21
end XL13
end
section
/-! The class: a number read. -/
section XL14
theorem xnumAt_of {β : Nat → Bool} {n u b wd : Nat} {kind : Int32} (h : xlen β n u = some (b, wd)) : xnumAt β n kind u = if b < 1 ∨ 8 < b then none else if n < u + wd + 8 * b then none else if nb kind (xsx kind (lN (xv β (u + wd) (8 * b))) b) ≠ b then none else some (xsx kind (lN (xv β (u + wd) (8 * b))) b, wd + 8 * b) := by
  unfold xnumAt
  rw [h]
theorem xnumAt_no {β : Nat → Bool} {n u : Nat} {kind : Int32} (h : xlen β n u = none) : xnumAt β n kind u = none := by
  unfold xnumAt
  rw [h]
/-- how wide a number is that was read -/
theorem xnumAt_w {β : Nat → Bool} {n u wd : Nat} {kind : Int32} {z : Int64} (h : xnumAt β n kind u = some (z, wd)) : wd = 8 + 8 * nb kind z ∧ u + wd ≤ n := by
  cases hx : xlen β n u with
  | none =>
    rw [xnumAt_no hx] at h
    cases h
  | some r =>
    obtain ⟨b, w0⟩ := r
    obtain ⟨-, h2, h3⟩ := xlen_ok hx
    rw [xnumAt_of hx] at h
    split at h
    · cases h
    · split at h
      · cases h
      · split at h
        · cases h
        · rename_i g1 g2 g3
          cases h
          have e : nb kind (xsx kind (lN (xv β (u + w0) (8 * b))) b) = b := Classical.byContradiction g3
          have : xlw b = 8 := by
            unfold xlw
            rw [if_neg (by omega)]
          rw [e]
          omega
set_option maxHeartbeats 4000000 in
set_option maxRecDepth 100000 in
theorem c_numberAt (l : Launch) (hL : l.stackTraces = false) (D : va_G) (a w : Nat) (cJ cZ : ClassId) (β : Nat → Bool) (n q u : Nat) (kind : Int32) (hn : n ≤ 65536) (hu : u ≤ n) : xM l y_X_numberAt w_X_numberAt (xrm 4) [.ref a, .int kind, .int (nI u)] (wXt D a w cJ cZ β n q) xNA (fun v st t => (∃ z wd, xnumAt β n kind u = some (z, wd) ∧ v = some (.long z)) ∧ t.heap = st.heap) (fun x st t => xnumAt β n kind u = none ∧ xl_T E_UO x st.heap t.heap t.vm) := by
  refine xM.of (by decide) ?_
  intro p e s m args below meth c hav E hr hk hh hnm hwX
  subst hav
  obtain ⟨⟨hP, hK⟩, hQ⟩ := hwX
  have hS : va_S xNA s.heap s.heap [] := va_S.rf
  refine xl_entry _ (Nat.le_of_ble_eq_true rfl) (fun ls hl => ?_)
  have hl : lv_has ls 7 [(0, .ref a), (1, .int kind), (2, .int (nI u))] := hl
  refine lv_aload_n E.1 E.2.1 d_X_numberAt_0 rfl (lv_at hl 0 rfl) ?_
  refine lv_iload_n E.1 E.2.1 d_X_numberAt_1 rfl (lv_at hl 2 rfl) ?_
  refine xg_looks (xc_V E xGT (c_lengthAt l hL D a w cJ cZ β n q u hn hu) vw_X_lengthAt (by decide) (wXt.call hP hK hQ) (PX.recv hP hK) rfl hl.1 rfl (Nat.le_of_ble_eq_true rfl) d_X_numberAt_2) (fun v st t h => h.2) (fun v st t h0 hal hrt => ?_) (fun x st t h0 hal hth hz => xr_leave hh hk hal h0 hth.2 (fun t hT => ⟨xnumAt_no hth.1, hT⟩))
  obtain ⟨⟨b, wd, hlen, rfl⟩, -⟩ := hrt
  obtain ⟨hb, hwd, huw⟩ := xlen_ok hlen
  have hof := xnumAt_of (kind := kind) hlen
  refine W.eq (g2 := F0 m 5 ls [.int (nI b)]) rfl ?_
  refine lv_istore_n E.1 E.2.1 d_X_numberAt_5 rfl hl (by decide) rfl (fun ls hl => ?_)
  have hl : lv_has ls 7 [(3, .int (nI b)), (0, .ref a), (1, .int kind), (2, .int (nI u))] := hl
  refine lv_iload_n E.1 E.2.1 d_X_numberAt_6 rfl (lv_at hl 0 rfl) ?_
  refine lv_iconst (v := 1) E.1 E.2.1 d_X_numberAt_7 (by decide) ?_
  refine lv_icmp_lt (tgt := 17) E.1 E.2.1 d_X_numberAt_8 (by decide) (fun h1 => ?_) (fun h1 => ?_)
  · skip
    have h1 : b < 1 := (nI_ltI (by omega) (by decide)).mp h1
    exact xr_throw E hL hQ hh hk tw_UO_numberAt_17 hl.1 d_X_numberAt_17 d_X_numberAt_20 d_X_numberAt_21 d_X_numberAt_23 d_X_numberAt_26 (by decide) (fun x t hT => ⟨by rw [hof, if_pos (Or.inl h1)], hT⟩)
  · skip
    have h1 : ¬ b < 1 := fun z => h1 ((nI_ltI (by omega) (by decide)).mpr z)
    refine lv_iload_n E.1 E.2.1 d_X_numberAt_11 rfl (lv_at hl 0 rfl) ?_
    refine lv_bipush (v := 8) E.1 E.2.1 d_X_numberAt_12 (by decide) ?_
    refine lv_icmp_le (tgt := 27) E.1 E.2.1 d_X_numberAt_14 (by decide) (fun h2 => ?_) (fun h2 => ?_)
    · skip
      have h2 : b ≤ 8 := (nI_leI (by omega) (by decide)).mp h2
      rw [if_neg (by omega)] at hof
      have hw8 : xlw b = 8 := by
        unfold xlw
        rw [if_neg (by omega)]
      have hwd : wd = 8 := by omega
      subst hwd
      refine lv_iload_n E.1 E.2.1 d_X_numberAt_27 rfl (lv_at hl 0 rfl) ?_
      refine lv_bipush (v := 8) E.1 E.2.1 d_X_numberAt_28 (by decide) ?_
      refine lv_imul E.1 E.2.1 d_X_numberAt_30 ?_
      refine xl_ti (y := (nI (b * 8))) (pk_mul _ 8) ?_
      refine lv_istore E.1 E.2.1 d_X_numberAt_31 hl (by decide) rfl (fun ls hl => ?_)
      have hl : lv_has ls 7 [(4, .int (nI (b * 8))), (3, .int (nI b)), (0, .ref a), (1, .int kind), (2, .int (nI u))] := hl
      refine lv_aload_n E.1 E.2.1 d_X_numberAt_33 rfl (lv_at hl 2 rfl) ?_
      refine lv_iload_n E.1 E.2.1 d_X_numberAt_34 rfl (lv_at hl 4 rfl) ?_
      refine lv_iload_n E.1 E.2.1 d_X_numberAt_35 rfl (lv_at hl 1 rfl) ?_
      refine xg_looks (xc_S E xGT (c_lengthWidth l b (by omega)) sw_X_lengthWidth (by decide) xNo rfl hl.1 rfl (Nat.le_of_ble_eq_true rfl) d_X_numberAt_36) (fun v st t h => h.2) (fun v st t h0 hal hrt => ?_) (fun x st t h0 hal hth hz => hth.elim)
      obtain ⟨rfl, -⟩ := hrt
      refine W.eq (g2 := F0 m 39 ls [.int (nI (xlw b)), .int (nI u), .ref a]) rfl ?_
      refine lv_iadd E.1 E.2.1 d_X_numberAt_39 ?_
      refine xl_ti (y := (nI (u + 8))) (by rw [nI_add, hw8]) ?_
      refine lv_iload E.1 E.2.1 d_X_numberAt_40 (lv_at hl 0 rfl) ?_
      refine xg_looks (xc_V E xGT (c_bitsAt l hL D a w cJ cZ β n q (u + 8) (b * 8) hn (by omega) (by omega)) vw_X_bitsAt (by decide) (wXt.call hP hK hQ) (PX.recv hP hK) rfl hl.1 rfl (Nat.le_of_ble_eq_true rfl) d_X_numberAt_42) (fun v st t h => h.2.2) (fun v st t h0 hal hrt => ?_) (fun x st t h0 hal hth hz => xr_leave hh hk hal h0 hth.2 (fun t hT => ⟨by rw [hof, if_pos (by have := hth.1; omega)], hT⟩))
      obtain ⟨h3, rfl, -⟩ := hrt
      rw [if_neg (by omega), Nat.mul_comm 8 b] at hof
      refine W.eq (g2 := F0 m 45 ls [.long (lN (xv β (u + 8) (b * 8)))]) rfl ?_
      refine lv_lstore E.1 E.2.1 d_X_numberAt_45 hl (by decide) rfl (fun ls hl => ?_)
      have hl : lv_has ls 7 [(5, .long (lN (xv β (u + 8) (b * 8)))), (4, .int (nI (b * 8))), (3, .int (nI b)), (0, .ref a), (1, .int kind), (2, .int (nI u))] := hl
      generalize hZ : lN (xv β (u + 8) (b * 8)) = Z at hof hl ⊢
      refine xl_join (fun ls : Array Slot => lv_has ls 7 [(5, .long (xsx kind Z b)), (4, .int (nI (b * 8))), (3, .int (nI b)), (0, .ref a), (1, .int kind), (2, .int (nI u))]) (fun ls => F0 m 68 ls []) (fun ls hl => ?_) (fun hj => ?_)
      · skip
        refine lv_iload_n E.1 E.2.1 d_X_numberAt_68 rfl (lv_at hl 4 rfl) ?_
        refine lv_lload E.1 E.2.1 d_X_numberAt_69 (lv_at hl 0 rfl) ?_
        refine xg_looks (xc_S E xGT (c_bytesToHold l kind (xsx kind Z b)) sw_X_bytesToHold (by decide) xNo rfl hl.1 rfl (Nat.le_of_ble_eq_true rfl) d_X_numberAt_71) (fun v st t h => h.2) (fun v st t h0 hal hrt => ?_) (fun x st t h0 hal hth hz => hth.elim)
        obtain ⟨rfl, -⟩ := hrt
        have hnb8 := nb_8 kind (xsx kind Z b)
        refine W.eq (g2 := F0 m 74 ls [.int (nI (nb kind (xsx kind Z b)))]) rfl ?_
        refine lv_iload_n E.1 E.2.1 d_X_numberAt_74 rfl (lv_at hl 2 rfl) ?_
        refine lv_icmp_eq (tgt := 88) E.1 E.2.1 d_X_numberAt_75 (by decide) (fun h4 => ?_) (fun h4 => ?_)
        · skip
          have h4 : nb kind (xsx kind Z b) = b := (nI_eq (by omega) (by omega)).mp h4
          rw [if_neg (fun z => z h4)] at hof
          refine lv_lload E.1 E.2.1 d_X_numberAt_88 (lv_at hl 0 rfl) ?_
          exact xr_lret E hr hk hS (fun t ht _ => ⟨⟨_, _, hof, rfl⟩, ht⟩) d_X_numberAt_90
        · skip
          have h4 : ¬ nb kind (xsx kind Z b) = b := fun z => h4 ((nI_eq (by omega) (by omega)).mpr z)
          rw [if_pos h4] at hof
          exact xr_throw E hL hQ hh hk tw_UO_numberAt_78 hl.1 d_X_numberAt_78 d_X_numberAt_81 d_X_numberAt_82 d_X_numberAt_84 d_X_numberAt_87 (by decide) (fun x t hT => ⟨hof, hT⟩)
      · skip
        refine lv_iload_n E.1 E.2.1 d_X_numberAt_47 rfl (lv_at hl 4 rfl) ?_
        refine lv_iconst (v := 1) E.1 E.2.1 d_X_numberAt_48 (by decide) ?_
        refine lv_icmp_ne (tgt := 68) E.1 E.2.1 d_X_numberAt_49 (by decide) (fun h4 => ?_) (fun h4 => ?_)
        · skip
          have hx : xsx kind Z b = Z := by
            unfold xsx
            rw [if_neg h4]
          rw [← hx] at hl
          exact hj ls hl
        · skip
          have hx : xsx kind Z b = xsr (xsl Z (nI (64 - b * 8))) (nI (64 - b * 8)) := by
            unfold xsx
            rw [if_pos h4, Nat.mul_comm 8 b]
          refine lv_lload E.1 E.2.1 d_X_numberAt_52 (lv_at hl 0 rfl) ?_
          refine lv_bipush (v := 64) E.1 E.2.1 d_X_numberAt_54 (by decide) ?_
          refine lv_iload E.1 E.2.1 d_X_numberAt_56 (lv_at hl 1 rfl) ?_
          refine lv_isub E.1 E.2.1 d_X_numberAt_58 ?_
          refine xl_ti (y := (nI (64 - b * 8))) (pk_sub (a := 64) (b := b * 8) (by omega)) ?_
          refine lv_lshl (v := xsl Z (nI (64 - b * 8))) E.1 E.2.1 d_X_numberAt_59 rfl ?_
          refine lv_bipush (v := 64) E.1 E.2.1 d_X_numberAt_60 (by decide) ?_
          refine lv_iload E.1 E.2.1 d_X_numberAt_62 (lv_at hl 1 rfl) ?_
          refine lv_isub E.1 E.2.1 d_X_numberAt_64 ?_
          refine xl_ti (y := (nI (64 - b * 8))) (pk_sub (a := 64) (b := b * 8) (by omega)) ?_
          refine lv_lshr (v := xsr (xsl Z (nI (64 - b * 8))) (nI (64 - b * 8))) E.1 E.2.1 d_X_numberAt_65 rfl ?_
          refine xl_tl (y := (xsx kind Z b)) (hx.symm) ?_
          refine lv_lstore E.1 E.2.1 d_X_numberAt_66 hl (by decide) rfl (fun ls hl => ?_)
          have hl : lv_has ls 7 [(5, .long (xsx kind Z b)), (4, .int (nI (b * 8))), (3, .int (nI b)), (0, .ref a), (1, .int kind), (2, .int (nI u))] := hl
          exact hj ls hl
    · skip
      have h2 : ¬ b ≤ 8 := fun z => h2 ((nI_leI (by omega) (by decide)).mpr z)
      exact xr_throw E hL hQ hh hk tw_UO_numberAt_17 hl.1 d_X_numberAt_17 d_X_numberAt_20 d_X_numberAt_21 d_X_numberAt_23 d_X_numberAt_26 (by decide) (fun x t hT => ⟨by rw [hof, if_pos (Or.inr (by omega))], hT⟩)
set_option maxHeartbeats 4000000 in
set_option maxRecDepth 100000 in
theorem c_smallAt (l : Launch) (hL : l.stackTraces = false) (D : va_G) (a w : Nat) (cJ cZ : ClassId) (β : Nat → Bool) (n q u : Nat) (hn : n ≤ 65536) (hu : u ≤ n) : xM l y_X_smallAt w_X_smallAt (xrm 5) [.ref a, .int (nI u)] (wXt D a w cJ cZ β n q) xNA (fun v st t => (∃ z wd, xsmallAt β n u = some (z, wd) ∧ v = some (.long z)) ∧ t.heap = st.heap) (fun x st t => xsmallAt β n u = none ∧ xl_T E_UO x st.heap t.heap t.vm) := by
  refine xM.of (by decide) ?_
  intro p e s m args below meth c hav E hr hk hh hnm hwX
  subst hav
  obtain ⟨⟨hP, hK⟩, hQ⟩ := hwX
  have hS : va_S xNA s.heap s.heap [] := va_S.rf
  refine xl_entry _ (Nat.le_of_ble_eq_true rfl) (fun ls hl => ?_)
  have hl : lv_has ls 4 [(0, .ref a), (1, .int (nI u))] := hl
  refine lv_aload_n E.1 E.2.1 d_X_smallAt_0 rfl (lv_at hl 0 rfl) ?_
  refine lv_iload_n E.1 E.2.1 d_X_smallAt_1 rfl (lv_at hl 1 rfl) ?_
  refine lv_iconst (v := 1) E.1 E.2.1 d_X_smallAt_2 (by decide) ?_
  refine xg_looks (xc_V E xGT (c_bitsAt l hL D a w cJ cZ β n q u 1 hn hu (by decide)) vw_X_bitsAt (by decide) (wXt.call hP hK hQ) (PX.recv hP hK) rfl hl.1 rfl (Nat.le_of_ble_eq_true rfl) d_X_smallAt_3) (fun v st t h => h.2.2) (fun v st t h0 hal hrt => ?_) (fun x st t h0 hal hth hz => xr_leave hh hk hal h0 hth.2 (fun t hT => ⟨by unfold xsmallAt; rw [if_pos (by have := hth.1; omega)], hT⟩))
  obtain ⟨h1, rfl, -⟩ := hrt
  refine W.eq (g2 := F0 m 6 ls [.long (lN (xv β u 1))]) rfl ?_
  refine lv_lconst (v := 0) E.1 E.2.1 d_X_smallAt_6 (by decide) ?_
  refine xl_lc_ne (tgt := 21) E.1 E.2.1 d_X_smallAt_7 d_X_smallAt_8 (by decide) (fun h2 => ?_) (fun h2 => ?_)
  · skip
    have h2 : ¬ β u = false := fun z => h2 (xv_10.mpr z)
    have hof : xsmallAt β n u = match xnumAt β n 0 (u + 1) with
        | none => none
        | some (v, w) => if 0 ≤ v ∧ v < 64 then none else some (v, w + 1) := by
      unfold xsmallAt
      rw [if_neg (by omega), if_neg h2]
      rfl
    refine lv_aload_n E.1 E.2.1 d_X_smallAt_21 rfl (lv_at hl 0 rfl) ?_
    refine lv_iconst (v := 0) E.1 E.2.1 d_X_smallAt_22 (by decide) ?_
    refine lv_iload_n E.1 E.2.1 d_X_smallAt_23 rfl (lv_at hl 1 rfl) ?_
    refine lv_iconst (v := 1) E.1 E.2.1 d_X_smallAt_24 (by decide) ?_
    refine lv_iadd E.1 E.2.1 d_X_smallAt_25 ?_
    refine xl_ti (y := (nI (u + 1))) (nI_1 u) ?_
    refine xg_looks (xc_V E xGT (c_numberAt l hL D a w cJ cZ β n q (u + 1) 0 hn (by omega)) vw_X_numberAt (by decide) (wXt.call hP hK hQ) (PX.recv hP hK) rfl hl.1 rfl (Nat.le_of_ble_eq_true rfl) d_X_smallAt_26) (fun v st t h => h.2) (fun v st t h0 hal hrt => ?_) (fun x st t h0 hal hth hz => xr_leave hh hk hal h0 hth.2 (fun t hT => ⟨by rw [hof, hth.1], hT⟩))
    obtain ⟨⟨z, wd, hz, rfl⟩, -⟩ := hrt
    rw [hz] at hof
    refine W.eq (g2 := F0 m 29 ls [.long z]) rfl ?_
    refine lv_lstore_n E.1 E.2.1 d_X_smallAt_29 rfl hl (by decide) rfl (fun ls hl => ?_)
    have hl : lv_has ls 4 [(2, .long z), (0, .ref a), (1, .int (nI u))] := hl
    refine lv_lload_n E.1 E.2.1 d_X_smallAt_30 rfl (lv_at hl 0 rfl) ?_
    refine xg_looks (xc_S E xGT (c_isSmall l z) sw_X_isSmall (by decide) xNo rfl hl.1 rfl (Nat.le_of_ble_eq_true rfl) d_X_smallAt_31) (fun v st t h => h.2) (fun v st t h0 hal hrt => ?_) (fun x st t h0 hal hth hz => hth.elim)
    obtain ⟨rfl, -⟩ := hrt
    refine W.eq (g2 := F0 m 34 ls [.int (if 0 ≤ z ∧ z < 64 then 1 else 0)]) rfl ?_
    refine lv_if_eq (tgt := 47) E.1 E.2.1 d_X_smallAt_34 (by decide) (fun h3 => ?_) (fun h3 => ?_)
    · skip
      have h3 : ¬ (0 ≤ z ∧ z < 64) := fun q => by rw [if_pos q] at h3; exact absurd h3 (by decide)
      have hof : xsmallAt β n u = some (z, wd + 1) := by rw [hof]; exact if_neg h3
      refine lv_lload_n E.1 E.2.1 d_X_smallAt_47 rfl (lv_at hl 0 rfl) ?_
      exact xr_lret E hr hk hS (fun t ht _ => ⟨⟨_, _, hof, rfl⟩, ht⟩) d_X_smallAt_48
    · skip
      have h3 : 0 ≤ z ∧ z < 64 := Classical.byContradiction fun q => h3 (by rw [if_neg q])
      have hof : xsmallAt β n u = none := by rw [hof]; exact if_pos h3
      exact xr_throw E hL hQ hh hk tw_UO_smallAt hl.1 d_X_smallAt_37 d_X_smallAt_40 d_X_smallAt_41 d_X_smallAt_43 d_X_smallAt_46 (by decide) (fun x t hT => ⟨hof, hT⟩)
  · skip
    have h2 : β u = false := xv_10.mp h2
    refine lv_aload_n E.1 E.2.1 d_X_smallAt_11 rfl (lv_at hl 0 rfl) ?_
    refine lv_iload_n E.1 E.2.1 d_X_smallAt_12 rfl (lv_at hl 1 rfl) ?_
    refine lv_iconst (v := 1) E.1 E.2.1 d_X_smallAt_13 (by decide) ?_
    refine lv_iadd E.1 E.2.1 d_X_smallAt_14 ?_
    refine xl_ti (y := (nI (u + 1))) (nI_1 u) ?_
    refine lv_bipush (v := 6) E.1 E.2.1 d_X_smallAt_15 (by decide) ?_
    refine xg_looks (xc_V E xGT (c_bitsAt l hL D a w cJ cZ β n q (u + 1) 6 hn (by omega) (by decide)) vw_X_bitsAt (by decide) (wXt.call hP hK hQ) (PX.recv hP hK) rfl hl.1 rfl (Nat.le_of_ble_eq_true rfl) d_X_smallAt_17) (fun v st t h => h.2.2) (fun v st t h0 hal hrt => ?_) (fun x st t h0 hal hth hz => xr_leave hh hk hal h0 hth.2 (fun t hT => ⟨by unfold xsmallAt; rw [if_neg (by omega), if_pos h2, if_pos (by have := hth.1; omega)], hT⟩))
    obtain ⟨h3, rfl, -⟩ := hrt
    refine W.eq (g2 := F0 m 20 ls [.long (lN (xv β (u + 1) 6))]) rfl ?_
    exact xr_lret E hr hk hS (fun t ht _ => ⟨⟨_, 7, by unfold xsmallAt; rw [if_neg (by omega), if_pos h2, if_neg (by omega)], rfl⟩, ht⟩) d_X_smallAt_20
end XL14
end
section
/-! The class: the calls that write. -/
section XL15
/-- a call of the class has answered an int as it should; .. a long; it has thrown as it should -/
def xRi (r : Nat × Int64 × xS) (D : va_G) (a w : Nat) (cJ : ClassId) : Option Value → State → State → Prop := fun v _ t => r.1 = 0 ∧ (∃ z : Int32, v = some (.int z) ∧ z.toInt64 = r.2.1) ∧ PX D a w cJ r.2.2.1 r.2.2.2.1 r.2.2.2.2 t.heap
def xRl (r : Nat × Int64 × xS) (D : va_G) (a w : Nat) (cJ : ClassId) : Option Value → State → State → Prop := fun v _ t => r.1 = 0 ∧ v = some (.long r.2.1) ∧ PX D a w cJ r.2.2.1 r.2.2.2.1 r.2.2.2.2 t.heap
def xTh (r : Nat × Int64 × xS) (E1 E2 : String) : Addr → State → State → Prop := fun x st t => (r.1 = 1 ∧ xl_T E1 x st.heap t.heap t.vm) ∨ (r.1 = 2 ∧ xl_T E2 x st.heap t.heap t.vm)
theorem xRi.mk {r : Nat × Int64 × xS} {D : va_G} {a w : Nat} {cJ : ClassId} {s t : State} {z : Int32} {v : Int64} {β : Nat → Bool} {n q : Nat} (h : r = (0, v, (β, n, q))) (hz : z.toInt64 = v) (hP : PX D a w cJ β n q t.heap) : xRi r D a w cJ (some (.int z)) s t := by
  subst h
  exact ⟨rfl, ⟨z, rfl, hz⟩, hP⟩
theorem xRl.mk {r : Nat × Int64 × xS} {D : va_G} {a w : Nat} {cJ : ClassId} {s t : State} {v : Int64} {β : Nat → Bool} {n q : Nat} (h : r = (0, v, (β, n, q))) (hP : PX D a w cJ β n q t.heap) : xRl r D a w cJ (some (.long v)) s t := by
  subst h
  exact ⟨rfl, rfl, hP⟩
theorem xcl64 {k : Int32} {j : Nat} (h : k = nI j) (hj : j < 2 ^ 31) : k.toNatClampNeg = j := by
  rw [h]
  exact nI_clamp hj
set_option maxHeartbeats 4000000 in
set_option maxRecDepth 100000 in
theorem c_put (l : Launch) (hL : l.stackTraces = false) (D : va_G) (a w : Nat) (cJ cZ : ClassId) (β : Nat → Bool) (n q : Nat) (hn : n ≤ 65536) (hne : a ≠ w) (x : Int64) (k : Int32) : xM l y_X_put w_X_put (xrm 6) [.ref a, .long x, .int k] (wXt D a w cJ cZ β n q) (xA2 a w) (xRi (sp_put (β, n, q) x k) D a w cJ) (xTh (sp_put (β, n, q) x k) E_IA E_IO) := by
  refine xM.of (by decide) ?_
  intro p e s m args below meth c hav E hr hk hh hnm hwX
  subst hav
  obtain ⟨⟨hP, hK⟩, hQ⟩ := hwX
  have hS : va_S (xA2 a w) s.heap s.heap [] := va_S.rf
  refine xl_entry _ (Nat.le_of_ble_eq_true rfl) (fun ls hl => ?_)
  have hl : lv_has ls 4 [(0, .ref a), (1, .long x), (3, .int k)] := hl
  refine lv_iload_n E.1 E.2.1 d_X_put_0 rfl (lv_at hl 2 rfl) ?_
  refine xg_looks (xc_S E xGT (c_requireWidth l hL k) sw_X_requireWidth (by decide) (xQc hQ) rfl hl.1 rfl (Nat.le_of_ble_eq_true rfl) d_X_put_1) (fun v st t h => h.2.2) (fun v st t h0 hal hrt => ?_) (fun x st t h0 hal hth hz => xr_leave hh hk hal h0 hth.2 (fun t hT => Or.inl ⟨by unfold sp_put; rw [if_pos hth.1], hT⟩))
  obtain ⟨hkk, rfl, -⟩ := hrt
  obtain ⟨j, hj, hkj⟩ := nI_of (fun z => hkk (Or.inl z))
  have hj64 : j ≤ 64 := by
    refine Nat.not_lt.mp (fun z => hkk (Or.inr ?_))
    rw [hkj]
    exact (nI_ltI (a := 64) (by decide) hj).mpr z
  have hcl := xcl64 hkj hj
  have hsp : sp_put (β, n, q) x k = sp_write (β, n, q) x j 2 := by
    unfold sp_put
    rw [if_neg hkk, hcl]
  refine W.eq (g2 := F0 m 4 ls []) rfl ?_
  refine lv_aload_n E.1 E.2.1 d_X_put_4 rfl (lv_at hl 0 rfl) ?_
  refine lv_iload_n E.1 E.2.1 d_X_put_5 rfl (lv_at hl 2 rfl) ?_
  refine xl_ti (y := (nI j)) (hkj) ?_
  refine xg_looks (xc_V E xGT (c_requireRoom l hL D a w cJ cZ β n q j hn hj) vw_X_requireRoom (by decide) (wXt.call hP hK hQ) (PX.recv hP hK) rfl hl.1 rfl (Nat.le_of_ble_eq_true rfl) d_X_put_6) (fun v st t h => h.2.2) (fun v st t h0 hal hrt => ?_) (fun x st t h0 hal hth hz => xr_leave hh hk hal h0 hth.2 (fun t hT => Or.inr ⟨by rw [hsp]; unfold sp_write; rw [if_pos hth.1], hT⟩))
  obtain ⟨hrm, rfl, -⟩ := hrt
  have hsp : sp_put (β, n, q) x k = (0, lN (n + j), (xa β n x j, n + j, q)) := by
    rw [hsp]
    unfold sp_write
    rw [if_neg (Nat.not_lt.mpr hrm)]
  refine W.eq (g2 := F0 m 9 ls []) rfl ?_
  refine lv_aload_n E.1 E.2.1 d_X_put_9 rfl (lv_at hl 0 rfl) ?_
  refine lv_lload_n E.1 E.2.1 d_X_put_10 rfl (lv_at hl 1 rfl) ?_
  refine lv_iload_n E.1 E.2.1 d_X_put_11 rfl (lv_at hl 2 rfl) ?_
  refine xl_ti (y := (nI j)) (hkj) ?_
  refine xg_goes (xc_V E xGT (c_append l D a w cJ cZ β n q j x hrm hj64 hne) vw_X_append (by decide) (wX.call hP hK) (PX.recv hP hK) rfl hl.1 rfl (Nat.le_of_ble_eq_true rfl) d_X_put_12) hS (fun q _ h => h) (fun q h => h) (fun v st t locs1 h0 hal hrt hS1 hz hkp => ?_) (fun x st t locs1 h0 hal hth => hth.elim)
  obtain ⟨rfl, hP1⟩ := hrt
  refine W.eq (g2 := F0 m 15 ls []) rfl ?_
  generalize t.heap = H1 at hP1 hS1 hz hkp ⊢
  clear hP
  have hP := hP1
  refine lv_aload_n E.1 E.2.1 d_X_put_15 rfl (lv_at hl 0 rfl) ?_
  refine gx_size E hK hP d_X_put_16 ?_
  exact xr_iret E hr hk hS1 (fun t ht _ => xRi.mk hsp (nI_l (by omega)) (by rw [ht]; exact hP)) d_X_put_19
set_option maxHeartbeats 4000000 in
set_option maxRecDepth 100000 in
theorem c_putRange (l : Launch) (hL : l.stackTraces = false) (D : va_G) (a w : Nat) (cJ cZ : ClassId) (β : Nat → Bool) (n q : Nat) (hn : n ≤ 65536) (hne : a ≠ w) (lo hi x : Int64) : xM l y_X_putRange w_X_putRange (xrm 6) [.ref a, .long lo, .long hi, .long x] (wXt D a w cJ cZ β n q) (xA2 a w) (xRi (sp_putRange (β, n, q) lo hi x) D a w cJ) (xTh (sp_putRange (β, n, q) lo hi x) E_IA E_IO) := by
  refine xM.of (by decide) ?_
  intro p e s m args below meth c hav E hr hk hh hnm hwX
  subst hav
  obtain ⟨⟨hP, hK⟩, hQ⟩ := hwX
  have hS : va_S (xA2 a w) s.heap s.heap [] := va_S.rf
  have hb := nbl_64 (hi - lo)
  refine xl_entry _ (Nat.le_of_ble_eq_true rfl) (fun ls hl => ?_)
  have hl : lv_has ls 8 [(0, .ref a), (1, .long lo), (3, .long hi), (5, .long x)] := hl
  refine lv_lload E.1 E.2.1 d_X_putRange_0 (lv_at hl 3 rfl) ?_
  refine lv_lload_n E.1 E.2.1 d_X_putRange_2 rfl (lv_at hl 1 rfl) ?_
  refine xl_lc_lt (tgt := 14) E.1 E.2.1 d_X_putRange_3 d_X_putRange_4 (by decide) (fun h1 => ?_) (fun h1 => ?_)
  · skip
    exact xr_throw E hL hQ hh hk tw_IA_putRange hl.1 d_X_putRange_14 d_X_putRange_17 d_X_putRange_18 d_X_putRange_20 d_X_putRange_23 (by decide) (fun x t hT => Or.inl ⟨by unfold sp_putRange; rw [if_pos (Or.inl h1)], hT⟩)
  · skip
    refine lv_lload E.1 E.2.1 d_X_putRange_7 (lv_at hl 3 rfl) ?_
    refine lv_lload_n E.1 E.2.1 d_X_putRange_9 rfl (lv_at hl 2 rfl) ?_
    refine xl_lc_le (tgt := 24) E.1 E.2.1 d_X_putRange_10 d_X_putRange_11 (by decide) (fun h2 => ?_) (fun h2 => ?_)
    · skip
      have h3 : ¬ (x < lo ∨ hi < x) := by
        rintro (z | z)
        · exact h1 z
        · rw [Int64.lt_iff_toInt_lt] at z
          rw [Int64.le_iff_toInt_le] at h2
          omega
      have hsp : sp_putRange (β, n, q) lo hi x = sp_write (β, n, q) (x - lo) (nbl (uN (hi - lo))) 2 := by
        unfold sp_putRange
        rw [if_neg h3]
      refine lv_lload_n E.1 E.2.1 d_X_putRange_24 rfl (lv_at hl 2 rfl) ?_
      refine lv_lload_n E.1 E.2.1 d_X_putRange_25 rfl (lv_at hl 1 rfl) ?_
      refine lv_lsub E.1 E.2.1 d_X_putRange_26 ?_
      refine xg_looks (xc_S E xGT (c_bitsToHold l (hi - lo)) sw_X_bitsToHold (by decide) xNo rfl hl.1 rfl (Nat.le_of_ble_eq_true rfl) d_X_putRange_27) (fun v st t h => h.2) (fun v st t h0 hal hrt => ?_) (fun x st t h0 hal hth hz => hth.elim)
      obtain ⟨rfl, -⟩ := hrt
      refine W.eq (g2 := F0 m 30 ls [.int (nI (nbl (uN (hi - lo))))]) rfl ?_
      refine lv_istore E.1 E.2.1 d_X_putRange_30 hl (by decide) rfl (fun ls hl => ?_)
      have hl : lv_has ls 8 [(7, .int (nI (nbl (uN (hi - lo))))), (0, .ref a), (1, .long lo), (3, .long hi), (5, .long x)] := hl
      refine lv_aload_n E.1 E.2.1 d_X_putRange_32 rfl (lv_at hl 1 rfl) ?_
      refine lv_iload E.1 E.2.1 d_X_putRange_33 (lv_at hl 0 rfl) ?_
      refine xg_looks (xc_V E xGT (c_requireRoom l hL D a w cJ cZ β n q (nbl (uN (hi - lo))) hn (by omega)) vw_X_requireRoom (by decide) (wXt.call hP hK hQ) (PX.recv hP hK) rfl hl.1 rfl (Nat.le_of_ble_eq_true rfl) d_X_putRange_35) (fun v st t h => h.2.2) (fun v st t h0 hal hrt => ?_) (fun x st t h0 hal hth hz => xr_leave hh hk hal h0 hth.2 (fun t hT => Or.inr ⟨by rw [hsp]; unfold sp_write; rw [if_pos hth.1], hT⟩))
      obtain ⟨hrm, rfl, -⟩ := hrt
      have hsp : sp_putRange (β, n, q) lo hi x = (0, lN (n + nbl (uN (hi - lo))), (xa β n (x - lo) (nbl (uN (hi - lo))), n + nbl (uN (hi - lo)), q)) := by
        rw [hsp]
        unfold sp_write
        rw [if_neg (Nat.not_lt.mpr hrm)]
      refine W.eq (g2 := F0 m 38 ls []) rfl ?_
      refine lv_aload_n E.1 E.2.1 d_X_putRange_38 rfl (lv_at hl 1 rfl) ?_
      refine lv_lload E.1 E.2.1 d_X_putRange_39 (lv_at hl 4 rfl) ?_
      refine lv_lload_n E.1 E.2.1 d_X_putRange_41 rfl (lv_at hl 2 rfl) ?_
      refine lv_lsub E.1 E.2.1 d_X_putRange_42 ?_
      refine lv_iload E.1 E.2.1 d_X_putRange_43 (lv_at hl 0 rfl) ?_
      refine xg_goes (xc_V E xGT (c_append l D a w cJ cZ β n q (nbl (uN (hi - lo))) (x - lo) hrm hb hne) vw_X_append (by decide) (wX.call hP hK) (PX.recv hP hK) rfl hl.1 rfl (Nat.le_of_ble_eq_true rfl) d_X_putRange_45) hS (fun q _ h => h) (fun q h => h) (fun v st t locs1 h0 hal hrt hS1 hz hkp => ?_) (fun x st t locs1 h0 hal hth => hth.elim)
      obtain ⟨rfl, hP1⟩ := hrt
      refine W.eq (g2 := F0 m 48 ls []) rfl ?_
      generalize t.heap = H1 at hP1 hS1 hz hkp ⊢
      clear hP
      have hP := hP1
      refine lv_aload_n E.1 E.2.1 d_X_putRange_48 rfl (lv_at hl 1 rfl) ?_
      refine gx_size E hK hP d_X_putRange_49 ?_
      exact xr_iret E hr hk hS1 (fun t ht _ => xRi.mk hsp (nI_l (by omega)) (by rw [ht]; exact hP)) d_X_putRange_52
    · skip
      have h3 : hi < x := by
        rw [Int64.lt_iff_toInt_lt]
        rw [Int64.le_iff_toInt_le] at h2
        omega
      exact xr_throw E hL hQ hh hk tw_IA_putRange hl.1 d_X_putRange_14 d_X_putRange_17 d_X_putRange_18 d_X_putRange_20 d_X_putRange_23 (by decide) (fun x t hT => Or.inl ⟨by unfold sp_putRange; rw [if_pos (Or.inr h3)], hT⟩)
set_option maxHeartbeats 4000000 in
set_option maxRecDepth 100000 in
theorem c_putLength (l : Launch) (hL : l.stackTraces = false) (D : va_G) (a w : Nat) (cJ cZ : ClassId) (β : Nat → Bool) (n q : Nat) (hn : n ≤ 65536) (hne : a ≠ w) (x : Int32) : xM l y_X_putLength w_X_putLength (xrm 6) [.ref a, .int x] (wXt D a w cJ cZ β n q) (xA2 a w) (xRi (sp_putLength (β, n, q) x) D a w cJ) (xTh (sp_putLength (β, n, q) x) E_IA E_IO) := by
  refine xM.of (by decide) ?_
  intro p e s m args below meth c hav E hr hk hh hnm hwX
  subst hav
  obtain ⟨⟨hP, hK⟩, hQ⟩ := hwX
  have hS : va_S (xA2 a w) s.heap s.heap [] := va_S.rf
  refine xl_entry _ (Nat.le_of_ble_eq_true rfl) (fun ls hl => ?_)
  have hl : lv_has ls 3 [(0, .ref a), (1, .int x)] := hl
  refine lv_iload_n E.1 E.2.1 d_X_putLength_0 rfl (lv_at hl 1 rfl) ?_
  refine lv_if_ge (tgt := 14) E.1 E.2.1 d_X_putLength_1 (by decide) (fun h1 => ?_) (fun h1 => ?_)
  · skip
    have h1' : ¬ x < 0 := xi_nlt.mpr h1
    obtain ⟨j, hj, hxj⟩ := nI_of h1'
    have hcl := xcl64 hxj hj
    have ht0 : xtold j ≤ 65536 := by
      unfold xtold
      split <;> omega
    generalize hT : xtold j = T at ht0
    have hlw : xlw T ≤ 16 := by
      unfold xlw
      split <;> omega
    have hlc : xlc T < 2 ^ 31 := by
      unfold xlc
      split
      · omega
      · split <;> omega
    have hsp : sp_putLength (β, n, q) x = if 65536 < n + xlw T then (2, 0, (β, n, q)) else (0, lN T, (xa β n (lN (xlc T)) (xlw T), n + xlw T, q)) := by
      unfold sp_putLength
      rw [if_neg h1', hcl, ← hT]
    refine xl_join (fun z : Int32 => z = nI T) (fun z => F0 m 38 ls [.int z]) (fun z hz => ?_) (fun hjn => ?_)
    · subst hz
      refine lv_istore_n E.1 E.2.1 d_X_putLength_38 rfl hl (by decide) rfl (fun ls hl => ?_)
      have hl : lv_has ls 3 [(2, .int (nI T)), (0, .ref a), (1, .int x)] := hl
      refine lv_aload_n E.1 E.2.1 d_X_putLength_39 rfl (lv_at hl 1 rfl) ?_
      refine lv_iload_n E.1 E.2.1 d_X_putLength_40 rfl (lv_at hl 0 rfl) ?_
      refine xg_looks (xc_S E xGT (c_lengthWidth l T (by omega)) sw_X_lengthWidth (by decide) xNo rfl hl.1 rfl (Nat.le_of_ble_eq_true rfl) d_X_putLength_41) (fun v st t h => h.2) (fun v st t h0 hal hrt => ?_) (fun x st t h0 hal hth hz => hth.elim)
      obtain ⟨rfl, -⟩ := hrt
      refine W.eq (g2 := F0 m 44 ls [.int (nI (xlw T)), .ref a]) rfl ?_
      refine xg_looks (xc_V E xGT (c_requireRoom l hL D a w cJ cZ β n q (xlw T) hn (by omega)) vw_X_requireRoom (by decide) (wXt.call hP hK hQ) (PX.recv hP hK) rfl hl.1 rfl (Nat.le_of_ble_eq_true rfl) d_X_putLength_44) (fun v st t h => h.2.2) (fun v st t h0 hal hrt => ?_) (fun x st t h0 hal hth hz => xr_leave hh hk hal h0 hth.2 (fun t hT => Or.inr ⟨by rw [hsp, if_pos hth.1], hT⟩))
      obtain ⟨hrm, rfl, -⟩ := hrt
      rw [if_neg (Nat.not_lt.mpr hrm)] at hsp
      refine W.eq (g2 := F0 m 47 ls []) rfl ?_
      refine lv_aload_n E.1 E.2.1 d_X_putLength_47 rfl (lv_at hl 1 rfl) ?_
      refine lv_iload_n E.1 E.2.1 d_X_putLength_48 rfl (lv_at hl 0 rfl) ?_
      refine xg_looks (xc_S E xGT (c_lengthCode l T ht0) sw_X_lengthCode (by decide) xNo rfl hl.1 rfl (Nat.le_of_ble_eq_true rfl) d_X_putLength_49) (fun v st t h => h.2) (fun v st t h0 hal hrt => ?_) (fun x st t h0 hal hth hz => hth.elim)
      obtain ⟨rfl, -⟩ := hrt
      refine W.eq (g2 := F0 m 52 ls [.int (nI (xlc T)), .ref a]) rfl ?_
      refine lv_i2l (v := (nI (xlc T)).toInt64) E.1 E.2.1 d_X_putLength_52 rfl ?_
      refine xl_tl (y := (lN (xlc T))) (nI_l hlc) ?_
      refine lv_iload_n E.1 E.2.1 d_X_putLength_53 rfl (lv_at hl 0 rfl) ?_
      refine xg_looks (xc_S E xGT (c_lengthWidth l T (by omega)) sw_X_lengthWidth (by decide) xNo rfl hl.1 rfl (Nat.le_of_ble_eq_true rfl) d_X_putLength_54) (fun v st t h => h.2) (fun v st t h0 hal hrt => ?_) (fun x st t h0 hal hth hz => hth.elim)
      obtain ⟨rfl, -⟩ := hrt
      refine W.eq (g2 := F0 m 57 ls [.int (nI (xlw T)), .long (lN (xlc T)), .ref a]) rfl ?_
      refine xg_goes (xc_V E xGT (c_append l D a w cJ cZ β n q (xlw T) (lN (xlc T)) hrm (by omega) hne) vw_X_append (by decide) (wX.call hP hK) (PX.recv hP hK) rfl hl.1 rfl (Nat.le_of_ble_eq_true rfl) d_X_putLength_57) hS (fun q _ h => h) (fun q h => h) (fun v st t locs1 h0 hal hrt hS1 hz hkp => ?_) (fun x st t locs1 h0 hal hth => hth.elim)
      obtain ⟨rfl, hP1⟩ := hrt
      refine W.eq (g2 := F0 m 60 ls []) rfl ?_
      generalize t.heap = H1 at hP1 hS1 hz hkp ⊢
      refine lv_iload_n E.1 E.2.1 d_X_putLength_60 rfl (lv_at hl 0 rfl) ?_
      exact xr_iret E hr hk hS1 (fun t ht _ => xRi.mk hsp (nI_l (by omega)) (by rw [ht]; exact hP1)) d_X_putLength_61
    · skip
      refine lv_iload_n E.1 E.2.1 d_X_putLength_14 rfl (lv_at hl 1 rfl) ?_
      refine xl_ti (y := (nI j)) (hxj) ?_
      refine lv_sipush (v := 16384) E.1 E.2.1 d_X_putLength_15 (by decide) ?_
      refine lv_icmp_ge (tgt := 25) E.1 E.2.1 d_X_putLength_18 (by decide) (fun h2 => ?_) (fun h2 => ?_)
      · skip
        have h2 : 16384 ≤ j := (nI_leI (by decide) hj).mp h2
        refine lv_iload_n E.1 E.2.1 d_X_putLength_25 rfl (lv_at hl 1 rfl) ?_
        refine xl_ti (y := (nI j)) (hxj) ?_
        refine lv_sipush (v := 16384) E.1 E.2.1 d_X_putLength_26 (by decide) ?_
        refine lv_idiv E.1 E.2.1 d_X_putLength_29 (by decide) ?_
        refine xl_ti (y := (nI (j / 16384))) (pk_div hj (by decide) (by decide)) ?_
        refine lv_iconst (v := 4) E.1 E.2.1 d_X_putLength_30 (by decide) ?_
        refine va_mmin E.1 E.2.1 (by rw [E.2.2.1, hl.1]) E.2.2.2.1 (E.2.2.2.2 _ ml_X_min) (E.2.2.2.2 _ ml_min_static) (E.2.2.2.2 _ ml_Math_init) (E.2.2.2.2 _ ml_min_code) (by decide) (Nat.le_of_ble_eq_true rfl) (by decide) (by decide) d_X_putLength_31 ?_
        refine xl_ti (y := (nI (min 4 (j / 16384)))) (xmin4 (Nat.lt_of_le_of_lt (Nat.div_le_self _ _) hj)) ?_
        refine lv_sipush (v := 16384) E.1 E.2.1 d_X_putLength_34 (by decide) ?_
        refine lv_imul E.1 E.2.1 d_X_putLength_37 ?_
        refine hjn _ ?_
        rw [← hT]
        unfold xtold
        rw [if_neg (by omega), Nat.mul_comm]
        exact pk_mul _ 16384
      · skip
        have h2 : ¬ 16384 ≤ j := fun z => h2 ((nI_leI (by decide) hj).mpr z)
        refine lv_iload_n E.1 E.2.1 d_X_putLength_21 rfl (lv_at hl 1 rfl) ?_
        refine xl_ti (y := (nI j)) (hxj) ?_
        refine lv_goto (tgt := 38) E.1 E.2.1 d_X_putLength_22 (by decide) ?_
        refine hjn _ ?_
        rw [← hT]
        unfold xtold
        rw [if_pos (by omega)]
  · skip
    have h2 : x < 0 := xi_nle.mp h1
    exact xr_throw E hL hQ hh hk tw_IA_putLength hl.1 d_X_putLength_4 d_X_putLength_7 d_X_putLength_8 d_X_putLength_10 d_X_putLength_13 (by decide) (fun x t hT => Or.inl ⟨by unfold sp_putLength; rw [if_pos h2], hT⟩)
set_option maxHeartbeats 4000000 in
set_option maxRecDepth 100000 in
theorem c_fill (l : Launch) (hL : l.stackTraces = false) (D : va_G) (a w : Nat) (cJ cZ : ClassId) (β : Nat → Bool) (n q : Nat) (hn : n ≤ 65536) (hne : a ≠ w) : xM l y_X_fill w_X_fill (xrm 6) [.ref a] (wXt D a w cJ cZ β n q) (xA2 a w) (xRi (sp_fill (β, n, q)) D a w cJ) (xTh (sp_fill (β, n, q)) E_IO E_IO) := by
  refine xM.of (by decide) ?_
  intro p e s m args below meth c hav E hr hk hh hnm hwX
  subst hav
  obtain ⟨⟨hP, hK⟩, hQ⟩ := hwX
  have hS : va_S (xA2 a w) s.heap s.heap [] := va_S.rf
  have hf8 : xfill n ≤ 8 := by
    unfold xfill
    split <;> omega
  have hsp : sp_fill (β, n, q) = if 65536 < n + xfill n then (1, 0, (β, n, q)) else (0, lN (n + xfill n), (xa β n 0 (xfill n), n + xfill n, q)) := rfl
  refine xl_entry _ (Nat.le_of_ble_eq_true rfl) (fun ls hl => ?_)
  have hl : lv_has ls 2 [(0, .ref a)] := hl
  refine xl_join (fun z : Int32 => z = nI (xfill n)) (fun z => F0 m 25 ls [.int z]) (fun z hz => ?_) (fun hjn => ?_)
  · subst hz
    refine lv_istore_n E.1 E.2.1 d_X_fill_25 rfl hl (by decide) rfl (fun ls hl => ?_)
    have hl : lv_has ls 2 [(1, .int (nI (xfill n))), (0, .ref a)] := hl
    refine lv_aload_n E.1 E.2.1 d_X_fill_26 rfl (lv_at hl 1 rfl) ?_
    refine lv_iload_n E.1 E.2.1 d_X_fill_27 rfl (lv_at hl 0 rfl) ?_
    refine xg_looks (xc_V E xGT (c_requireRoom l hL D a w cJ cZ β n q (xfill n) hn (by omega)) vw_X_requireRoom (by decide) (wXt.call hP hK hQ) (PX.recv hP hK) rfl hl.1 rfl (Nat.le_of_ble_eq_true rfl) d_X_fill_28) (fun v st t h => h.2.2) (fun v st t h0 hal hrt => ?_) (fun x st t h0 hal hth hz => xr_leave hh hk hal h0 hth.2 (fun t hT => Or.inl ⟨by rw [hsp, if_pos hth.1], hT⟩))
    obtain ⟨hrm, rfl, -⟩ := hrt
    rw [if_neg (Nat.not_lt.mpr hrm)] at hsp
    refine W.eq (g2 := F0 m 31 ls []) rfl ?_
    refine lv_aload_n E.1 E.2.1 d_X_fill_31 rfl (lv_at hl 1 rfl) ?_
    refine lv_lconst (v := 0) E.1 E.2.1 d_X_fill_32 (by decide) ?_
    refine lv_iload_n E.1 E.2.1 d_X_fill_33 rfl (lv_at hl 0 rfl) ?_
    refine xg_goes (xc_V E xGT (c_append l D a w cJ cZ β n q (xfill n) 0 hrm (by omega) hne) vw_X_append (by decide) (wX.call hP hK) (PX.recv hP hK) rfl hl.1 rfl (Nat.le_of_ble_eq_true rfl) d_X_fill_34) hS (fun q _ h => h) (fun q h => h) (fun v st t locs1 h0 hal hrt hS1 hz hkp => ?_) (fun x st t locs1 h0 hal hth => hth.elim)
    obtain ⟨rfl, hP1⟩ := hrt
    refine W.eq (g2 := F0 m 37 ls []) rfl ?_
    generalize t.heap = H1 at hP1 hS1 hz hkp ⊢
    clear hP
    have hP := hP1
    refine lv_aload_n E.1 E.2.1 d_X_fill_37 rfl (lv_at hl 1 rfl) ?_
    refine gx_size E hK hP d_X_fill_38 ?_
    exact xr_iret E hr hk hS1 (fun t ht _ => xRi.mk hsp (nI_l (by omega)) (by rw [ht]; exact hP)) d_X_fill_41
  · skip
    refine lv_aload_n E.1 E.2.1 d_X_fill_0 rfl (lv_at hl 0 rfl) ?_
    refine gx_size E hK hP d_X_fill_1 ?_
    refine lv_if_ne (tgt := 12) E.1 E.2.1 d_X_fill_4 (by decide) (fun h1 => ?_) (fun h1 => ?_)
    · skip
      have h1 : ¬ n = 0 := fun z => h1 (by rw [z]; rfl)
      refine lv_bipush (v := 8) E.1 E.2.1 d_X_fill_12 (by decide) ?_
      refine lv_aload_n E.1 E.2.1 d_X_fill_14 rfl (lv_at hl 0 rfl) ?_
      refine gx_size E hK hP d_X_fill_15 ?_
      refine lv_bipush (v := 8) E.1 E.2.1 d_X_fill_18 (by decide) ?_
      refine lv_irem E.1 E.2.1 d_X_fill_20 (by decide) ?_
      refine xl_ti (y := (nI (n % 8))) (pk_rem (by omega) (by decide) (by decide)) ?_
      refine lv_isub E.1 E.2.1 d_X_fill_21 ?_
      refine xl_ti (y := (nI (8 - n % 8))) (pk_sub (a := 8) (b := n % 8) (by omega)) ?_
      refine lv_bipush (v := 8) E.1 E.2.1 d_X_fill_22 (by decide) ?_
      refine lv_irem E.1 E.2.1 d_X_fill_24 (by decide) ?_
      refine hjn _ ?_
      unfold xfill
      rw [if_neg h1]
      exact pk_rem (by omega) (by decide) (by decide)
    · skip
      have h1 : n = 0 := (nI_eq (b := 0) (by omega) (by decide)).mp h1
      refine lv_bipush (v := 8) E.1 E.2.1 d_X_fill_7 (by decide) ?_
      refine lv_goto (tgt := 25) E.1 E.2.1 d_X_fill_9 (by decide) ?_
      refine hjn _ ?_
      unfold xfill
      rw [if_pos h1]
      rfl
end XL15
end
section
/-! The class: a number written. -/
section XL16
set_option maxHeartbeats 4000000 in
set_option maxRecDepth 100000 in
theorem c_appendNumber (l : Launch) (hL : l.stackTraces = false) (D : va_G) (a w : Nat) (cJ cZ : ClassId) (β : Nat → Bool) (n q : Nat) (hn : n ≤ 65536) (hne : a ≠ w) (kind : Int32) (x : Int64) (hns : ¬ (kind = 2 ∧ (0 ≤ x ∧ x < 64))) : xM l y_X_appendNumber w_X_appendNumber (xrm 5) [.ref a, .int kind, .long x] (wXt D a w cJ cZ β n q) (xA2 a w) (fun v _ t => n + (xt kind + 8 + 8 * nb kind x) ≤ 65536 ∧ v = none ∧ PX D a w cJ (xnum β n kind x) (n + (xt kind + 8 + 8 * nb kind x)) q t.heap) (fun z st t => 65536 < n + (xt kind + 8 + 8 * nb kind x) ∧ xl_T E_IO z st.heap t.heap t.vm) := by
  refine xM.of (by decide) ?_
  intro p e s m args below meth c hav E hr hk hh hnm hwX
  subst hav
  obtain ⟨⟨hP, hK⟩, hQ⟩ := hwX
  have hS : va_S (xA2 a w) s.heap s.heap [] := va_S.rf
  have hb1 := nb_1 kind x
  have hb8 := nb_8 kind x
  have ht1 := xt_1 kind
  have hnw : xnw kind x = xt kind + 8 + 8 * nb kind x := by
    unfold xnw
    rw [if_neg hns]
  have hl8 : xlw (nb kind x) = 8 := by
    unfold xlw
    rw [if_neg (by omega)]
  have hlc : xlc (nb kind x) = nb kind x := by
    unfold xlc
    rw [if_pos (by omega)]
  have hmul : nI (nb kind x) * 8 = nI (8 * nb kind x) := by
    rw [Nat.mul_comm]
    exact pk_mul _ 8
  refine xl_entry _ (Nat.le_of_ble_eq_true rfl) (fun ls hl => ?_)
  have hl : lv_has ls 5 [(0, .ref a), (1, .int kind), (2, .long x)] := hl
  refine lv_iload_n E.1 E.2.1 d_X_appendNumber_0 rfl (lv_at hl 1 rfl) ?_
  refine lv_lload_n E.1 E.2.1 d_X_appendNumber_1 rfl (lv_at hl 2 rfl) ?_
  refine xg_looks (xc_S E xGT (c_bytesToHold l kind x) sw_X_bytesToHold (by decide) xNo rfl hl.1 rfl (Nat.le_of_ble_eq_true rfl) d_X_appendNumber_2) (fun v st t h => h.2) (fun v st t h0 hal hrt => ?_) (fun x st t h0 hal hth hz => hth.elim)
  obtain ⟨rfl, -⟩ := hrt
  refine W.eq (g2 := F0 m 5 ls [.int (nI (nb kind x))]) rfl ?_
  refine lv_istore E.1 E.2.1 d_X_appendNumber_5 hl (by decide) rfl (fun ls hl => ?_)
  have hl : lv_has ls 5 [(4, .int (nI (nb kind x))), (0, .ref a), (1, .int kind), (2, .long x)] := hl
  refine lv_aload_n E.1 E.2.1 d_X_appendNumber_7 rfl (lv_at hl 1 rfl) ?_
  refine lv_iload_n E.1 E.2.1 d_X_appendNumber_8 rfl (lv_at hl 2 rfl) ?_
  refine lv_lload_n E.1 E.2.1 d_X_appendNumber_9 rfl (lv_at hl 3 rfl) ?_
  refine xg_looks (xc_S E xGT (c_numberWidth l kind x) sw_X_numberWidth (by decide) xNo rfl hl.1 rfl (Nat.le_of_ble_eq_true rfl) d_X_appendNumber_10) (fun v st t h => h.2) (fun v st t h0 hal hrt => ?_) (fun x st t h0 hal hth hz => hth.elim)
  obtain ⟨rfl, -⟩ := hrt
  refine W.eq (g2 := F0 m 13 ls [.int (nI (xnw kind x)), .ref a]) rfl ?_
  refine xg_looks (xc_V E xGT (c_requireRoom l hL D a w cJ cZ β n q (xnw kind x) hn (by omega)) vw_X_requireRoom (by decide) (wXt.call hP hK hQ) (PX.recv hP hK) rfl hl.1 rfl (Nat.le_of_ble_eq_true rfl) d_X_appendNumber_13) (fun v st t h => h.2.2) (fun v st t h0 hal hrt => ?_) (fun x st t h0 hal hth hz => xr_leave hh hk hal h0 hth.2 (fun t hT => ⟨by have := hth.1; omega, hT⟩))
  obtain ⟨hrm, rfl, -⟩ := hrt
  rw [hnw] at hrm
  refine W.eq (g2 := F0 m 16 ls []) rfl ?_
  refine lv_aload_n E.1 E.2.1 d_X_appendNumber_16 rfl (lv_at hl 1 rfl) ?_
  refine lv_lconst (v := 1) E.1 E.2.1 d_X_appendNumber_17 (by decide) ?_
  refine lv_iload_n E.1 E.2.1 d_X_appendNumber_18 rfl (lv_at hl 2 rfl) ?_
  refine lv_iconst (v := 2) E.1 E.2.1 d_X_appendNumber_19 (by decide) ?_
  refine xl_join (fun z : Int32 => z = nI (xt kind)) (fun z => F0 m 28 ls [.int z, .long 1, .ref a]) (fun z hz => ?_) (fun hjn => ?_)
  · subst hz
    refine xg_goes (xc_V E xGT (c_append l D a w cJ cZ β n q (xt kind) 1 (by omega) (by omega) hne) vw_X_append (by decide) (wX.call hP hK) (PX.recv hP hK) rfl hl.1 rfl (Nat.le_of_ble_eq_true rfl) d_X_appendNumber_28) hS (fun q _ h => h) (fun q h => h) (fun v st t locs1 h0 hal hrt hS1 hz hkp => ?_) (fun x st t locs1 h0 hal hth => hth.elim)
    obtain ⟨rfl, hP1⟩ := hrt
    refine W.eq (g2 := F0 m 31 ls []) rfl ?_
    generalize t.heap = H1 at hP1 hS1 hz hkp ⊢
    refine lv_aload_n E.1 E.2.1 d_X_appendNumber_31 rfl (lv_at hl 1 rfl) ?_
    refine lv_iload E.1 E.2.1 d_X_appendNumber_32 (lv_at hl 0 rfl) ?_
    refine xg_looks (xc_S E xGT (c_lengthCode l (nb kind x) (by omega)) sw_X_lengthCode (by decide) xNo rfl hl.1 rfl (Nat.le_of_ble_eq_true rfl) d_X_appendNumber_34) (fun v st t h => h.2) (fun v st t h0 hal hrt => ?_) (fun x st t h0 hal hth hz => hth.elim)
    obtain ⟨rfl, -⟩ := hrt
    refine W.eq (g2 := F0 m 37 ls [.int (nI (xlc (nb kind x))), .ref a]) rfl ?_
    refine lv_i2l (v := (nI (xlc (nb kind x))).toInt64) E.1 E.2.1 d_X_appendNumber_37 rfl ?_
    refine xl_tl (y := (lN (nb kind x))) (by rw [hlc]; exact nI_l (by omega)) ?_
    refine lv_iload E.1 E.2.1 d_X_appendNumber_38 (lv_at hl 0 rfl) ?_
    refine xg_looks (xc_S E xGT (c_lengthWidth l (nb kind x) (by omega)) sw_X_lengthWidth (by decide) xNo rfl hl.1 rfl (Nat.le_of_ble_eq_true rfl) d_X_appendNumber_40) (fun v st t h => h.2) (fun v st t h0 hal hrt => ?_) (fun x st t h0 hal hth hz => hth.elim)
    obtain ⟨rfl, -⟩ := hrt
    refine W.eq (g2 := F0 m 43 ls [.int (nI (xlw (nb kind x))), .long (lN (nb kind x)), .ref a]) rfl ?_
    refine xl_ti (y := (nI 8)) (by rw [hl8]) ?_
    refine xg_goes (xc_V E xGT (c_append l D a w cJ cZ (xa β n 1 (xt kind)) (n + xt kind) q 8 (lN (nb kind x)) (by omega) (by decide) hne) vw_X_append (by decide) (wX.call hP1 hK) (PX.recv hP1 hK) rfl hl.1 rfl (Nat.le_of_ble_eq_true rfl) d_X_appendNumber_43) hS1 (fun q _ h => h) (fun q h => h) (fun v st t locs2 h0 hal hrt hS2 hz hkp => ?_) (fun x st t locs1 h0 hal hth => hth.elim)
    obtain ⟨rfl, hP2⟩ := hrt
    refine W.eq (g2 := F0 m 46 ls []) rfl ?_
    generalize t.heap = H2 at hP2 hS2 hz hkp ⊢
    refine lv_aload_n E.1 E.2.1 d_X_appendNumber_46 rfl (lv_at hl 1 rfl) ?_
    refine lv_lload_n E.1 E.2.1 d_X_appendNumber_47 rfl (lv_at hl 3 rfl) ?_
    refine lv_iload E.1 E.2.1 d_X_appendNumber_48 (lv_at hl 0 rfl) ?_
    refine lv_bipush (v := 8) E.1 E.2.1 d_X_appendNumber_50 (by decide) ?_
    refine lv_imul E.1 E.2.1 d_X_appendNumber_52 ?_
    refine xl_ti (y := (nI (8 * nb kind x))) (hmul) ?_
    refine xg_goes (xc_V E xGT (c_append l D a w cJ cZ (xa (xa β n 1 (xt kind)) (n + xt kind) (lN (nb kind x)) 8) (n + xt kind + 8) q (8 * nb kind x) x (by omega) (by omega) hne) vw_X_append (by decide) (wX.call hP2 hK) (PX.recv hP2 hK) rfl hl.1 rfl (Nat.le_of_ble_eq_true rfl) d_X_appendNumber_53) hS2 (fun q _ h => h) (fun q h => h) (fun v st t locs3 h0 hal hrt hS3 hz hkp => ?_) (fun x st t locs1 h0 hal hth => hth.elim)
    obtain ⟨rfl, hP3⟩ := hrt
    refine W.eq (g2 := F0 m 56 ls []) rfl ?_
    generalize t.heap = H3 at hP3 hS3 hz hkp ⊢
    rw [show n + xt kind + 8 + 8 * nb kind x = n + (xt kind + 8 + 8 * nb kind x) by omega] at hP3
    exact xr_vret E hr hk hS3 (fun t ht _ => ⟨hrm, rfl, by rw [ht]; exact hP3⟩) d_X_appendNumber_56
  · skip
    refine lv_icmp_ne (tgt := 27) E.1 E.2.1 d_X_appendNumber_20 (by decide) (fun h1 => ?_) (fun h1 => ?_)
    · skip
      refine lv_iconst (v := 0) E.1 E.2.1 d_X_appendNumber_27 (by decide) ?_
      exact hjn _ (by unfold xt; rw [if_neg h1]; rfl)
    · skip
      refine lv_iconst (v := 1) E.1 E.2.1 d_X_appendNumber_23 (by decide) ?_
      refine lv_goto (tgt := 28) E.1 E.2.1 d_X_appendNumber_24 (by decide) ?_
      exact hjn _ (by unfold xt; rw [if_pos h1]; rfl)
set_option maxHeartbeats 4000000 in
set_option maxRecDepth 100000 in
theorem c_putNumber (l : Launch) (hL : l.stackTraces = false) (D : va_G) (a w : Nat) (cJ cZ : ClassId) (β : Nat → Bool) (n q : Nat) (hn : n ≤ 65536) (hne : a ≠ w) (kind : Int32) (x : Int64) : xM l y_X_putNumber w_X_putNumber (xrm 6) [.ref a, .int kind, .long x] (wXt D a w cJ cZ β n q) (xA2 a w) (xRi (sp_putNumber (β, n, q) kind x) D a w cJ) (xTh (sp_putNumber (β, n, q) kind x) E_IA E_IO) := by
  refine xM.of (by decide) ?_
  intro p e s m args below meth c hav E hr hk hh hnm hwX
  subst hav
  obtain ⟨⟨hP, hK⟩, hQ⟩ := hwX
  have hS : va_S (xA2 a w) s.heap s.heap [] := va_S.rf
  have hb8 := nb_8 kind x
  have ht1 := xt_1 kind
  refine xl_entry _ (Nat.le_of_ble_eq_true rfl) (fun ls hl => ?_)
  have hl : lv_has ls 4 [(0, .ref a), (1, .int kind), (2, .long x)] := hl
  refine lv_iload_n E.1 E.2.1 d_X_putNumber_0 rfl (lv_at hl 1 rfl) ?_
  refine xg_looks (xc_S E xGT (c_requireKind l hL kind) sw_X_requireKind (by decide) (xQc hQ) rfl hl.1 rfl (Nat.le_of_ble_eq_true rfl) d_X_putNumber_1) (fun v st t h => h.2.2) (fun v st t h0 hal hrt => ?_) (fun x st t h0 hal hth hz => xr_leave hh hk hal h0 hth.2 (fun t hT => Or.inl ⟨by unfold sp_putNumber; rw [if_pos hth.1], hT⟩))
  obtain ⟨hkk, rfl, -⟩ := hrt
  refine W.eq (g2 := F0 m 4 ls []) rfl ?_
  refine xl_join (fun _ : Unit => ¬ (kind = 2 ∧ (0 ≤ x ∧ x < 64))) (fun _ => F0 m 32 ls []) (fun _ hns => ?_) (fun hjn => ?_)
  · skip
    have hsp : sp_putNumber (β, n, q) kind x = if 65536 < n + (xt kind + 8 + 8 * nb kind x) then (2, 0, (β, n, q)) else (0, lN (n + (xt kind + 8 + 8 * nb kind x)), (xnum β n kind x, n + (xt kind + 8 + 8 * nb kind x), q)) := by
      unfold sp_putNumber
      rw [if_neg hkk, if_neg hns]
    refine lv_aload_n E.1 E.2.1 d_X_putNumber_32 rfl (lv_at hl 0 rfl) ?_
    refine lv_iload_n E.1 E.2.1 d_X_putNumber_33 rfl (lv_at hl 1 rfl) ?_
    refine lv_lload_n E.1 E.2.1 d_X_putNumber_34 rfl (lv_at hl 2 rfl) ?_
    refine xg_goes (xc_V E xGT (c_appendNumber l hL D a w cJ cZ β n q hn hne kind x hns) vw_X_appendNumber (by decide) (wXt.call hP hK hQ) (PX.recv hP hK) rfl hl.1 rfl (Nat.le_of_ble_eq_true rfl) d_X_putNumber_35) hS (fun q _ h => h) (fun q h => h) (fun v st t locs1 h0 hal hrt hS1 hz hkp => ?_) (fun x st t locs1 h0 hal hth hS1 hz hkp => ?_)
    · obtain ⟨hrm, rfl, hP1⟩ := hrt
      rw [if_neg (Nat.not_lt.mpr hrm)] at hsp
      refine W.eq (g2 := F0 m 38 ls []) rfl ?_
      generalize t.heap = H1 at hP1 hS1 hz hkp ⊢
      clear hP
      have hP := hP1
      refine lv_aload_n E.1 E.2.1 d_X_putNumber_38 rfl (lv_at hl 0 rfl) ?_
      refine gx_size E hK hP d_X_putNumber_39 ?_
      exact xr_iret E hr hk hS1 (fun t ht _ => xRi.mk hsp (nI_l (by omega)) (by rw [ht]; exact hP)) d_X_putNumber_42
    · rw [if_pos hth.1] at hsp
      exact xr_leaveW hh hk hal h0 hth.2 hS1 (fun t hT => Or.inr ⟨by rw [hsp], hT⟩)
  · skip
    refine lv_iload_n E.1 E.2.1 d_X_putNumber_4 rfl (lv_at hl 1 rfl) ?_
    refine lv_iconst (v := 2) E.1 E.2.1 d_X_putNumber_5 (by decide) ?_
    refine lv_icmp_ne (tgt := 32) E.1 E.2.1 d_X_putNumber_6 (by decide) (fun h1 => ?_) (fun h1 => ?_)
    · skip
      exact hjn () (fun z => h1 z.1)
    · skip
      refine lv_lload_n E.1 E.2.1 d_X_putNumber_9 rfl (lv_at hl 2 rfl) ?_
      refine xg_looks (xc_S E xGT (c_isSmall l x) sw_X_isSmall (by decide) xNo rfl hl.1 rfl (Nat.le_of_ble_eq_true rfl) d_X_putNumber_10) (fun v st t h => h.2) (fun v st t h0 hal hrt => ?_) (fun x st t h0 hal hth hz => hth.elim)
      obtain ⟨rfl, -⟩ := hrt
      refine W.eq (g2 := F0 m 13 ls [.int (if 0 ≤ x ∧ x < 64 then 1 else 0)]) rfl ?_
      refine lv_if_eq (tgt := 32) E.1 E.2.1 d_X_putNumber_13 (by decide) (fun h2 => ?_) (fun h2 => ?_)
      · skip
        refine hjn () (fun z => ?_)
        rw [if_pos z.2] at h2
        exact absurd h2 (by decide)
      · skip
        have h3 : 0 ≤ x ∧ x < 64 := Classical.byContradiction fun z => h2 (by rw [if_neg z])
        have hsp : sp_putNumber (β, n, q) kind x = if 65536 < n + 7 then (2, 0, (β, n, q)) else (0, lN (n + 7), (xa β n x 7, n + 7, q)) := by
          unfold sp_putNumber
          rw [if_neg hkk, if_pos ⟨h1, h3⟩]
          rfl
        refine lv_aload_n E.1 E.2.1 d_X_putNumber_16 rfl (lv_at hl 0 rfl) ?_
        refine lv_bipush (v := 7) E.1 E.2.1 d_X_putNumber_17 (by decide) ?_
        refine xg_looks (xc_V E xGT (c_requireRoom l hL D a w cJ cZ β n q 7 hn (by decide)) vw_X_requireRoom (by decide) (wXt.call hP hK hQ) (PX.recv hP hK) rfl hl.1 rfl (Nat.le_of_ble_eq_true rfl) d_X_putNumber_19) (fun v st t h => h.2.2) (fun v st t h0 hal hrt => ?_) (fun x st t h0 hal hth hz => xr_leave hh hk hal h0 hth.2 (fun t hT => Or.inr ⟨by rw [hsp, if_pos hth.1], hT⟩))
        obtain ⟨hrm, rfl, -⟩ := hrt
        rw [if_neg (Nat.not_lt.mpr hrm)] at hsp
        refine W.eq (g2 := F0 m 22 ls []) rfl ?_
        refine lv_aload_n E.1 E.2.1 d_X_putNumber_22 rfl (lv_at hl 0 rfl) ?_
        refine lv_lload_n E.1 E.2.1 d_X_putNumber_23 rfl (lv_at hl 2 rfl) ?_
        refine lv_bipush (v := 7) E.1 E.2.1 d_X_putNumber_24 (by decide) ?_
        refine xg_goes (xc_V E xGT (c_append l D a w cJ cZ β n q 7 x hrm (by decide) hne) vw_X_append (by decide) (wX.call hP hK) (PX.recv hP hK) rfl hl.1 rfl (Nat.le_of_ble_eq_true rfl) d_X_putNumber_26) hS (fun q _ h => h) (fun q h => h) (fun v st t locs1 h0 hal hrt hS1 hz hkp => ?_) (fun x st t locs1 h0 hal hth => hth.elim)
        obtain ⟨rfl, hP1⟩ := hrt
        refine W.eq (g2 := F0 m 29 ls []) rfl ?_
        generalize t.heap = H1 at hP1 hS1 hz hkp ⊢
        clear hP
        have hP := hP1
        refine lv_goto (tgt := 38) E.1 E.2.1 d_X_putNumber_29 (by decide) ?_
        refine lv_aload_n E.1 E.2.1 d_X_putNumber_38 rfl (lv_at hl 0 rfl) ?_
        refine gx_size E hK hP d_X_putNumber_39 ?_
        exact xr_iret E hr hk hS1 (fun t ht _ => xRi.mk hsp (nI_l (by omega)) (by rw [ht]; exact hP)) d_X_putNumber_42
end XL16
end
section
/-! The class: the calls that read, and those that move. -/
section XL17
set_option maxHeartbeats 4000000 in
set_option maxRecDepth 100000 in
theorem c_take (l : Launch) (hL : l.stackTraces = false) (D : va_G) (a w : Nat) (cJ cZ : ClassId) (β : Nat → Bool) (n q : Nat) (hn : n ≤ 65536) (hq : q ≤ n) (hne : a ≠ w) (k : Int32) : xM l y_X_take w_X_take (xrm 6) [.ref a, .int k] (wXt D a w cJ cZ β n q) (xA2 a w) (xRl (sp_take (β, n, q) k) D a w cJ) (xTh (sp_take (β, n, q) k) E_IA E_UO) := by
  refine xM.of (by decide) ?_
  intro p e s m args below meth c hav E hr hk hh hnm hwX
  subst hav
  obtain ⟨⟨hP, hK⟩, hQ⟩ := hwX
  have hS : va_S (xA2 a w) s.heap s.heap [] := va_S.rf
  refine xl_entry _ (Nat.le_of_ble_eq_true rfl) (fun ls hl => ?_)
  have hl : lv_has ls 4 [(0, .ref a), (1, .int k)] := hl
  refine lv_iload_n E.1 E.2.1 d_X_take_0 rfl (lv_at hl 1 rfl) ?_
  refine xg_looks (xc_S E xGT (c_requireWidth l hL k) sw_X_requireWidth (by decide) (xQc hQ) rfl hl.1 rfl (Nat.le_of_ble_eq_true rfl) d_X_take_1) (fun v st t h => h.2.2) (fun v st t h0 hal hrt => ?_) (fun x st t h0 hal hth hz => xr_leave hh hk hal h0 hth.2 (fun t hT => Or.inl ⟨by unfold sp_take; rw [if_pos hth.1], hT⟩))
  obtain ⟨hkk, rfl, -⟩ := hrt
  obtain ⟨j, hj, hkj⟩ := nI_of (fun z => hkk (Or.inl z))
  have hj64 : j ≤ 64 := by
    refine Nat.not_lt.mp (fun z => hkk (Or.inr ?_))
    rw [hkj]
    exact (nI_ltI (a := 64) (by decide) hj).mpr z
  have hcl := xcl64 hkj hj
  have hsp : sp_take (β, n, q) k = if n < q + j then (2, 0, (β, n, q)) else (0, lN (xv β q j), (β, n, q + j)) := by
    unfold sp_take
    rw [if_neg hkk, hcl]
  refine W.eq (g2 := F0 m 4 ls []) rfl ?_
  refine lv_aload_n E.1 E.2.1 d_X_take_4 rfl (lv_at hl 0 rfl) ?_
  refine lv_aload_n E.1 E.2.1 d_X_take_5 rfl (lv_at hl 0 rfl) ?_
  refine gx_place E hK hP d_X_take_6 ?_
  refine lv_iload_n E.1 E.2.1 d_X_take_9 rfl (lv_at hl 1 rfl) ?_
  refine xl_ti (y := (nI j)) (hkj) ?_
  refine xg_looks (xc_V E xGT (c_bitsAt l hL D a w cJ cZ β n q q j hn hq hj64) vw_X_bitsAt (by decide) (wXt.call hP hK hQ) (PX.recv hP hK) rfl hl.1 rfl (Nat.le_of_ble_eq_true rfl) d_X_take_10) (fun v st t h => h.2.2) (fun v st t h0 hal hrt => ?_) (fun x st t h0 hal hth hz => xr_leave hh hk hal h0 hth.2 (fun t hT => Or.inr ⟨by rw [hsp, if_pos hth.1], hT⟩))
  obtain ⟨h1, rfl, -⟩ := hrt
  rw [if_neg (Nat.not_lt.mpr h1)] at hsp
  refine W.eq (g2 := F0 m 13 ls [.long (lN (xv β q j))]) rfl ?_
  refine lv_lstore_n E.1 E.2.1 d_X_take_13 rfl hl (by decide) rfl (fun ls hl => ?_)
  have hl : lv_has ls 4 [(2, .long (lN (xv β q j))), (0, .ref a), (1, .int k)] := hl
  refine lv_aload_n E.1 E.2.1 d_X_take_14 rfl (lv_at hl 1 rfl) ?_
  refine lv_dup E.1 E.2.1 d_X_take_15 rfl ?_
  refine gx_place E hK hP d_X_take_16 ?_
  refine lv_iload_n E.1 E.2.1 d_X_take_19 rfl (lv_at hl 2 rfl) ?_
  refine lv_iadd E.1 E.2.1 d_X_take_20 ?_
  refine xl_ti (y := (nI (q + j))) (by rw [hkj]; exact nI_add q j) ?_
  refine sx_place E hK hP hne hS d_X_take_21 (fun H1 locs1 hP1 hS1 => ?_)
  refine lv_lload_n E.1 E.2.1 d_X_take_24 rfl (lv_at hl 0 rfl) ?_
  exact xr_lret E hr hk hS1 (fun t ht _ => xRl.mk hsp (by rw [ht]; exact hP1)) d_X_take_25
set_option maxHeartbeats 4000000 in
set_option maxRecDepth 100000 in
theorem c_takeLength (l : Launch) (hL : l.stackTraces = false) (D : va_G) (a w : Nat) (cJ cZ : ClassId) (β : Nat → Bool) (n q : Nat) (hn : n ≤ 65536) (hq : q ≤ n) (hne : a ≠ w) : xM l y_X_takeLength w_X_takeLength (xrm 6) [.ref a] (wXt D a w cJ cZ β n q) (xA2 a w) (xRi (sp_takeLength (β, n, q)) D a w cJ) (xTh (sp_takeLength (β, n, q)) E_UO E_UO) := by
  refine xM.of (by decide) ?_
  intro p e s m args below meth c hav E hr hk hh hnm hwX
  subst hav
  obtain ⟨⟨hP, hK⟩, hQ⟩ := hwX
  have hS : va_S (xA2 a w) s.heap s.heap [] := va_S.rf
  refine xl_entry _ (Nat.le_of_ble_eq_true rfl) (fun ls hl => ?_)
  have hl : lv_has ls 2 [(0, .ref a)] := hl
  refine lv_aload_n E.1 E.2.1 d_X_takeLength_0 rfl (lv_at hl 0 rfl) ?_
  refine lv_aload_n E.1 E.2.1 d_X_takeLength_1 rfl (lv_at hl 0 rfl) ?_
  refine gx_place E hK hP d_X_takeLength_2 ?_
  refine xg_looks (xc_V E xGT (c_lengthAt l hL D a w cJ cZ β n q q hn hq) vw_X_lengthAt (by decide) (wXt.call hP hK hQ) (PX.recv hP hK) rfl hl.1 rfl (Nat.le_of_ble_eq_true rfl) d_X_takeLength_5) (fun v st t h => h.2) (fun v st t h0 hal hrt => ?_) (fun x st t h0 hal hth hz => xr_leave hh hk hal h0 hth.2 (fun t hT => Or.inl ⟨by unfold sp_takeLength; rw [hth.1], hT⟩))
  obtain ⟨⟨b, wd, hlen, rfl⟩, -⟩ := hrt
  obtain ⟨hb, hwd, huw⟩ := xlen_ok hlen
  have hsp : sp_takeLength (β, n, q) = (0, lN b, (β, n, q + wd)) := by
    unfold sp_takeLength
    rw [hlen]
  refine W.eq (g2 := F0 m 8 ls [.int (nI b)]) rfl ?_
  refine lv_istore_n E.1 E.2.1 d_X_takeLength_8 rfl hl (by decide) rfl (fun ls hl => ?_)
  have hl : lv_has ls 2 [(1, .int (nI b)), (0, .ref a)] := hl
  refine lv_aload_n E.1 E.2.1 d_X_takeLength_9 rfl (lv_at hl 1 rfl) ?_
  refine lv_dup E.1 E.2.1 d_X_takeLength_10 rfl ?_
  refine gx_place E hK hP d_X_takeLength_11 ?_
  refine lv_iload_n E.1 E.2.1 d_X_takeLength_14 rfl (lv_at hl 0 rfl) ?_
  refine xg_looks (xc_S E xGT (c_lengthWidth l b (by omega)) sw_X_lengthWidth (by decide) xNo rfl hl.1 rfl (Nat.le_of_ble_eq_true rfl) d_X_takeLength_15) (fun v st t h => h.2) (fun v st t h0 hal hrt => ?_) (fun x st t h0 hal hth hz => hth.elim)
  obtain ⟨rfl, -⟩ := hrt
  refine W.eq (g2 := F0 m 18 ls [.int (nI (xlw b)), .int (nI q), .ref a]) rfl ?_
  refine lv_iadd E.1 E.2.1 d_X_takeLength_18 ?_
  refine xl_ti (y := (nI (q + wd))) (by rw [hwd]; exact nI_add _ _) ?_
  refine sx_place E hK hP hne hS d_X_takeLength_19 (fun H1 locs1 hP1 hS1 => ?_)
  refine lv_iload_n E.1 E.2.1 d_X_takeLength_22 rfl (lv_at hl 0 rfl) ?_
  exact xr_iret E hr hk hS1 (fun t ht _ => xRi.mk hsp (nI_l (by omega)) (by rw [ht]; exact hP1)) d_X_takeLength_23
/-- how wide a SMALL number is that was read -/
theorem xsmallAt_w {β : Nat → Bool} {n u wd : Nat} {z : Int64} (h : xsmallAt β n u = some (z, wd)) : wd = xnw 2 z ∧ u + wd ≤ n := by
  have a3 := xv_lt β (u + 1) 6
  unfold xsmallAt at h
  split at h
  · cases h
  · split at h
    · split at h
      · cases h
      · cases h
        refine ⟨?_, by omega⟩
        unfold xnw
        rw [if_pos]
        refine ⟨rfl, ?_⟩
        rw [Int64.le_iff_toInt_le, Int64.lt_iff_toInt_lt, lN_toInt (by omega), Int64.toInt_zero]
        have e : (64 : Int64).toInt = 64 := by decide
        rw [e]
        omega
    · cases hx : xnumAt β n 0 (u + 1) with
      | none =>
        rw [hx] at h
        cases h
      | some r =>
        obtain ⟨v, w0⟩ := r
        rw [hx] at h
        obtain ⟨h1, h2⟩ := xnumAt_w hx
        have h : (if 0 ≤ v ∧ v < 64 then none else some (v, w0 + 1)) = some (z, wd) := h
        split at h
        · cases h
        · rename_i g
          cases h
          unfold xnw
          rw [if_neg (fun q => g q.2)]
          have e1 : xt 2 = 1 := by decide
          have e2 : nb 2 z = nb 0 z := by
            unfold nb
            rw [if_neg (by decide), if_neg (by decide)]
          rw [e1, e2]
          omega
theorem xnw_n {kind : Int32} {z : Int64} (h : ¬ kind = 2) : xnw kind z = 8 + 8 * nb kind z := by
  unfold xnw xt
  rw [if_neg (fun q => h q.1), if_neg h, Nat.zero_add]
set_option maxHeartbeats 4000000 in
set_option maxRecDepth 100000 in
theorem c_takeNumber (l : Launch) (hL : l.stackTraces = false) (D : va_G) (a w : Nat) (cJ cZ : ClassId) (β : Nat → Bool) (n q : Nat) (hn : n ≤ 65536) (hq : q ≤ n) (hne : a ≠ w) (kind : Int32) : xM l y_X_takeNumber w_X_takeNumber (xrm 6) [.ref a, .int kind] (wXt D a w cJ cZ β n q) (xA2 a w) (xRl (sp_takeNumber (β, n, q) kind) D a w cJ) (xTh (sp_takeNumber (β, n, q) kind) E_IA E_UO) := by
  refine xM.of (by decide) ?_
  intro p e s m args below meth c hav E hr hk hh hnm hwX
  subst hav
  obtain ⟨⟨hP, hK⟩, hQ⟩ := hwX
  have hS : va_S (xA2 a w) s.heap s.heap [] := va_S.rf
  refine xl_entry _ (Nat.le_of_ble_eq_true rfl) (fun ls hl => ?_)
  have hl : lv_has ls 4 [(0, .ref a), (1, .int kind)] := hl
  refine lv_iload_n E.1 E.2.1 d_X_takeNumber_0 rfl (lv_at hl 1 rfl) ?_
  refine xg_looks (xc_S E xGT (c_requireKind l hL kind) sw_X_requireKind (by decide) (xQc hQ) rfl hl.1 rfl (Nat.le_of_ble_eq_true rfl) d_X_takeNumber_1) (fun v st t h => h.2.2) (fun v st t h0 hal hrt => ?_) (fun x st t h0 hal hth hz => xr_leave hh hk hal h0 hth.2 (fun t hT => Or.inl ⟨by unfold sp_takeNumber; rw [if_pos hth.1], hT⟩))
  obtain ⟨hkk, rfl, -⟩ := hrt
  refine W.eq (g2 := F0 m 4 ls []) rfl ?_
  refine xl_join (fun z : Int64 => ∃ wd, sp_takeNumber (β, n, q) kind = (0, z, (β, n, q + wd)) ∧ wd = xnw kind z ∧ q + wd ≤ n) (fun z => F0 m 29 ls [.long z]) (fun z hz => ?_) (fun hjn => ?_)
  · obtain ⟨wd, hsp, hwd, hqw⟩ := hz
    refine lv_lstore_n E.1 E.2.1 d_X_takeNumber_29 rfl hl (by decide) rfl (fun ls hl => ?_)
    have hl : lv_has ls 4 [(2, .long z), (0, .ref a), (1, .int kind)] := hl
    refine lv_aload_n E.1 E.2.1 d_X_takeNumber_30 rfl (lv_at hl 1 rfl) ?_
    refine lv_dup E.1 E.2.1 d_X_takeNumber_31 rfl ?_
    refine gx_place E hK hP d_X_takeNumber_32 ?_
    refine lv_iload_n E.1 E.2.1 d_X_takeNumber_35 rfl (lv_at hl 2 rfl) ?_
    refine lv_lload_n E.1 E.2.1 d_X_takeNumber_36 rfl (lv_at hl 0 rfl) ?_
    refine xg_looks (xc_S E xGT (c_numberWidth l kind z) sw_X_numberWidth (by decide) xNo rfl hl.1 rfl (Nat.le_of_ble_eq_true rfl) d_X_takeNumber_37) (fun v st t h => h.2) (fun v st t h0 hal hrt => ?_) (fun x st t h0 hal hth hz => hth.elim)
    obtain ⟨rfl, -⟩ := hrt
    refine W.eq (g2 := F0 m 40 ls [.int (nI (xnw kind z)), .int (nI q), .ref a]) rfl ?_
    refine lv_iadd E.1 E.2.1 d_X_takeNumber_40 ?_
    refine xl_ti (y := (nI (q + wd))) (by rw [hwd]; exact nI_add _ _) ?_
    refine sx_place E hK hP hne hS d_X_takeNumber_41 (fun H1 locs1 hP1 hS1 => ?_)
    refine lv_lload_n E.1 E.2.1 d_X_takeNumber_44 rfl (lv_at hl 0 rfl) ?_
    exact xr_lret E hr hk hS1 (fun t ht _ => xRl.mk hsp (by rw [ht]; exact hP1)) d_X_takeNumber_45
  · skip
    refine lv_iload_n E.1 E.2.1 d_X_takeNumber_4 rfl (lv_at hl 1 rfl) ?_
    refine lv_iconst (v := 2) E.1 E.2.1 d_X_takeNumber_5 (by decide) ?_
    refine lv_icmp_ne (tgt := 20) E.1 E.2.1 d_X_takeNumber_6 (by decide) (fun h1 => ?_) (fun h1 => ?_)
    · skip
      refine lv_aload_n E.1 E.2.1 d_X_takeNumber_20 rfl (lv_at hl 0 rfl) ?_
      refine lv_iload_n E.1 E.2.1 d_X_takeNumber_21 rfl (lv_at hl 1 rfl) ?_
      refine lv_aload_n E.1 E.2.1 d_X_takeNumber_22 rfl (lv_at hl 0 rfl) ?_
      refine gx_place E hK hP d_X_takeNumber_23 ?_
      refine xg_looks (xc_V E xGT (c_numberAt l hL D a w cJ cZ β n q q kind hn hq) vw_X_numberAt (by decide) (wXt.call hP hK hQ) (PX.recv hP hK) rfl hl.1 rfl (Nat.le_of_ble_eq_true rfl) d_X_takeNumber_26) (fun v st t h => h.2) (fun v st t h0 hal hrt => ?_) (fun x st t h0 hal hth hz => xr_leave hh hk hal h0 hth.2 (fun t hT => Or.inr ⟨by unfold sp_takeNumber; rw [if_neg hkk, if_neg h1, hth.1], hT⟩))
      obtain ⟨⟨z, wd, hz, rfl⟩, -⟩ := hrt
      obtain ⟨g1, g2⟩ := xnumAt_w hz
      refine W.eq (g2 := F0 m 29 ls [.long z]) rfl ?_
      exact hjn _ ⟨wd, by unfold sp_takeNumber; rw [if_neg hkk, if_neg h1, hz], by rw [xnw_n h1]; exact g1, g2⟩
    · skip
      refine lv_aload_n E.1 E.2.1 d_X_takeNumber_9 rfl (lv_at hl 0 rfl) ?_
      refine lv_aload_n E.1 E.2.1 d_X_takeNumber_10 rfl (lv_at hl 0 rfl) ?_
      refine gx_place E hK hP d_X_takeNumber_11 ?_
      refine xg_looks (xc_V E xGT (c_smallAt l hL D a w cJ cZ β n q q hn hq) vw_X_smallAt (by decide) (wXt.call hP hK hQ) (PX.recv hP hK) rfl hl.1 rfl (Nat.le_of_ble_eq_true rfl) d_X_takeNumber_14) (fun v st t h => h.2) (fun v st t h0 hal hrt => ?_) (fun x st t h0 hal hth hz => xr_leave hh hk hal h0 hth.2 (fun t hT => Or.inr ⟨by unfold sp_takeNumber; rw [if_neg hkk, if_pos h1, hth.1], hT⟩))
      obtain ⟨⟨z, wd, hz, rfl⟩, -⟩ := hrt
      obtain ⟨g1, g2⟩ := xsmallAt_w hz
      refine W.eq (g2 := F0 m 17 ls [.long z]) rfl ?_
      refine lv_goto (tgt := 29) E.1 E.2.1 d_X_takeNumber_17 (by decide) ?_
      exact hjn _ ⟨wd, by unfold sp_takeNumber; rw [if_neg hkk, if_pos h1, hz], by rw [h1]; exact g1, g2⟩
set_option maxHeartbeats 4000000 in
set_option maxRecDepth 100000 in
theorem c_takeRange (l : Launch) (hL : l.stackTraces = false) (D : va_G) (a w : Nat) (cJ cZ : ClassId) (β : Nat → Bool) (n q : Nat) (hn : n ≤ 65536) (hq : q ≤ n) (hne : a ≠ w) (lo hi : Int64) : xM l y_X_takeRange w_X_takeRange (xrm 6) [.ref a, .long lo, .long hi] (wXt D a w cJ cZ β n q) (xA2 a w) (xRl (sp_takeRange (β, n, q) lo hi) D a w cJ) (xTh (sp_takeRange (β, n, q) lo hi) E_IA E_UO) := by
  refine xM.of (by decide) ?_
  intro p e s m args below meth c hav E hr hk hh hnm hwX
  subst hav
  obtain ⟨⟨hP, hK⟩, hQ⟩ := hwX
  have hS : va_S (xA2 a w) s.heap s.heap [] := va_S.rf
  have hb := nbl_64 (hi - lo)
  refine xl_entry _ (Nat.le_of_ble_eq_true rfl) (fun ls hl => ?_)
  have hl : lv_has ls 8 [(0, .ref a), (1, .long lo), (3, .long hi)] := hl
  refine lv_lload_n E.1 E.2.1 d_X_takeRange_0 rfl (lv_at hl 1 rfl) ?_
  refine lv_lload_n E.1 E.2.1 d_X_takeRange_1 rfl (lv_at hl 2 rfl) ?_
  refine xl_lc_le (tgt := 16) E.1 E.2.1 d_X_takeRange_2 d_X_takeRange_3 (by decide) (fun h1 => ?_) (fun h1 => ?_)
  · skip
    have h2 : ¬ hi < lo := by
      intro z
      rw [Int64.lt_iff_toInt_lt] at z
      rw [Int64.le_iff_toInt_le] at h1
      omega
    generalize hM : uN (hi - lo) = M at hb
    have hsp : sp_takeRange (β, n, q) lo hi = if n < q + nbl M ∨ M < xv β q (nbl M) then (2, 0, (β, n, q)) else (0, lo + lN (xv β q (nbl M)), (β, n, q + nbl M)) := by
      unfold sp_takeRange
      rw [if_neg h2, hM]
    refine lv_lload_n E.1 E.2.1 d_X_takeRange_16 rfl (lv_at hl 2 rfl) ?_
    refine lv_lload_n E.1 E.2.1 d_X_takeRange_17 rfl (lv_at hl 1 rfl) ?_
    refine lv_lsub E.1 E.2.1 d_X_takeRange_18 ?_
    refine xg_looks (xc_S E xGT (c_bitsToHold l (hi - lo)) sw_X_bitsToHold (by decide) xNo rfl hl.1 rfl (Nat.le_of_ble_eq_true rfl) d_X_takeRange_19) (fun v st t h => h.2) (fun v st t h0 hal hrt => ?_) (fun x st t h0 hal hth hz => hth.elim)
    obtain ⟨rfl, -⟩ := hrt
    rw [hM]
    refine W.eq (g2 := F0 m 22 ls [.int (nI (nbl M))]) rfl ?_
    refine lv_istore E.1 E.2.1 d_X_takeRange_22 hl (by decide) rfl (fun ls hl => ?_)
    have hl : lv_has ls 8 [(5, .int (nI (nbl M))), (0, .ref a), (1, .long lo), (3, .long hi)] := hl
    refine lv_aload_n E.1 E.2.1 d_X_takeRange_24 rfl (lv_at hl 1 rfl) ?_
    refine lv_aload_n E.1 E.2.1 d_X_takeRange_25 rfl (lv_at hl 1 rfl) ?_
    refine gx_place E hK hP d_X_takeRange_26 ?_
    refine lv_iload E.1 E.2.1 d_X_takeRange_29 (lv_at hl 0 rfl) ?_
    refine xg_looks (xc_V E xGT (c_bitsAt l hL D a w cJ cZ β n q q (nbl M) hn hq hb) vw_X_bitsAt (by decide) (wXt.call hP hK hQ) (PX.recv hP hK) rfl hl.1 rfl (Nat.le_of_ble_eq_true rfl) d_X_takeRange_31) (fun v st t h => h.2.2) (fun v st t h0 hal hrt => ?_) (fun x st t h0 hal hth hz => xr_leave hh hk hal h0 hth.2 (fun t hT => Or.inr ⟨by rw [hsp, if_pos (Or.inl hth.1)], hT⟩))
    obtain ⟨h3, rfl, -⟩ := hrt
    have hv := xv_lt β q (nbl M)
    have hv64 : xv β q (nbl M) < 2 ^ 64 := Nat.lt_of_lt_of_le hv (Nat.pow_le_pow_right (by decide) hb)
    refine W.eq (g2 := F0 m 34 ls [.long (lN (xv β q (nbl M)))]) rfl ?_
    refine lv_lstore E.1 E.2.1 d_X_takeRange_34 hl (by decide) rfl (fun ls hl => ?_)
    have hl : lv_has ls 8 [(6, .long (lN (xv β q (nbl M)))), (5, .int (nI (nbl M))), (0, .ref a), (1, .long lo), (3, .long hi)] := hl
    refine lv_lload E.1 E.2.1 d_X_takeRange_36 (lv_at hl 0 rfl) ?_
    refine lv_lload_n E.1 E.2.1 d_X_takeRange_38 rfl (lv_at hl 4 rfl) ?_
    refine lv_lload_n E.1 E.2.1 d_X_takeRange_39 rfl (lv_at hl 3 rfl) ?_
    refine lv_lsub E.1 E.2.1 d_X_takeRange_40 ?_
    refine xg_looks (xc_S E xGT (c_compareUnsigned l (lN (xv β q (nbl M))) (hi - lo)) sw_X_J_compareUnsigned (by decide) xNo rfl hl.1 rfl (Nat.le_of_ble_eq_true rfl) d_X_takeRange_41) (fun v st t h => h.2) (fun v st t h0 hal hrt => ?_) (fun x st t h0 hal hth hz => hth.elim)
    obtain ⟨⟨z, rfl, hz⟩, -⟩ := hrt
    rw [hM, uN_lN hv64] at hz
    refine W.eq (g2 := F0 m 44 ls [.int z]) rfl ?_
    refine lv_if_le (tgt := 57) E.1 E.2.1 d_X_takeRange_44 (by decide) (fun h4 => ?_) (fun h4 => ?_)
    · skip
      have h5 : ¬ M < xv β q (nbl M) := fun g => xi_nlt.mpr h4 (hz.mpr g)
      rw [if_neg (by omega)] at hsp
      refine lv_aload_n E.1 E.2.1 d_X_takeRange_57 rfl (lv_at hl 2 rfl) ?_
      refine lv_dup E.1 E.2.1 d_X_takeRange_58 rfl ?_
      refine gx_place E hK hP d_X_takeRange_59 ?_
      refine lv_iload E.1 E.2.1 d_X_takeRange_62 (lv_at hl 1 rfl) ?_
      refine lv_iadd E.1 E.2.1 d_X_takeRange_64 ?_
      refine xl_ti (y := (nI (q + nbl M))) (nI_add _ _) ?_
      refine sx_place E hK hP hne hS d_X_takeRange_65 (fun H1 locs1 hP1 hS1 => ?_)
      refine lv_lload_n E.1 E.2.1 d_X_takeRange_68 rfl (lv_at hl 3 rfl) ?_
      refine lv_lload E.1 E.2.1 d_X_takeRange_69 (lv_at hl 0 rfl) ?_
      refine lv_ladd E.1 E.2.1 d_X_takeRange_71 ?_
      exact xr_lret E hr hk hS1 (fun t ht _ => xRl.mk hsp (by rw [ht]; exact hP1)) d_X_takeRange_72
    · skip
      have h5 : M < xv β q (nbl M) := hz.mp (xi_nle.mp h4)
      exact xr_throw E hL hQ hh hk tw_UO_takeRange hl.1 d_X_takeRange_47 d_X_takeRange_50 d_X_takeRange_51 d_X_takeRange_53 d_X_takeRange_56 (by decide) (fun x t hT => Or.inr ⟨by rw [hsp, if_pos (Or.inr h5)], hT⟩)
  · skip
    have h2 : hi < lo := by
      rw [Int64.lt_iff_toInt_lt]
      rw [Int64.le_iff_toInt_le] at h1
      omega
    exact xr_throw E hL hQ hh hk tw_IA_takeRange hl.1 d_X_takeRange_6 d_X_takeRange_9 d_X_takeRange_10 d_X_takeRange_12 d_X_takeRange_15 (by decide) (fun x t hT => Or.inl ⟨by unfold sp_takeRange; rw [if_pos h2], hT⟩)
set_option maxHeartbeats 4000000 in
set_option maxRecDepth 100000 in
theorem c_go (l : Launch) (hL : l.stackTraces = false) (D : va_G) (a w : Nat) (cJ cZ : ClassId) (β : Nat → Bool) (n q : Nat) (hn : n ≤ 65536) (hq : q ≤ n) (hne : a ≠ w) (k : Int32) : xM l y_X_go w_X_go (xrm 6) [.ref a, .int k] (wXt D a w cJ cZ β n q) (xA2 a w) (xRi (sp_go (β, n, q) k) D a w cJ) (xTh (sp_go (β, n, q) k) E_IA E_IA) := by
  refine xM.of (by decide) ?_
  intro p e s m args below meth c hav E hr hk hh hnm hwX
  subst hav
  obtain ⟨⟨hP, hK⟩, hQ⟩ := hwX
  have hS : va_S (xA2 a w) s.heap s.heap [] := va_S.rf
  refine xl_entry _ (Nat.le_of_ble_eq_true rfl) (fun ls hl => ?_)
  have hl : lv_has ls 3 [(0, .ref a), (1, .int k)] := hl
  refine lv_aload_n E.1 E.2.1 d_X_go_0 rfl (lv_at hl 0 rfl) ?_
  refine lv_iload_n E.1 E.2.1 d_X_go_1 rfl (lv_at hl 1 rfl) ?_
  refine xg_looks (xc_V E xGT (c_requireCut l hL D a w cJ cZ β n q k) vw_X_requireCut (by decide) (wXt.call hP hK hQ) (PX.recv hP hK) rfl hl.1 rfl (Nat.le_of_ble_eq_true rfl) d_X_go_2) (fun v st t h => h.2.2) (fun v st t h0 hal hrt => ?_) (fun x st t h0 hal hth hz => xr_leave hh hk hal h0 hth.2 (fun t hT => Or.inl ⟨by unfold sp_go; rw [if_pos hth.1], hT⟩))
  obtain ⟨hkk, rfl, -⟩ := hrt
  obtain ⟨j, hj, hkj⟩ := nI_of (fun z => hkk (Or.inl z))
  have hcl := xcl64 hkj hj
  have hsp : sp_go (β, n, q) k = (0, lN q, (β, n, j)) := by
    unfold sp_go
    rw [if_neg hkk, hcl]
  refine W.eq (g2 := F0 m 5 ls []) rfl ?_
  refine lv_aload_n E.1 E.2.1 d_X_go_5 rfl (lv_at hl 0 rfl) ?_
  refine gx_place E hK hP d_X_go_6 ?_
  refine lv_istore_n E.1 E.2.1 d_X_go_9 rfl hl (by decide) rfl (fun ls hl => ?_)
  have hl : lv_has ls 3 [(2, .int (nI q)), (0, .ref a), (1, .int k)] := hl
  refine lv_aload_n E.1 E.2.1 d_X_go_10 rfl (lv_at hl 1 rfl) ?_
  refine lv_iload_n E.1 E.2.1 d_X_go_11 rfl (lv_at hl 2 rfl) ?_
  refine xl_ti (y := (nI j)) (hkj) ?_
  refine sx_place E hK hP hne hS d_X_go_12 (fun H1 locs1 hP1 hS1 => ?_)
  refine lv_iload_n E.1 E.2.1 d_X_go_15 rfl (lv_at hl 0 rfl) ?_
  exact xr_iret E hr hk hS1 (fun t ht _ => xRi.mk hsp (nI_l (by omega)) (by rw [ht]; exact hP1)) d_X_go_16
set_option maxHeartbeats 4000000 in
set_option maxRecDepth 100000 in
theorem c_cut (l : Launch) (hL : l.stackTraces = false) (D : va_G) (a w : Nat) (cJ cZ : ClassId) (β : Nat → Bool) (n q : Nat) (hn : n ≤ 65536) (hq : q ≤ n) (hne : a ≠ w) (k : Int32) : xM l y_X_cut w_X_cut (xrm 6) [.ref a, .int k] (wXt D a w cJ cZ β n q) (xA2 a w) (xRi (sp_cut (β, n, q) k) D a w cJ) (xTh (sp_cut (β, n, q) k) E_IA E_IA) := by
  refine xM.of (by decide) ?_
  intro p e s m args below meth c hav E hr hk hh hnm hwX
  subst hav
  obtain ⟨⟨hP, hK⟩, hQ⟩ := hwX
  have hS : va_S (xA2 a w) s.heap s.heap [] := va_S.rf
  refine xl_entry _ (Nat.le_of_ble_eq_true rfl) (fun ls hl => ?_)
  have hl : lv_has ls 3 [(0, .ref a), (1, .int k)] := hl
  refine lv_aload_n E.1 E.2.1 d_X_cut_0 rfl (lv_at hl 0 rfl) ?_
  refine lv_iload_n E.1 E.2.1 d_X_cut_1 rfl (lv_at hl 1 rfl) ?_
  refine xg_looks (xc_V E xGT (c_requireCut l hL D a w cJ cZ β n q k) vw_X_requireCut (by decide) (wXt.call hP hK hQ) (PX.recv hP hK) rfl hl.1 rfl (Nat.le_of_ble_eq_true rfl) d_X_cut_2) (fun v st t h => h.2.2) (fun v st t h0 hal hrt => ?_) (fun x st t h0 hal hth hz => xr_leave hh hk hal h0 hth.2 (fun t hT => Or.inl ⟨by unfold sp_cut; rw [if_pos hth.1], hT⟩))
  obtain ⟨hkk, rfl, -⟩ := hrt
  obtain ⟨j, hj, hkj⟩ := nI_of (fun z => hkk (Or.inl z))
  have hcl := xcl64 hkj hj
  have hsp : sp_cut (β, n, q) k = (0, lN n, (β, j, min q j)) := by
    unfold sp_cut
    rw [if_neg hkk, hcl]
  refine W.eq (g2 := F0 m 5 ls []) rfl ?_
  refine lv_aload_n E.1 E.2.1 d_X_cut_5 rfl (lv_at hl 0 rfl) ?_
  refine gx_size E hK hP d_X_cut_6 ?_
  refine lv_istore_n E.1 E.2.1 d_X_cut_9 rfl hl (by decide) rfl (fun ls hl => ?_)
  have hl : lv_has ls 3 [(2, .int (nI n)), (0, .ref a), (1, .int k)] := hl
  refine lv_aload_n E.1 E.2.1 d_X_cut_10 rfl (lv_at hl 1 rfl) ?_
  refine lv_iload_n E.1 E.2.1 d_X_cut_11 rfl (lv_at hl 2 rfl) ?_
  refine xl_ti (y := (nI j)) (hkj) ?_
  refine sx_size E hK hP hne hS d_X_cut_12 (fun H1 locs1 hP1 hS1 => ?_)
  clear hP
  have hP := hP1
  refine lv_aload_n E.1 E.2.1 d_X_cut_15 rfl (lv_at hl 1 rfl) ?_
  refine lv_aload_n E.1 E.2.1 d_X_cut_16 rfl (lv_at hl 1 rfl) ?_
  refine gx_place E hK hP d_X_cut_17 ?_
  refine lv_iload_n E.1 E.2.1 d_X_cut_20 rfl (lv_at hl 2 rfl) ?_
  refine xl_ti (y := (nI j)) (hkj) ?_
  refine va_mmin E.1 E.2.1 (by rw [E.2.2.1, hl.1]) E.2.2.2.1 (E.2.2.2.2 _ ml_X_min) (E.2.2.2.2 _ ml_min_static) (E.2.2.2.2 _ ml_Math_init) (E.2.2.2.2 _ ml_min_code) (by decide) (Nat.le_of_ble_eq_true rfl) (by decide) (by decide) d_X_cut_21 ?_
  refine xl_ti (y := (nI (min q j))) (xmin (by omega) hj) ?_
  refine sx_place E hK hP hne hS1 d_X_cut_24 (fun H2 locs2 hP2 hS2 => ?_)
  refine lv_iload_n E.1 E.2.1 d_X_cut_27 rfl (lv_at hl 0 rfl) ?_
  exact xr_iret E hr hk hS2 (fun t ht _ => xRi.mk hsp (nI_l (by omega)) (by rw [ht]; exact hP2)) d_X_cut_28
set_option maxHeartbeats 4000000 in
set_option maxRecDepth 100000 in
theorem c_count (l : Launch) (hL : l.stackTraces = false) (D : va_G) (a w : Nat) (cJ cZ : ClassId) (β : Nat → Bool) (n q : Nat) (hn : n ≤ 65536) (hq : q ≤ n) (hne : a ≠ w) (k : Int32) : xM l y_X_count w_X_count (xrm 6) [.ref a, .int k] (wXt D a w cJ cZ β n q) (xA2 a w) (xRi (sp_count (β, n, q) k) D a w cJ) (xTh (sp_count (β, n, q) k) E_IA E_IA) := by
  refine xM.of (by decide) ?_
  intro p e s m args below meth c hav E hr hk hh hnm hwX
  subst hav
  obtain ⟨⟨hP, hK⟩, hQ⟩ := hwX
  have hS : va_S (xA2 a w) s.heap s.heap [] := va_S.rf
  refine xl_entry _ (Nat.le_of_ble_eq_true rfl) (fun ls hl => ?_)
  have hl : lv_has ls 2 [(0, .ref a), (1, .int k)] := hl
  refine xl_join (fun _ : Unit => k = 0 ∨ k = 1) (fun _ => F0 m 19 ls []) (fun _ h01 => ?_) (fun hjn => ?_)
  · skip
    refine lv_iload_n E.1 E.2.1 d_X_count_19 rfl (lv_at hl 1 rfl) ?_
    refine lv_if_ne (tgt := 30) E.1 E.2.1 d_X_count_20 (by decide) (fun h1 => ?_) (fun h1 => ?_)
    · skip
      have h2 : k = 1 := h01.elim (fun z => absurd z h1) id
      have hsp : sp_count (β, n, q) k = (0, lN q, (β, n, q)) := by
        unfold sp_count
        rw [if_neg h1, if_pos h2]
      refine lv_aload_n E.1 E.2.1 d_X_count_30 rfl (lv_at hl 0 rfl) ?_
      refine gx_place E hK hP d_X_count_31 ?_
      exact xr_iret E hr hk hS (fun t ht _ => xRi.mk hsp (nI_l (by omega)) (by rw [ht]; exact hP)) d_X_count_34
    · skip
      have hsp : sp_count (β, n, q) k = (0, lN n, (β, n, q)) := by
        unfold sp_count
        rw [if_pos h1]
      refine lv_aload_n E.1 E.2.1 d_X_count_23 rfl (lv_at hl 0 rfl) ?_
      refine gx_size E hK hP d_X_count_24 ?_
      refine lv_goto (tgt := 34) E.1 E.2.1 d_X_count_27 (by decide) ?_
      exact xr_iret E hr hk hS (fun t ht _ => xRi.mk hsp (nI_l (by omega)) (by rw [ht]; exact hP)) d_X_count_34
  · skip
    refine lv_iload_n E.1 E.2.1 d_X_count_0 rfl (lv_at hl 1 rfl) ?_
    refine lv_if_eq (tgt := 19) E.1 E.2.1 d_X_count_1 (by decide) (fun h1 => ?_) (fun h1 => ?_)
    · skip
      exact hjn () (Or.inl h1)
    · skip
      refine lv_iload_n E.1 E.2.1 d_X_count_4 rfl (lv_at hl 1 rfl) ?_
      refine lv_iconst (v := 1) E.1 E.2.1 d_X_count_5 (by decide) ?_
      refine lv_icmp_eq (tgt := 19) E.1 E.2.1 d_X_count_6 (by decide) (fun h2 => ?_) (fun h2 => ?_)
      · skip
        exact hjn () (Or.inr h2)
      · skip
        exact xr_throw E hL hQ hh hk tw_IA_count hl.1 d_X_count_9 d_X_count_12 d_X_count_13 d_X_count_15 d_X_count_18 (by decide) (fun x t hT => Or.inl ⟨by unfold sp_count; rw [if_neg h1, if_neg h2], hT⟩)
set_option maxHeartbeats 4000000 in
set_option maxRecDepth 100000 in
theorem c_turn (l : Launch) (hL : l.stackTraces = false) (D : va_G) (a w : Nat) (cJ cZ : ClassId) (β : Nat → Bool) (n q : Nat) (hn : n ≤ 65536) (hq : q ≤ n) (hne : a ≠ w) (k : Int32) : xM l y_X_turn w_X_turn (xrm 6) [.ref a, .int k] (wXt D a w cJ cZ β n q) (xA2 a w) (xRi (sp_turn (β, n, q) k) D a w cJ) (xTh (sp_turn (β, n, q) k) E_IA E_IA) := by
  refine xM.of (by decide) ?_
  intro p e s m args below meth c hav E hr hk hh hnm hwX
  subst hav
  obtain ⟨⟨hP, hK⟩, hQ⟩ := hwX
  have hS : va_S (xA2 a w) s.heap s.heap [] := va_S.rf
  refine xl_entry _ (Nat.le_of_ble_eq_true rfl) (fun ls hl => ?_)
  have hl : lv_has ls 4 [(0, .ref a), (1, .int k)] := hl
  refine lv_iload_n E.1 E.2.1 d_X_turn_0 rfl (lv_at hl 1 rfl) ?_
  refine lv_if_lt (tgt := 12) E.1 E.2.1 d_X_turn_1 (by decide) (fun h1 => ?_) (fun h1 => ?_)
  · skip
    exact xr_throw E hL hQ hh hk tw_IA_turn hl.1 d_X_turn_12 d_X_turn_15 d_X_turn_16 d_X_turn_18 d_X_turn_21 (by decide) (fun x t hT => Or.inl ⟨by unfold sp_turn; rw [if_pos (Or.inl h1)], hT⟩)
  · skip
    refine lv_iload_n E.1 E.2.1 d_X_turn_4 rfl (lv_at hl 1 rfl) ?_
    refine lv_aload_n E.1 E.2.1 d_X_turn_5 rfl (lv_at hl 0 rfl) ?_
    refine gx_size E hK hP d_X_turn_6 ?_
    refine lv_icmp_lt (tgt := 22) E.1 E.2.1 d_X_turn_9 (by decide) (fun h2 => ?_) (fun h2 => ?_)
    · skip
      obtain ⟨j, hj, hkj⟩ := nI_of h1
      have hjn : j < n := by
        rw [hkj] at h2
        exact (nI_ltI hj (by omega)).mp h2
      have hcl := xcl64 hkj hj
      have hsp : sp_turn (β, n, q) k = (0, lN (!β j).toNat, (va_up β j (!β j), n, q)) := by
        unfold sp_turn
        rw [if_neg (fun z => z.elim h1 (xi_nle.mpr h2)), hcl]
      refine lv_lconst (v := 1) E.1 E.2.1 d_X_turn_22 (by decide) ?_
      refine lv_aload_n E.1 E.2.1 d_X_turn_23 rfl (lv_at hl 0 rfl) ?_
      refine lv_iload_n E.1 E.2.1 d_X_turn_24 rfl (lv_at hl 1 rfl) ?_
      refine xl_ti (y := (nI j)) (hkj) ?_
      refine xg_looks (xc_V E xGT (c_bit l D a w cJ cZ β n q j (by omega)) vw_X_bit (by decide) (wX.call hP hK) (PX.recv hP hK) rfl hl.1 rfl (Nat.le_of_ble_eq_true rfl) d_X_turn_25) (fun v st t h => h.2) (fun v st t h0 hal hrt => ?_) (fun x st t h0 hal hth hz => hth.elim)
      obtain ⟨rfl, -⟩ := hrt
      refine W.eq (g2 := F0 m 28 ls [.long (lN (β j).toNat), .long 1]) rfl ?_
      refine lv_lsub E.1 E.2.1 d_X_turn_28 ?_
      refine xl_tl (y := (lN (!β j).toNat)) (by cases β j <;> decide) ?_
      refine lv_lstore_n E.1 E.2.1 d_X_turn_29 rfl hl (by decide) rfl (fun ls hl => ?_)
      have hl : lv_has ls 4 [(2, .long (lN (!β j).toNat)), (0, .ref a), (1, .int k)] := hl
      refine lv_aload_n E.1 E.2.1 d_X_turn_30 rfl (lv_at hl 1 rfl) ?_
      refine lv_iload_n E.1 E.2.1 d_X_turn_31 rfl (lv_at hl 2 rfl) ?_
      refine xl_ti (y := (nI j)) (hkj) ?_
      refine lv_lload_n E.1 E.2.1 d_X_turn_32 rfl (lv_at hl 0 rfl) ?_
      refine xg_goes (xc_V E xGT (c_setBit l D a w cJ cZ β n q j (!β j) (by omega) hne) vw_X_setBit (by decide) (wX.call hP hK) (PX.recv hP hK) rfl hl.1 rfl (Nat.le_of_ble_eq_true rfl) d_X_turn_33) hS (fun q _ h => h) (fun q h => h) (fun v st t locs1 h0 hal hrt hS1 hz hkp => ?_) (fun x st t locs1 h0 hal hth => hth.elim)
      obtain ⟨rfl, hP1⟩ := hrt
      refine W.eq (g2 := F0 m 36 ls []) rfl ?_
      generalize t.heap = H1 at hP1 hS1 hz hkp ⊢
      refine lv_lload_n E.1 E.2.1 d_X_turn_36 rfl (lv_at hl 0 rfl) ?_
      refine lv_lconst (v := 1) E.1 E.2.1 d_X_turn_37 (by decide) ?_
      refine xl_lc_ne (tgt := 46) E.1 E.2.1 d_X_turn_38 d_X_turn_39 (by decide) (fun h3 => ?_) (fun h3 => ?_)
      · skip
        have h4 : (!β j) = false := by
          cases hb : (!β j)
          · rfl
          · rw [hb] at h3
            exact absurd rfl h3
        refine lv_iconst (v := 0) E.1 E.2.1 d_X_turn_46 (by decide) ?_
        exact xr_zret E hr hk (by decide) hS1 (fun t ht _ => xRi.mk hsp (by rw [h4]; rfl) (by rw [ht]; exact hP1)) d_X_turn_47
      · skip
        have h4 : (!β j) = true := by
          cases hb : (!β j)
          · rw [hb] at h3
            exact absurd h3 (by decide)
          · rfl
        refine lv_iconst (v := 1) E.1 E.2.1 d_X_turn_42 (by decide) ?_
        refine lv_goto (tgt := 47) E.1 E.2.1 d_X_turn_43 (by decide) ?_
        exact xr_zret E hr hk (by decide) hS1 (fun t ht _ => xRi.mk hsp (by rw [h4]; rfl) (by rw [ht]; exact hP1)) d_X_turn_47
    · skip
      exact xr_throw E hL hQ hh hk tw_IA_turn hl.1 d_X_turn_12 d_X_turn_15 d_X_turn_16 d_X_turn_18 d_X_turn_21 (by decide) (fun x t hT => Or.inl ⟨by unfold sp_turn; rw [if_pos (Or.inr (xi_nlt.mp h2))], hT⟩)
end XL17
end
section
theorem d_M_init_0 : decode b_M_init 0 = .ok (.aload_n 0, 1) := by decide +kernel
theorem d_M_init_1 : decode b_M_init 1 = .ok (.invokespecial 1, 3) := by decide +kernel
theorem d_M_init_4 : decode b_M_init 4 = .ok (.aload_n 0, 1) := by decide +kernel
theorem d_M_init_5 : decode b_M_init 5 = .ok (.ldc 7, 2) := by decide +kernel
theorem d_M_init_7 : decode b_M_init 7 = .ok (.newarray .boolean, 2) := by decide +kernel
theorem d_M_init_9 : decode b_M_init 9 = .ok (.putfield 8, 3) := by decide +kernel
theorem d_M_init_12 : decode b_M_init 12 = .ok (.return_, 1) := by decide +kernel
theorem d_M_thrown_0 : decode b_M_thrown 0 = .ok (.aload_n 0, 1) := by decide +kernel
theorem d_M_thrown_1 : decode b_M_thrown 1 = .ok (.getfield 14, 3) := by decide +kernel
theorem d_M_thrown_4 : decode b_M_thrown 4 = .ok (.ireturn, 1) := by decide +kernel
theorem d_M_put_0 : decode b_M_put 0 = .ok (.aload_n 0, 1) := by decide +kernel
theorem d_M_put_1 : decode b_M_put 1 = .ok (.iconst 0, 1) := by decide +kernel
theorem d_M_put_2 : decode b_M_put 2 = .ok (.putfield 14, 3) := by decide +kernel
theorem d_M_put_5 : decode b_M_put 5 = .ok (.iload_n 3, 1) := by decide +kernel
theorem d_M_put_6 : decode b_M_put 6 = .ok (.ifCond .lt 9, 3) := by decide +kernel
theorem d_M_put_9 : decode b_M_put 9 = .ok (.iload_n 3, 1) := by decide +kernel
theorem d_M_put_10 : decode b_M_put 10 = .ok (.bipush 64, 2) := by decide +kernel
theorem d_M_put_12 : decode b_M_put 12 = .ok (.if_icmp .le 11, 3) := by decide +kernel
theorem d_M_put_15 : decode b_M_put 15 = .ok (.aload_n 0, 1) := by decide +kernel
theorem d_M_put_16 : decode b_M_put 16 = .ok (.iconst 1, 1) := by decide +kernel
theorem d_M_put_17 : decode b_M_put 17 = .ok (.invokevirtual 27, 3) := by decide +kernel
theorem d_M_put_20 : decode b_M_put 20 = .ok (.goto 10, 3) := by decide +kernel
theorem d_M_put_23 : decode b_M_put 23 = .ok (.aload_n 0, 1) := by decide +kernel
theorem d_M_put_24 : decode b_M_put 24 = .ok (.lload_n 1, 1) := by decide +kernel
theorem d_M_put_25 : decode b_M_put 25 = .ok (.iload_n 3, 1) := by decide +kernel
theorem d_M_put_26 : decode b_M_put 26 = .ok (.iconst 2, 1) := by decide +kernel
theorem d_M_put_27 : decode b_M_put 27 = .ok (.invokevirtual 35, 3) := by decide +kernel
theorem d_M_put_30 : decode b_M_put 30 = .ok (.ireturn, 1) := by decide +kernel
theorem d_M_fail_0 : decode b_M_fail 0 = .ok (.aload_n 0, 1) := by decide +kernel
theorem d_M_fail_1 : decode b_M_fail 1 = .ok (.iload_n 1, 1) := by decide +kernel
theorem d_M_fail_2 : decode b_M_fail 2 = .ok (.putfield 14, 3) := by decide +kernel
theorem d_M_fail_5 : decode b_M_fail 5 = .ok (.iconst 0, 1) := by decide +kernel
theorem d_M_fail_6 : decode b_M_fail 6 = .ok (.ireturn, 1) := by decide +kernel
theorem d_M_write_0 : decode b_M_write 0 = .ok (.aload_n 0, 1) := by decide +kernel
theorem d_M_write_1 : decode b_M_write 1 = .ok (.getfield 24, 3) := by decide +kernel
theorem d_M_write_4 : decode b_M_write 4 = .ok (.iload_n 3, 1) := by decide +kernel
theorem d_M_write_5 : decode b_M_write 5 = .ok (.iadd, 1) := by decide +kernel
theorem d_M_write_6 : decode b_M_write 6 = .ok (.ldc 7, 2) := by decide +kernel
theorem d_M_write_8 : decode b_M_write 8 = .ok (.if_icmp .le 10, 3) := by decide +kernel
theorem d_M_write_11 : decode b_M_write 11 = .ok (.aload_n 0, 1) := by decide +kernel
theorem d_M_write_12 : decode b_M_write 12 = .ok (.iload 4, 2) := by decide +kernel
theorem d_M_write_14 : decode b_M_write 14 = .ok (.invokevirtual 27, 3) := by decide +kernel
theorem d_M_write_17 : decode b_M_write 17 = .ok (.ireturn, 1) := by decide +kernel
theorem d_M_write_18 : decode b_M_write 18 = .ok (.aload_n 0, 1) := by decide +kernel
theorem d_M_write_19 : decode b_M_write 19 = .ok (.lload_n 1, 1) := by decide +kernel
theorem d_M_write_20 : decode b_M_write 20 = .ok (.iload_n 3, 1) := by decide +kernel
theorem d_M_write_21 : decode b_M_write 21 = .ok (.invokevirtual 31, 3) := by decide +kernel
theorem d_M_write_24 : decode b_M_write 24 = .ok (.aload_n 0, 1) := by decide +kernel
theorem d_M_write_25 : decode b_M_write 25 = .ok (.getfield 24, 3) := by decide +kernel
theorem d_M_write_28 : decode b_M_write 28 = .ok (.ireturn, 1) := by decide +kernel
theorem d_M_append_0 : decode b_M_append 0 = .ok (.iload_n 3, 1) := by decide +kernel
theorem d_M_append_1 : decode b_M_append 1 = .ok (.iconst 1, 1) := by decide +kernel
theorem d_M_append_2 : decode b_M_append 2 = .ok (.isub, 1) := by decide +kernel
theorem d_M_append_3 : decode b_M_append 3 = .ok (.istore 4, 2) := by decide +kernel
theorem d_M_append_5 : decode b_M_append 5 = .ok (.iload 4, 2) := by decide +kernel
theorem d_M_append_7 : decode b_M_append 7 = .ok (.ifCond .lt 44, 3) := by decide +kernel
theorem d_M_append_10 : decode b_M_append 10 = .ok (.aload_n 0, 1) := by decide +kernel
theorem d_M_append_11 : decode b_M_append 11 = .ok (.getfield 8, 3) := by decide +kernel
theorem d_M_append_14 : decode b_M_append 14 = .ok (.aload_n 0, 1) := by decide +kernel
theorem d_M_append_15 : decode b_M_append 15 = .ok (.getfield 24, 3) := by decide +kernel
theorem d_M_append_18 : decode b_M_append 18 = .ok (.lload_n 1, 1) := by decide +kernel
theorem d_M_append_19 : decode b_M_append 19 = .ok (.iload 4, 2) := by decide +kernel
theorem d_M_append_21 : decode b_M_append 21 = .ok (.lushr, 1) := by decide +kernel
theorem d_M_append_22 : decode b_M_append 22 = .ok (.lconst 1, 1) := by decide +kernel
theorem d_M_append_23 : decode b_M_append 23 = .ok (.land, 1) := by decide +kernel
theorem d_M_append_24 : decode b_M_append 24 = .ok (.lconst 1, 1) := by decide +kernel
theorem d_M_append_25 : decode b_M_append 25 = .ok (.lcmp, 1) := by decide +kernel
theorem d_M_append_26 : decode b_M_append 26 = .ok (.ifCond .ne 7, 3) := by decide +kernel
theorem d_M_append_29 : decode b_M_append 29 = .ok (.iconst 1, 1) := by decide +kernel
theorem d_M_append_30 : decode b_M_append 30 = .ok (.goto 4, 3) := by decide +kernel
theorem d_M_append_33 : decode b_M_append 33 = .ok (.iconst 0, 1) := by decide +kernel
theorem d_M_append_34 : decode b_M_append 34 = .ok (.bastore, 1) := by decide +kernel
theorem d_M_append_35 : decode b_M_append 35 = .ok (.aload_n 0, 1) := by decide +kernel
theorem d_M_append_36 : decode b_M_append 36 = .ok (.dup, 1) := by decide +kernel
theorem d_M_append_37 : decode b_M_append 37 = .ok (.getfield 24, 3) := by decide +kernel
theorem d_M_append_40 : decode b_M_append 40 = .ok (.iconst 1, 1) := by decide +kernel
theorem d_M_append_41 : decode b_M_append 41 = .ok (.iadd, 1) := by decide +kernel
theorem d_M_append_42 : decode b_M_append 42 = .ok (.putfield 24, 3) := by decide +kernel
theorem d_M_append_45 : decode b_M_append 45 = .ok (.iinc 4 (-1), 3) := by decide +kernel
theorem d_M_append_48 : decode b_M_append 48 = .ok (.goto (-43), 3) := by decide +kernel
theorem d_M_append_51 : decode b_M_append 51 = .ok (.return_, 1) := by decide +kernel
theorem d_M_putRange_0 : decode b_M_putRange 0 = .ok (.aload_n 0, 1) := by decide +kernel
theorem d_M_putRange_1 : decode b_M_putRange 1 = .ok (.iconst 0, 1) := by decide +kernel
theorem d_M_putRange_2 : decode b_M_putRange 2 = .ok (.putfield 14, 3) := by decide +kernel
theorem d_M_putRange_5 : decode b_M_putRange 5 = .ok (.lload 5, 2) := by decide +kernel
theorem d_M_putRange_7 : decode b_M_putRange 7 = .ok (.lload_n 1, 1) := by decide +kernel
theorem d_M_putRange_8 : decode b_M_putRange 8 = .ok (.lcmp, 1) := by decide +kernel
theorem d_M_putRange_9 : decode b_M_putRange 9 = .ok (.ifCond .lt 10, 3) := by decide +kernel
theorem d_M_putRange_12 : decode b_M_putRange 12 = .ok (.lload 5, 2) := by decide +kernel
theorem d_M_putRange_14 : decode b_M_putRange 14 = .ok (.lload_n 3, 1) := by decide +kernel
theorem d_M_putRange_15 : decode b_M_putRange 15 = .ok (.lcmp, 1) := by decide +kernel
theorem d_M_putRange_16 : decode b_M_putRange 16 = .ok (.ifCond .le 11, 3) := by decide +kernel
theorem d_M_putRange_19 : decode b_M_putRange 19 = .ok (.aload_n 0, 1) := by decide +kernel
theorem d_M_putRange_20 : decode b_M_putRange 20 = .ok (.iconst 1, 1) := by decide +kernel
theorem d_M_putRange_21 : decode b_M_putRange 21 = .ok (.invokevirtual 27, 3) := by decide +kernel
theorem d_M_putRange_24 : decode b_M_putRange 24 = .ok (.goto 19, 3) := by decide +kernel
theorem d_M_putRange_27 : decode b_M_putRange 27 = .ok (.aload_n 0, 1) := by decide +kernel
theorem d_M_putRange_28 : decode b_M_putRange 28 = .ok (.lload 5, 2) := by decide +kernel
theorem d_M_putRange_30 : decode b_M_putRange 30 = .ok (.lload_n 1, 1) := by decide +kernel
theorem d_M_putRange_31 : decode b_M_putRange 31 = .ok (.lsub, 1) := by decide +kernel
theorem d_M_putRange_32 : decode b_M_putRange 32 = .ok (.aload_n 0, 1) := by decide +kernel
theorem d_M_putRange_33 : decode b_M_putRange 33 = .ok (.lload_n 3, 1) := by decide +kernel
theorem d_M_putRange_34 : decode b_M_putRange 34 = .ok (.lload_n 1, 1) := by decide +kernel
theorem d_M_putRange_35 : decode b_M_putRange 35 = .ok (.lsub, 1) := by decide +kernel
theorem d_M_putRange_36 : decode b_M_putRange 36 = .ok (.invokevirtual 18, 3) := by decide +kernel
theorem d_M_putRange_39 : decode b_M_putRange 39 = .ok (.iconst 2, 1) := by decide +kernel
theorem d_M_putRange_40 : decode b_M_putRange 40 = .ok (.invokevirtual 35, 3) := by decide +kernel
theorem d_M_putRange_43 : decode b_M_putRange 43 = .ok (.ireturn, 1) := by decide +kernel
theorem d_M_width_0 : decode b_M_width 0 = .ok (.iconst 0, 1) := by decide +kernel
theorem d_M_width_1 : decode b_M_width 1 = .ok (.istore_n 3, 1) := by decide +kernel
theorem d_M_width_2 : decode b_M_width 2 = .ok (.iload_n 3, 1) := by decide +kernel
theorem d_M_width_3 : decode b_M_width 3 = .ok (.bipush 64, 2) := by decide +kernel
theorem d_M_width_5 : decode b_M_width 5 = .ok (.if_icmp .ge 17, 3) := by decide +kernel
theorem d_M_width_8 : decode b_M_width 8 = .ok (.lload_n 1, 1) := by decide +kernel
theorem d_M_width_9 : decode b_M_width 9 = .ok (.iload_n 3, 1) := by decide +kernel
theorem d_M_width_10 : decode b_M_width 10 = .ok (.lushr, 1) := by decide +kernel
theorem d_M_width_11 : decode b_M_width 11 = .ok (.lconst 0, 1) := by decide +kernel
theorem d_M_width_12 : decode b_M_width 12 = .ok (.lcmp, 1) := by decide +kernel
theorem d_M_width_13 : decode b_M_width 13 = .ok (.ifCond .eq 9, 3) := by decide +kernel
theorem d_M_width_16 : decode b_M_width 16 = .ok (.iinc 3 1, 3) := by decide +kernel
theorem d_M_width_19 : decode b_M_width 19 = .ok (.goto (-17), 3) := by decide +kernel
theorem d_M_width_22 : decode b_M_width 22 = .ok (.iload_n 3, 1) := by decide +kernel
theorem d_M_width_23 : decode b_M_width 23 = .ok (.ireturn, 1) := by decide +kernel
theorem d_M_putLength_0 : decode b_M_putLength 0 = .ok (.aload_n 0, 1) := by decide +kernel
theorem d_M_putLength_1 : decode b_M_putLength 1 = .ok (.iconst 0, 1) := by decide +kernel
theorem d_M_putLength_2 : decode b_M_putLength 2 = .ok (.putfield 14, 3) := by decide +kernel
theorem d_M_putLength_5 : decode b_M_putLength 5 = .ok (.iload_n 1, 1) := by decide +kernel
theorem d_M_putLength_6 : decode b_M_putLength 6 = .ok (.ifCond .ge 9, 3) := by decide +kernel
theorem d_M_putLength_9 : decode b_M_putLength 9 = .ok (.aload_n 0, 1) := by decide +kernel
theorem d_M_putLength_10 : decode b_M_putLength 10 = .ok (.iconst 1, 1) := by decide +kernel
theorem d_M_putLength_11 : decode b_M_putLength 11 = .ok (.invokevirtual 27, 3) := by decide +kernel
theorem d_M_putLength_14 : decode b_M_putLength 14 = .ok (.ireturn, 1) := by decide +kernel
theorem d_M_putLength_15 : decode b_M_putLength 15 = .ok (.iconst 4, 1) := by decide +kernel
theorem d_M_putLength_16 : decode b_M_putLength 16 = .ok (.iload_n 1, 1) := by decide +kernel
theorem d_M_putLength_17 : decode b_M_putLength 17 = .ok (.sipush 16384, 3) := by decide +kernel
theorem d_M_putLength_20 : decode b_M_putLength 20 = .ok (.idiv, 1) := by decide +kernel
theorem d_M_putLength_21 : decode b_M_putLength 21 = .ok (.invokestatic 39, 3) := by decide +kernel
theorem d_M_putLength_24 : decode b_M_putLength 24 = .ok (.istore_n 2, 1) := by decide +kernel
theorem d_M_putLength_25 : decode b_M_putLength 25 = .ok (.iload_n 1, 1) := by decide +kernel
theorem d_M_putLength_26 : decode b_M_putLength 26 = .ok (.sipush 128, 3) := by decide +kernel
theorem d_M_putLength_29 : decode b_M_putLength 29 = .ok (.if_icmp .ge 15, 3) := by decide +kernel
theorem d_M_putLength_32 : decode b_M_putLength 32 = .ok (.aload_n 0, 1) := by decide +kernel
theorem d_M_putLength_33 : decode b_M_putLength 33 = .ok (.iload_n 1, 1) := by decide +kernel
theorem d_M_putLength_34 : decode b_M_putLength 34 = .ok (.i2l, 1) := by decide +kernel
theorem d_M_putLength_35 : decode b_M_putLength 35 = .ok (.bipush 8, 2) := by decide +kernel
theorem d_M_putLength_37 : decode b_M_putLength 37 = .ok (.iconst 2, 1) := by decide +kernel
theorem d_M_putLength_38 : decode b_M_putLength 38 = .ok (.invokevirtual 35, 3) := by decide +kernel
theorem d_M_putLength_41 : decode b_M_putLength 41 = .ok (.goto 39, 3) := by decide +kernel
theorem d_M_putLength_44 : decode b_M_putLength 44 = .ok (.iload_n 1, 1) := by decide +kernel
theorem d_M_putLength_45 : decode b_M_putLength 45 = .ok (.sipush 16384, 3) := by decide +kernel
theorem d_M_putLength_48 : decode b_M_putLength 48 = .ok (.if_icmp .ge 19, 3) := by decide +kernel
theorem d_M_putLength_51 : decode b_M_putLength 51 = .ok (.aload_n 0, 1) := by decide +kernel
theorem d_M_putLength_52 : decode b_M_putLength 52 = .ok (.ldc2_w 45, 3) := by decide +kernel
theorem d_M_putLength_55 : decode b_M_putLength 55 = .ok (.iload_n 1, 1) := by decide +kernel
theorem d_M_putLength_56 : decode b_M_putLength 56 = .ok (.i2l, 1) := by decide +kernel
theorem d_M_putLength_57 : decode b_M_putLength 57 = .ok (.lor, 1) := by decide +kernel
theorem d_M_putLength_58 : decode b_M_putLength 58 = .ok (.bipush 16, 2) := by decide +kernel
theorem d_M_putLength_60 : decode b_M_putLength 60 = .ok (.iconst 2, 1) := by decide +kernel
theorem d_M_putLength_61 : decode b_M_putLength 61 = .ok (.invokevirtual 35, 3) := by decide +kernel
theorem d_M_putLength_64 : decode b_M_putLength 64 = .ok (.goto 16, 3) := by decide +kernel
theorem d_M_putLength_67 : decode b_M_putLength 67 = .ok (.aload_n 0, 1) := by decide +kernel
theorem d_M_putLength_68 : decode b_M_putLength 68 = .ok (.ldc2_w 47, 3) := by decide +kernel
theorem d_M_putLength_71 : decode b_M_putLength 71 = .ok (.iload_n 2, 1) := by decide +kernel
theorem d_M_putLength_72 : decode b_M_putLength 72 = .ok (.i2l, 1) := by decide +kernel
theorem d_M_putLength_73 : decode b_M_putLength 73 = .ok (.lor, 1) := by decide +kernel
theorem d_M_putLength_74 : decode b_M_putLength 74 = .ok (.bipush 8, 2) := by decide +kernel
theorem d_M_putLength_76 : decode b_M_putLength 76 = .ok (.iconst 2, 1) := by decide +kernel
theorem d_M_putLength_77 : decode b_M_putLength 77 = .ok (.invokevirtual 35, 3) := by decide +kernel
theorem d_M_putLength_80 : decode b_M_putLength 80 = .ok (.istore_n 3, 1) := by decide +kernel
theorem d_M_putLength_81 : decode b_M_putLength 81 = .ok (.aload_n 0, 1) := by decide +kernel
theorem d_M_putLength_82 : decode b_M_putLength 82 = .ok (.getfield 14, 3) := by decide +kernel
theorem d_M_putLength_85 : decode b_M_putLength 85 = .ok (.ifCond .le 7, 3) := by decide +kernel
theorem d_M_putLength_88 : decode b_M_putLength 88 = .ok (.iconst 0, 1) := by decide +kernel
theorem d_M_putLength_89 : decode b_M_putLength 89 = .ok (.goto 19, 3) := by decide +kernel
theorem d_M_putLength_92 : decode b_M_putLength 92 = .ok (.iload_n 1, 1) := by decide +kernel
theorem d_M_putLength_93 : decode b_M_putLength 93 = .ok (.sipush 16384, 3) := by decide +kernel
theorem d_M_putLength_96 : decode b_M_putLength 96 = .ok (.if_icmp .ge 7, 3) := by decide +kernel
theorem d_M_putLength_99 : decode b_M_putLength 99 = .ok (.iload_n 1, 1) := by decide +kernel
theorem d_M_putLength_100 : decode b_M_putLength 100 = .ok (.goto 8, 3) := by decide +kernel
theorem d_M_putLength_103 : decode b_M_putLength 103 = .ok (.sipush 16384, 3) := by decide +kernel
theorem d_M_putLength_106 : decode b_M_putLength 106 = .ok (.iload_n 2, 1) := by decide +kernel
theorem d_M_putLength_107 : decode b_M_putLength 107 = .ok (.imul, 1) := by decide +kernel
theorem d_M_putLength_108 : decode b_M_putLength 108 = .ok (.ireturn, 1) := by decide +kernel
theorem d_M_putNumber_0 : decode b_M_putNumber 0 = .ok (.aload_n 0, 1) := by decide +kernel
theorem d_M_putNumber_1 : decode b_M_putNumber 1 = .ok (.iconst 0, 1) := by decide +kernel
theorem d_M_putNumber_2 : decode b_M_putNumber 2 = .ok (.putfield 14, 3) := by decide +kernel
theorem d_M_putNumber_5 : decode b_M_putNumber 5 = .ok (.iload_n 1, 1) := by decide +kernel
theorem d_M_putNumber_6 : decode b_M_putNumber 6 = .ok (.ifCond .lt 8, 3) := by decide +kernel
theorem d_M_putNumber_9 : decode b_M_putNumber 9 = .ok (.iload_n 1, 1) := by decide +kernel
theorem d_M_putNumber_10 : decode b_M_putNumber 10 = .ok (.iconst 2, 1) := by decide +kernel
theorem d_M_putNumber_11 : decode b_M_putNumber 11 = .ok (.if_icmp .le 9, 3) := by decide +kernel
theorem d_M_putNumber_14 : decode b_M_putNumber 14 = .ok (.aload_n 0, 1) := by decide +kernel
theorem d_M_putNumber_15 : decode b_M_putNumber 15 = .ok (.iconst 1, 1) := by decide +kernel
theorem d_M_putNumber_16 : decode b_M_putNumber 16 = .ok (.invokevirtual 27, 3) := by decide +kernel
theorem d_M_putNumber_19 : decode b_M_putNumber 19 = .ok (.ireturn, 1) := by decide +kernel
theorem d_M_putNumber_20 : decode b_M_putNumber 20 = .ok (.iload_n 1, 1) := by decide +kernel
theorem d_M_putNumber_21 : decode b_M_putNumber 21 = .ok (.iconst 2, 1) := by decide +kernel
theorem d_M_putNumber_22 : decode b_M_putNumber 22 = .ok (.if_icmp .ne 21, 3) := by decide +kernel
theorem d_M_putNumber_25 : decode b_M_putNumber 25 = .ok (.lload_n 2, 1) := by decide +kernel
theorem d_M_putNumber_26 : decode b_M_putNumber 26 = .ok (.lconst 0, 1) := by decide +kernel
theorem d_M_putNumber_27 : decode b_M_putNumber 27 = .ok (.lcmp, 1) := by decide +kernel
theorem d_M_putNumber_28 : decode b_M_putNumber 28 = .ok (.ifCond .lt 15, 3) := by decide +kernel
theorem d_M_putNumber_31 : decode b_M_putNumber 31 = .ok (.lload_n 2, 1) := by decide +kernel
theorem d_M_putNumber_32 : decode b_M_putNumber 32 = .ok (.ldc2_w 49, 3) := by decide +kernel
theorem d_M_putNumber_35 : decode b_M_putNumber 35 = .ok (.lcmp, 1) := by decide +kernel
theorem d_M_putNumber_36 : decode b_M_putNumber 36 = .ok (.ifCond .ge 7, 3) := by decide +kernel
theorem d_M_putNumber_39 : decode b_M_putNumber 39 = .ok (.iconst 1, 1) := by decide +kernel
theorem d_M_putNumber_40 : decode b_M_putNumber 40 = .ok (.goto 4, 3) := by decide +kernel
theorem d_M_putNumber_43 : decode b_M_putNumber 43 = .ok (.iconst 0, 1) := by decide +kernel
theorem d_M_putNumber_44 : decode b_M_putNumber 44 = .ok (.istore 4, 2) := by decide +kernel
theorem d_M_putNumber_46 : decode b_M_putNumber 46 = .ok (.iload_n 1, 1) := by decide +kernel
theorem d_M_putNumber_47 : decode b_M_putNumber 47 = .ok (.iconst 1, 1) := by decide +kernel
theorem d_M_putNumber_48 : decode b_M_putNumber 48 = .ok (.if_icmp .ne 11, 3) := by decide +kernel
theorem d_M_putNumber_51 : decode b_M_putNumber 51 = .ok (.aload_n 0, 1) := by decide +kernel
theorem d_M_putNumber_52 : decode b_M_putNumber 52 = .ok (.lload_n 2, 1) := by decide +kernel
theorem d_M_putNumber_53 : decode b_M_putNumber 53 = .ok (.invokevirtual 51, 3) := by decide +kernel
theorem d_M_putNumber_56 : decode b_M_putNumber 56 = .ok (.goto 8, 3) := by decide +kernel
theorem d_M_putNumber_59 : decode b_M_putNumber 59 = .ok (.aload_n 0, 1) := by decide +kernel
theorem d_M_putNumber_60 : decode b_M_putNumber 60 = .ok (.lload_n 2, 1) := by decide +kernel
theorem d_M_putNumber_61 : decode b_M_putNumber 61 = .ok (.invokevirtual 54, 3) := by decide +kernel
theorem d_M_putNumber_64 : decode b_M_putNumber 64 = .ok (.istore 5, 2) := by decide +kernel
theorem d_M_putNumber_66 : decode b_M_putNumber 66 = .ok (.iload 4, 2) := by decide +kernel
theorem d_M_putNumber_68 : decode b_M_putNumber 68 = .ok (.ifCond .eq 8, 3) := by decide +kernel
theorem d_M_putNumber_71 : decode b_M_putNumber 71 = .ok (.bipush 7, 2) := by decide +kernel
theorem d_M_putNumber_73 : decode b_M_putNumber 73 = .ok (.goto 22, 3) := by decide +kernel
theorem d_M_putNumber_76 : decode b_M_putNumber 76 = .ok (.bipush 8, 2) := by decide +kernel
theorem d_M_putNumber_78 : decode b_M_putNumber 78 = .ok (.bipush 8, 2) := by decide +kernel
theorem d_M_putNumber_80 : decode b_M_putNumber 80 = .ok (.iload 5, 2) := by decide +kernel
theorem d_M_putNumber_82 : decode b_M_putNumber 82 = .ok (.imul, 1) := by decide +kernel
theorem d_M_putNumber_83 : decode b_M_putNumber 83 = .ok (.iadd, 1) := by decide +kernel
theorem d_M_putNumber_84 : decode b_M_putNumber 84 = .ok (.iload_n 1, 1) := by decide +kernel
theorem d_M_putNumber_85 : decode b_M_putNumber 85 = .ok (.iconst 2, 1) := by decide +kernel
theorem d_M_putNumber_86 : decode b_M_putNumber 86 = .ok (.if_icmp .ne 7, 3) := by decide +kernel
theorem d_M_putNumber_89 : decode b_M_putNumber 89 = .ok (.iconst 1, 1) := by decide +kernel
theorem d_M_putNumber_90 : decode b_M_putNumber 90 = .ok (.goto 4, 3) := by decide +kernel
theorem d_M_putNumber_93 : decode b_M_putNumber 93 = .ok (.iconst 0, 1) := by decide +kernel
theorem d_M_putNumber_94 : decode b_M_putNumber 94 = .ok (.iadd, 1) := by decide +kernel
theorem d_M_putNumber_95 : decode b_M_putNumber 95 = .ok (.istore 6, 2) := by decide +kernel
theorem d_M_putNumber_97 : decode b_M_putNumber 97 = .ok (.aload_n 0, 1) := by decide +kernel
theorem d_M_putNumber_98 : decode b_M_putNumber 98 = .ok (.getfield 24, 3) := by decide +kernel
theorem d_M_putNumber_101 : decode b_M_putNumber 101 = .ok (.iload 6, 2) := by decide +kernel
theorem d_M_putNumber_103 : decode b_M_putNumber 103 = .ok (.iadd, 1) := by decide +kernel
theorem d_M_putNumber_104 : decode b_M_putNumber 104 = .ok (.ldc 7, 2) := by decide +kernel
theorem d_M_putNumber_106 : decode b_M_putNumber 106 = .ok (.if_icmp .le 9, 3) := by decide +kernel
theorem d_M_putNumber_109 : decode b_M_putNumber 109 = .ok (.aload_n 0, 1) := by decide +kernel
theorem d_M_putNumber_110 : decode b_M_putNumber 110 = .ok (.iconst 2, 1) := by decide +kernel
theorem d_M_putNumber_111 : decode b_M_putNumber 111 = .ok (.invokevirtual 27, 3) := by decide +kernel
theorem d_M_putNumber_114 : decode b_M_putNumber 114 = .ok (.ireturn, 1) := by decide +kernel
theorem d_M_putNumber_115 : decode b_M_putNumber 115 = .ok (.iload 4, 2) := by decide +kernel
theorem d_M_putNumber_117 : decode b_M_putNumber 117 = .ok (.ifCond .eq 13, 3) := by decide +kernel
theorem d_M_putNumber_120 : decode b_M_putNumber 120 = .ok (.aload_n 0, 1) := by decide +kernel
theorem d_M_putNumber_121 : decode b_M_putNumber 121 = .ok (.lload_n 2, 1) := by decide +kernel
theorem d_M_putNumber_122 : decode b_M_putNumber 122 = .ok (.bipush 7, 2) := by decide +kernel
theorem d_M_putNumber_124 : decode b_M_putNumber 124 = .ok (.invokevirtual 31, 3) := by decide +kernel
theorem d_M_putNumber_127 : decode b_M_putNumber 127 = .ok (.goto 33, 3) := by decide +kernel
theorem d_M_putNumber_130 : decode b_M_putNumber 130 = .ok (.iload_n 1, 1) := by decide +kernel
theorem d_M_putNumber_131 : decode b_M_putNumber 131 = .ok (.iconst 2, 1) := by decide +kernel
theorem d_M_putNumber_132 : decode b_M_putNumber 132 = .ok (.if_icmp .ne 9, 3) := by decide +kernel
theorem d_M_putNumber_135 : decode b_M_putNumber 135 = .ok (.aload_n 0, 1) := by decide +kernel
theorem d_M_putNumber_136 : decode b_M_putNumber 136 = .ok (.lconst 1, 1) := by decide +kernel
theorem d_M_putNumber_137 : decode b_M_putNumber 137 = .ok (.iconst 1, 1) := by decide +kernel
theorem d_M_putNumber_138 : decode b_M_putNumber 138 = .ok (.invokevirtual 31, 3) := by decide +kernel
theorem d_M_putNumber_141 : decode b_M_putNumber 141 = .ok (.aload_n 0, 1) := by decide +kernel
theorem d_M_putNumber_142 : decode b_M_putNumber 142 = .ok (.iload 5, 2) := by decide +kernel
theorem d_M_putNumber_144 : decode b_M_putNumber 144 = .ok (.i2l, 1) := by decide +kernel
theorem d_M_putNumber_145 : decode b_M_putNumber 145 = .ok (.bipush 8, 2) := by decide +kernel
theorem d_M_putNumber_147 : decode b_M_putNumber 147 = .ok (.invokevirtual 31, 3) := by decide +kernel
theorem d_M_putNumber_150 : decode b_M_putNumber 150 = .ok (.aload_n 0, 1) := by decide +kernel
theorem d_M_putNumber_151 : decode b_M_putNumber 151 = .ok (.lload_n 2, 1) := by decide +kernel
theorem d_M_putNumber_152 : decode b_M_putNumber 152 = .ok (.bipush 8, 2) := by decide +kernel
theorem d_M_putNumber_154 : decode b_M_putNumber 154 = .ok (.iload 5, 2) := by decide +kernel
theorem d_M_putNumber_156 : decode b_M_putNumber 156 = .ok (.imul, 1) := by decide +kernel
theorem d_M_putNumber_157 : decode b_M_putNumber 157 = .ok (.invokevirtual 31, 3) := by decide +kernel
theorem d_M_putNumber_160 : decode b_M_putNumber 160 = .ok (.aload_n 0, 1) := by decide +kernel
theorem d_M_putNumber_161 : decode b_M_putNumber 161 = .ok (.getfield 24, 3) := by decide +kernel
theorem d_M_putNumber_164 : decode b_M_putNumber 164 = .ok (.ireturn, 1) := by decide +kernel
theorem d_M_complement_0 : decode b_M_complement 0 = .ok (.iconst 1, 1) := by decide +kernel
theorem d_M_complement_1 : decode b_M_complement 1 = .ok (.istore_n 3, 1) := by decide +kernel
theorem d_M_complement_2 : decode b_M_complement 2 = .ok (.iload_n 3, 1) := by decide +kernel
theorem d_M_complement_3 : decode b_M_complement 3 = .ok (.bipush 8, 2) := by decide +kernel
theorem d_M_complement_5 : decode b_M_complement 5 = .ok (.if_icmp .ge 37, 3) := by decide +kernel
theorem d_M_complement_8 : decode b_M_complement 8 = .ok (.lload_n 1, 1) := by decide +kernel
theorem d_M_complement_9 : decode b_M_complement 9 = .ok (.bipush 8, 2) := by decide +kernel
theorem d_M_complement_11 : decode b_M_complement 11 = .ok (.iload_n 3, 1) := by decide +kernel
theorem d_M_complement_12 : decode b_M_complement 12 = .ok (.imul, 1) := by decide +kernel
theorem d_M_complement_13 : decode b_M_complement 13 = .ok (.iconst 1, 1) := by decide +kernel
theorem d_M_complement_14 : decode b_M_complement 14 = .ok (.isub, 1) := by decide +kernel
theorem d_M_complement_15 : decode b_M_complement 15 = .ok (.lshr, 1) := by decide +kernel
theorem d_M_complement_16 : decode b_M_complement 16 = .ok (.lconst 0, 1) := by decide +kernel
theorem d_M_complement_17 : decode b_M_complement 17 = .ok (.lcmp, 1) := by decide +kernel
theorem d_M_complement_18 : decode b_M_complement 18 = .ok (.ifCond .eq 24, 3) := by decide +kernel
theorem d_M_complement_21 : decode b_M_complement 21 = .ok (.lload_n 1, 1) := by decide +kernel
theorem d_M_complement_22 : decode b_M_complement 22 = .ok (.bipush 8, 2) := by decide +kernel
theorem d_M_complement_24 : decode b_M_complement 24 = .ok (.iload_n 3, 1) := by decide +kernel
theorem d_M_complement_25 : decode b_M_complement 25 = .ok (.imul, 1) := by decide +kernel
theorem d_M_complement_26 : decode b_M_complement 26 = .ok (.iconst 1, 1) := by decide +kernel
theorem d_M_complement_27 : decode b_M_complement 27 = .ok (.isub, 1) := by decide +kernel
theorem d_M_complement_28 : decode b_M_complement 28 = .ok (.lshr, 1) := by decide +kernel
theorem d_M_complement_29 : decode b_M_complement 29 = .ok (.ldc2_w 22, 3) := by decide +kernel
theorem d_M_complement_32 : decode b_M_complement 32 = .ok (.lcmp, 1) := by decide +kernel
theorem d_M_complement_33 : decode b_M_complement 33 = .ok (.ifCond .eq 9, 3) := by decide +kernel
theorem d_M_complement_36 : decode b_M_complement 36 = .ok (.iinc 3 1, 3) := by decide +kernel
theorem d_M_complement_39 : decode b_M_complement 39 = .ok (.goto (-37), 3) := by decide +kernel
theorem d_M_complement_42 : decode b_M_complement 42 = .ok (.iload_n 3, 1) := by decide +kernel
theorem d_M_complement_43 : decode b_M_complement 43 = .ok (.ireturn, 1) := by decide +kernel
theorem d_M_bytesOf_0 : decode b_M_bytesOf 0 = .ok (.aload_n 0, 1) := by decide +kernel
theorem d_M_bytesOf_1 : decode b_M_bytesOf 1 = .ok (.lload_n 1, 1) := by decide +kernel
theorem d_M_bytesOf_2 : decode b_M_bytesOf 2 = .ok (.invokevirtual 18, 3) := by decide +kernel
theorem d_M_bytesOf_5 : decode b_M_bytesOf 5 = .ok (.ifCond .ne 7, 3) := by decide +kernel
theorem d_M_bytesOf_8 : decode b_M_bytesOf 8 = .ok (.iconst 1, 1) := by decide +kernel
theorem d_M_bytesOf_9 : decode b_M_bytesOf 9 = .ok (.goto 14, 3) := by decide +kernel
theorem d_M_bytesOf_12 : decode b_M_bytesOf 12 = .ok (.aload_n 0, 1) := by decide +kernel
theorem d_M_bytesOf_13 : decode b_M_bytesOf 13 = .ok (.lload_n 1, 1) := by decide +kernel
theorem d_M_bytesOf_14 : decode b_M_bytesOf 14 = .ok (.invokevirtual 18, 3) := by decide +kernel
theorem d_M_bytesOf_17 : decode b_M_bytesOf 17 = .ok (.bipush 7, 2) := by decide +kernel
theorem d_M_bytesOf_19 : decode b_M_bytesOf 19 = .ok (.iadd, 1) := by decide +kernel
theorem d_M_bytesOf_20 : decode b_M_bytesOf 20 = .ok (.bipush 8, 2) := by decide +kernel
theorem d_M_bytesOf_22 : decode b_M_bytesOf 22 = .ok (.idiv, 1) := by decide +kernel
theorem d_M_bytesOf_23 : decode b_M_bytesOf 23 = .ok (.ireturn, 1) := by decide +kernel
theorem d_M_fill_0 : decode b_M_fill 0 = .ok (.aload_n 0, 1) := by decide +kernel
theorem d_M_fill_1 : decode b_M_fill 1 = .ok (.iconst 0, 1) := by decide +kernel
theorem d_M_fill_2 : decode b_M_fill 2 = .ok (.putfield 14, 3) := by decide +kernel
theorem d_M_fill_5 : decode b_M_fill 5 = .ok (.aload_n 0, 1) := by decide +kernel
theorem d_M_fill_6 : decode b_M_fill 6 = .ok (.getfield 24, 3) := by decide +kernel
theorem d_M_fill_9 : decode b_M_fill 9 = .ok (.ifCond .ne 8, 3) := by decide +kernel
theorem d_M_fill_12 : decode b_M_fill 12 = .ok (.bipush 8, 2) := by decide +kernel
theorem d_M_fill_14 : decode b_M_fill 14 = .ok (.goto 16, 3) := by decide +kernel
theorem d_M_fill_17 : decode b_M_fill 17 = .ok (.bipush 8, 2) := by decide +kernel
theorem d_M_fill_19 : decode b_M_fill 19 = .ok (.aload_n 0, 1) := by decide +kernel
theorem d_M_fill_20 : decode b_M_fill 20 = .ok (.getfield 24, 3) := by decide +kernel
theorem d_M_fill_23 : decode b_M_fill 23 = .ok (.bipush 8, 2) := by decide +kernel
theorem d_M_fill_25 : decode b_M_fill 25 = .ok (.irem, 1) := by decide +kernel
theorem d_M_fill_26 : decode b_M_fill 26 = .ok (.isub, 1) := by decide +kernel
theorem d_M_fill_27 : decode b_M_fill 27 = .ok (.bipush 8, 2) := by decide +kernel
theorem d_M_fill_29 : decode b_M_fill 29 = .ok (.irem, 1) := by decide +kernel
theorem d_M_fill_30 : decode b_M_fill 30 = .ok (.istore_n 1, 1) := by decide +kernel
theorem d_M_fill_31 : decode b_M_fill 31 = .ok (.aload_n 0, 1) := by decide +kernel
theorem d_M_fill_32 : decode b_M_fill 32 = .ok (.lconst 0, 1) := by decide +kernel
theorem d_M_fill_33 : decode b_M_fill 33 = .ok (.iload_n 1, 1) := by decide +kernel
theorem d_M_fill_34 : decode b_M_fill 34 = .ok (.iconst 1, 1) := by decide +kernel
theorem d_M_fill_35 : decode b_M_fill 35 = .ok (.invokevirtual 35, 3) := by decide +kernel
theorem d_M_fill_38 : decode b_M_fill 38 = .ok (.ireturn, 1) := by decide +kernel
theorem d_M_take_0 : decode b_M_take 0 = .ok (.aload_n 0, 1) := by decide +kernel
theorem d_M_take_1 : decode b_M_take 1 = .ok (.invokevirtual 67, 3) := by decide +kernel
theorem d_M_take_4 : decode b_M_take 4 = .ok (.iload_n 1, 1) := by decide +kernel
theorem d_M_take_5 : decode b_M_take 5 = .ok (.ifCond .lt 9, 3) := by decide +kernel
theorem d_M_take_8 : decode b_M_take 8 = .ok (.iload_n 1, 1) := by decide +kernel
theorem d_M_take_9 : decode b_M_take 9 = .ok (.bipush 64, 2) := by decide +kernel
theorem d_M_take_11 : decode b_M_take 11 = .ok (.if_icmp .le 10, 3) := by decide +kernel
theorem d_M_take_14 : decode b_M_take 14 = .ok (.aload_n 0, 1) := by decide +kernel
theorem d_M_take_15 : decode b_M_take 15 = .ok (.iconst 1, 1) := by decide +kernel
theorem d_M_take_16 : decode b_M_take 16 = .ok (.invokevirtual 27, 3) := by decide +kernel
theorem d_M_take_19 : decode b_M_take 19 = .ok (.i2l, 1) := by decide +kernel
theorem d_M_take_20 : decode b_M_take 20 = .ok (.lreturn, 1) := by decide +kernel
theorem d_M_take_21 : decode b_M_take 21 = .ok (.aload_n 0, 1) := by decide +kernel
theorem d_M_take_22 : decode b_M_take 22 = .ok (.aload_n 0, 1) := by decide +kernel
theorem d_M_take_23 : decode b_M_take 23 = .ok (.iload_n 1, 1) := by decide +kernel
theorem d_M_take_24 : decode b_M_take 24 = .ok (.invokevirtual 70, 3) := by decide +kernel
theorem d_M_take_27 : decode b_M_take 27 = .ok (.iconst 2, 1) := by decide +kernel
theorem d_M_take_28 : decode b_M_take 28 = .ok (.invokevirtual 74, 3) := by decide +kernel
theorem d_M_take_31 : decode b_M_take 31 = .ok (.lreturn, 1) := by decide +kernel
theorem d_M_begin_0 : decode b_M_begin 0 = .ok (.aload_n 0, 1) := by decide +kernel
theorem d_M_begin_1 : decode b_M_begin 1 = .ok (.iconst 0, 1) := by decide +kernel
theorem d_M_begin_2 : decode b_M_begin 2 = .ok (.putfield 14, 3) := by decide +kernel
theorem d_M_begin_5 : decode b_M_begin 5 = .ok (.aload_n 0, 1) := by decide +kernel
theorem d_M_begin_6 : decode b_M_begin 6 = .ok (.aload_n 0, 1) := by decide +kernel
theorem d_M_begin_7 : decode b_M_begin 7 = .ok (.getfield 64, 3) := by decide +kernel
theorem d_M_begin_10 : decode b_M_begin 10 = .ok (.putfield 57, 3) := by decide +kernel
theorem d_M_begin_13 : decode b_M_begin 13 = .ok (.aload_n 0, 1) := by decide +kernel
theorem d_M_begin_14 : decode b_M_begin 14 = .ok (.iconst 1, 1) := by decide +kernel
theorem d_M_begin_15 : decode b_M_begin 15 = .ok (.putfield 60, 3) := by decide +kernel
theorem d_M_begin_18 : decode b_M_begin 18 = .ok (.return_, 1) := by decide +kernel
theorem d_M_get_0 : decode b_M_get 0 = .ok (.aload_n 0, 1) := by decide +kernel
theorem d_M_get_1 : decode b_M_get 1 = .ok (.getfield 57, 3) := by decide +kernel
theorem d_M_get_4 : decode b_M_get 4 = .ok (.iload_n 1, 1) := by decide +kernel
theorem d_M_get_5 : decode b_M_get 5 = .ok (.iadd, 1) := by decide +kernel
theorem d_M_get_6 : decode b_M_get 6 = .ok (.aload_n 0, 1) := by decide +kernel
theorem d_M_get_7 : decode b_M_get 7 = .ok (.getfield 24, 3) := by decide +kernel
theorem d_M_get_10 : decode b_M_get 10 = .ok (.if_icmp .le 8, 3) := by decide +kernel
theorem d_M_get_13 : decode b_M_get 13 = .ok (.aload_n 0, 1) := by decide +kernel
theorem d_M_get_14 : decode b_M_get 14 = .ok (.iconst 0, 1) := by decide +kernel
theorem d_M_get_15 : decode b_M_get 15 = .ok (.putfield 60, 3) := by decide +kernel
theorem d_M_get_18 : decode b_M_get 18 = .ok (.lconst 0, 1) := by decide +kernel
theorem d_M_get_19 : decode b_M_get 19 = .ok (.lstore_n 2, 1) := by decide +kernel
theorem d_M_get_20 : decode b_M_get 20 = .ok (.iconst 0, 1) := by decide +kernel
theorem d_M_get_21 : decode b_M_get 21 = .ok (.istore 4, 2) := by decide +kernel
theorem d_M_get_23 : decode b_M_get 23 = .ok (.iload 4, 2) := by decide +kernel
theorem d_M_get_25 : decode b_M_get 25 = .ok (.iload_n 1, 1) := by decide +kernel
theorem d_M_get_26 : decode b_M_get 26 = .ok (.if_icmp .ge 48, 3) := by decide +kernel
theorem d_M_get_29 : decode b_M_get 29 = .ok (.aload_n 0, 1) := by decide +kernel
theorem d_M_get_30 : decode b_M_get 30 = .ok (.getfield 60, 3) := by decide +kernel
theorem d_M_get_33 : decode b_M_get 33 = .ok (.ifCond .eq 41, 3) := by decide +kernel
theorem d_M_get_36 : decode b_M_get 36 = .ok (.lload_n 2, 1) := by decide +kernel
theorem d_M_get_37 : decode b_M_get 37 = .ok (.iconst 1, 1) := by decide +kernel
theorem d_M_get_38 : decode b_M_get 38 = .ok (.lshl, 1) := by decide +kernel
theorem d_M_get_39 : decode b_M_get 39 = .ok (.aload_n 0, 1) := by decide +kernel
theorem d_M_get_40 : decode b_M_get 40 = .ok (.getfield 8, 3) := by decide +kernel
theorem d_M_get_43 : decode b_M_get 43 = .ok (.aload_n 0, 1) := by decide +kernel
theorem d_M_get_44 : decode b_M_get 44 = .ok (.getfield 57, 3) := by decide +kernel
theorem d_M_get_47 : decode b_M_get 47 = .ok (.baload, 1) := by decide +kernel
theorem d_M_get_48 : decode b_M_get 48 = .ok (.ifCond .eq 7, 3) := by decide +kernel
theorem d_M_get_51 : decode b_M_get 51 = .ok (.lconst 1, 1) := by decide +kernel
theorem d_M_get_52 : decode b_M_get 52 = .ok (.goto 4, 3) := by decide +kernel
theorem d_M_get_55 : decode b_M_get 55 = .ok (.lconst 0, 1) := by decide +kernel
theorem d_M_get_56 : decode b_M_get 56 = .ok (.lor, 1) := by decide +kernel
theorem d_M_get_57 : decode b_M_get 57 = .ok (.lstore_n 2, 1) := by decide +kernel
theorem d_M_get_58 : decode b_M_get 58 = .ok (.aload_n 0, 1) := by decide +kernel
theorem d_M_get_59 : decode b_M_get 59 = .ok (.dup, 1) := by decide +kernel
theorem d_M_get_60 : decode b_M_get 60 = .ok (.getfield 57, 3) := by decide +kernel
theorem d_M_get_63 : decode b_M_get 63 = .ok (.iconst 1, 1) := by decide +kernel
theorem d_M_get_64 : decode b_M_get 64 = .ok (.iadd, 1) := by decide +kernel
theorem d_M_get_65 : decode b_M_get 65 = .ok (.putfield 57, 3) := by decide +kernel
theorem d_M_get_68 : decode b_M_get 68 = .ok (.iinc 4 1, 3) := by decide +kernel
theorem d_M_get_71 : decode b_M_get 71 = .ok (.goto (-48), 3) := by decide +kernel
theorem d_M_get_74 : decode b_M_get 74 = .ok (.lload_n 2, 1) := by decide +kernel
theorem d_M_get_75 : decode b_M_get 75 = .ok (.lreturn, 1) := by decide +kernel
theorem d_M_done_0 : decode b_M_done 0 = .ok (.aload_n 0, 1) := by decide +kernel
theorem d_M_done_1 : decode b_M_done 1 = .ok (.getfield 60, 3) := by decide +kernel
theorem d_M_done_4 : decode b_M_done 4 = .ok (.ifCond .ne 10, 3) := by decide +kernel
theorem d_M_done_7 : decode b_M_done 7 = .ok (.aload_n 0, 1) := by decide +kernel
theorem d_M_done_8 : decode b_M_done 8 = .ok (.iload_n 3, 1) := by decide +kernel
theorem d_M_done_9 : decode b_M_done 9 = .ok (.invokevirtual 27, 3) := by decide +kernel
theorem d_M_done_12 : decode b_M_done 12 = .ok (.i2l, 1) := by decide +kernel
theorem d_M_done_13 : decode b_M_done 13 = .ok (.lreturn, 1) := by decide +kernel
theorem d_M_done_14 : decode b_M_done 14 = .ok (.aload_n 0, 1) := by decide +kernel
theorem d_M_done_15 : decode b_M_done 15 = .ok (.aload_n 0, 1) := by decide +kernel
theorem d_M_done_16 : decode b_M_done 16 = .ok (.getfield 57, 3) := by decide +kernel
theorem d_M_done_19 : decode b_M_done 19 = .ok (.putfield 64, 3) := by decide +kernel
theorem d_M_done_22 : decode b_M_done 22 = .ok (.lload_n 1, 1) := by decide +kernel
theorem d_M_done_23 : decode b_M_done 23 = .ok (.lreturn, 1) := by decide +kernel
theorem d_M_takeRange_0 : decode b_M_takeRange 0 = .ok (.aload_n 0, 1) := by decide +kernel
theorem d_M_takeRange_1 : decode b_M_takeRange 1 = .ok (.invokevirtual 67, 3) := by decide +kernel
theorem d_M_takeRange_4 : decode b_M_takeRange 4 = .ok (.lload_n 1, 1) := by decide +kernel
theorem d_M_takeRange_5 : decode b_M_takeRange 5 = .ok (.lload_n 3, 1) := by decide +kernel
theorem d_M_takeRange_6 : decode b_M_takeRange 6 = .ok (.lcmp, 1) := by decide +kernel
theorem d_M_takeRange_7 : decode b_M_takeRange 7 = .ok (.ifCond .le 10, 3) := by decide +kernel
theorem d_M_takeRange_10 : decode b_M_takeRange 10 = .ok (.aload_n 0, 1) := by decide +kernel
theorem d_M_takeRange_11 : decode b_M_takeRange 11 = .ok (.iconst 1, 1) := by decide +kernel
theorem d_M_takeRange_12 : decode b_M_takeRange 12 = .ok (.invokevirtual 27, 3) := by decide +kernel
theorem d_M_takeRange_15 : decode b_M_takeRange 15 = .ok (.i2l, 1) := by decide +kernel
theorem d_M_takeRange_16 : decode b_M_takeRange 16 = .ok (.lreturn, 1) := by decide +kernel
theorem d_M_takeRange_17 : decode b_M_takeRange 17 = .ok (.lload_n 3, 1) := by decide +kernel
theorem d_M_takeRange_18 : decode b_M_takeRange 18 = .ok (.lload_n 1, 1) := by decide +kernel
theorem d_M_takeRange_19 : decode b_M_takeRange 19 = .ok (.lsub, 1) := by decide +kernel
theorem d_M_takeRange_20 : decode b_M_takeRange 20 = .ok (.lstore 5, 2) := by decide +kernel
theorem d_M_takeRange_22 : decode b_M_takeRange 22 = .ok (.aload_n 0, 1) := by decide +kernel
theorem d_M_takeRange_23 : decode b_M_takeRange 23 = .ok (.aload_n 0, 1) := by decide +kernel
theorem d_M_takeRange_24 : decode b_M_takeRange 24 = .ok (.lload 5, 2) := by decide +kernel
theorem d_M_takeRange_26 : decode b_M_takeRange 26 = .ok (.invokevirtual 18, 3) := by decide +kernel
theorem d_M_takeRange_29 : decode b_M_takeRange 29 = .ok (.invokevirtual 70, 3) := by decide +kernel
theorem d_M_takeRange_32 : decode b_M_takeRange 32 = .ok (.lstore 7, 2) := by decide +kernel
theorem d_M_takeRange_34 : decode b_M_takeRange 34 = .ok (.lload 7, 2) := by decide +kernel
theorem d_M_takeRange_36 : decode b_M_takeRange 36 = .ok (.lconst 0, 1) := by decide +kernel
theorem d_M_takeRange_37 : decode b_M_takeRange 37 = .ok (.lcmp, 1) := by decide +kernel
theorem d_M_takeRange_38 : decode b_M_takeRange 38 = .ok (.ifCond .ge 21, 3) := by decide +kernel
theorem d_M_takeRange_41 : decode b_M_takeRange 41 = .ok (.lload 5, 2) := by decide +kernel
theorem d_M_takeRange_43 : decode b_M_takeRange 43 = .ok (.lconst 0, 1) := by decide +kernel
theorem d_M_takeRange_44 : decode b_M_takeRange 44 = .ok (.lcmp, 1) := by decide +kernel
theorem d_M_takeRange_45 : decode b_M_takeRange 45 = .ok (.ifCond .ge 29, 3) := by decide +kernel
theorem d_M_takeRange_48 : decode b_M_takeRange 48 = .ok (.lload 7, 2) := by decide +kernel
theorem d_M_takeRange_50 : decode b_M_takeRange 50 = .ok (.lload 5, 2) := by decide +kernel
theorem d_M_takeRange_52 : decode b_M_takeRange 52 = .ok (.lcmp, 1) := by decide +kernel
theorem d_M_takeRange_53 : decode b_M_takeRange 53 = .ok (.ifCond .le 26, 3) := by decide +kernel
theorem d_M_takeRange_56 : decode b_M_takeRange 56 = .ok (.goto 18, 3) := by decide +kernel
theorem d_M_takeRange_59 : decode b_M_takeRange 59 = .ok (.lload 5, 2) := by decide +kernel
theorem d_M_takeRange_61 : decode b_M_takeRange 61 = .ok (.lconst 0, 1) := by decide +kernel
theorem d_M_takeRange_62 : decode b_M_takeRange 62 = .ok (.lcmp, 1) := by decide +kernel
theorem d_M_takeRange_63 : decode b_M_takeRange 63 = .ok (.ifCond .lt 16, 3) := by decide +kernel
theorem d_M_takeRange_66 : decode b_M_takeRange 66 = .ok (.lload 7, 2) := by decide +kernel
theorem d_M_takeRange_68 : decode b_M_takeRange 68 = .ok (.lload 5, 2) := by decide +kernel
theorem d_M_takeRange_70 : decode b_M_takeRange 70 = .ok (.lcmp, 1) := by decide +kernel
theorem d_M_takeRange_71 : decode b_M_takeRange 71 = .ok (.ifCond .le 8, 3) := by decide +kernel
theorem d_M_takeRange_74 : decode b_M_takeRange 74 = .ok (.aload_n 0, 1) := by decide +kernel
theorem d_M_takeRange_75 : decode b_M_takeRange 75 = .ok (.iconst 0, 1) := by decide +kernel
theorem d_M_takeRange_76 : decode b_M_takeRange 76 = .ok (.putfield 60, 3) := by decide +kernel
theorem d_M_takeRange_79 : decode b_M_takeRange 79 = .ok (.aload_n 0, 1) := by decide +kernel
theorem d_M_takeRange_80 : decode b_M_takeRange 80 = .ok (.lload_n 1, 1) := by decide +kernel
theorem d_M_takeRange_81 : decode b_M_takeRange 81 = .ok (.lload 7, 2) := by decide +kernel
theorem d_M_takeRange_83 : decode b_M_takeRange 83 = .ok (.ladd, 1) := by decide +kernel
theorem d_M_takeRange_84 : decode b_M_takeRange 84 = .ok (.iconst 2, 1) := by decide +kernel
theorem d_M_takeRange_85 : decode b_M_takeRange 85 = .ok (.invokevirtual 74, 3) := by decide +kernel
theorem d_M_takeRange_88 : decode b_M_takeRange 88 = .ok (.lreturn, 1) := by decide +kernel
theorem d_M_takeLength_0 : decode b_M_takeLength 0 = .ok (.aload_n 0, 1) := by decide +kernel
theorem d_M_takeLength_1 : decode b_M_takeLength 1 = .ok (.invokevirtual 67, 3) := by decide +kernel
theorem d_M_takeLength_4 : decode b_M_takeLength 4 = .ok (.aload_n 0, 1) := by decide +kernel
theorem d_M_takeLength_5 : decode b_M_takeLength 5 = .ok (.aload_n 0, 1) := by decide +kernel
theorem d_M_takeLength_6 : decode b_M_takeLength 6 = .ok (.invokevirtual 78, 3) := by decide +kernel
theorem d_M_takeLength_9 : decode b_M_takeLength 9 = .ok (.i2l, 1) := by decide +kernel
theorem d_M_takeLength_10 : decode b_M_takeLength 10 = .ok (.iconst 1, 1) := by decide +kernel
theorem d_M_takeLength_11 : decode b_M_takeLength 11 = .ok (.invokevirtual 74, 3) := by decide +kernel
theorem d_M_takeLength_14 : decode b_M_takeLength 14 = .ok (.l2i, 1) := by decide +kernel
theorem d_M_takeLength_15 : decode b_M_takeLength 15 = .ok (.ireturn, 1) := by decide +kernel
theorem d_M_length_0 : decode b_M_length 0 = .ok (.aload_n 0, 1) := by decide +kernel
theorem d_M_length_1 : decode b_M_length 1 = .ok (.iconst 1, 1) := by decide +kernel
theorem d_M_length_2 : decode b_M_length 2 = .ok (.invokevirtual 70, 3) := by decide +kernel
theorem d_M_length_5 : decode b_M_length 5 = .ok (.lconst 0, 1) := by decide +kernel
theorem d_M_length_6 : decode b_M_length 6 = .ok (.lcmp, 1) := by decide +kernel
theorem d_M_length_7 : decode b_M_length 7 = .ok (.ifCond .ne 11, 3) := by decide +kernel
theorem d_M_length_10 : decode b_M_length 10 = .ok (.aload_n 0, 1) := by decide +kernel
theorem d_M_length_11 : decode b_M_length 11 = .ok (.bipush 7, 2) := by decide +kernel
theorem d_M_length_13 : decode b_M_length 13 = .ok (.invokevirtual 70, 3) := by decide +kernel
theorem d_M_length_16 : decode b_M_length 16 = .ok (.l2i, 1) := by decide +kernel
theorem d_M_length_17 : decode b_M_length 17 = .ok (.ireturn, 1) := by decide +kernel
theorem d_M_length_18 : decode b_M_length 18 = .ok (.aload_n 0, 1) := by decide +kernel
theorem d_M_length_19 : decode b_M_length 19 = .ok (.iconst 1, 1) := by decide +kernel
theorem d_M_length_20 : decode b_M_length 20 = .ok (.invokevirtual 70, 3) := by decide +kernel
theorem d_M_length_23 : decode b_M_length 23 = .ok (.lconst 0, 1) := by decide +kernel
theorem d_M_length_24 : decode b_M_length 24 = .ok (.lcmp, 1) := by decide +kernel
theorem d_M_length_25 : decode b_M_length 25 = .ok (.ifCond .ne 25, 3) := by decide +kernel
theorem d_M_length_28 : decode b_M_length 28 = .ok (.aload_n 0, 1) := by decide +kernel
theorem d_M_length_29 : decode b_M_length 29 = .ok (.bipush 14, 2) := by decide +kernel
theorem d_M_length_31 : decode b_M_length 31 = .ok (.invokevirtual 70, 3) := by decide +kernel
theorem d_M_length_34 : decode b_M_length 34 = .ok (.l2i, 1) := by decide +kernel
theorem d_M_length_35 : decode b_M_length 35 = .ok (.istore_n 1, 1) := by decide +kernel
theorem d_M_length_36 : decode b_M_length 36 = .ok (.iload_n 1, 1) := by decide +kernel
theorem d_M_length_37 : decode b_M_length 37 = .ok (.sipush 128, 3) := by decide +kernel
theorem d_M_length_40 : decode b_M_length 40 = .ok (.if_icmp .ge 8, 3) := by decide +kernel
theorem d_M_length_43 : decode b_M_length 43 = .ok (.aload_n 0, 1) := by decide +kernel
theorem d_M_length_44 : decode b_M_length 44 = .ok (.iconst 0, 1) := by decide +kernel
theorem d_M_length_45 : decode b_M_length 45 = .ok (.putfield 60, 3) := by decide +kernel
theorem d_M_length_48 : decode b_M_length 48 = .ok (.iload_n 1, 1) := by decide +kernel
theorem d_M_length_49 : decode b_M_length 49 = .ok (.ireturn, 1) := by decide +kernel
theorem d_M_length_50 : decode b_M_length 50 = .ok (.aload_n 0, 1) := by decide +kernel
theorem d_M_length_51 : decode b_M_length 51 = .ok (.bipush 6, 2) := by decide +kernel
theorem d_M_length_53 : decode b_M_length 53 = .ok (.invokevirtual 70, 3) := by decide +kernel
theorem d_M_length_56 : decode b_M_length 56 = .ok (.l2i, 1) := by decide +kernel
theorem d_M_length_57 : decode b_M_length 57 = .ok (.istore_n 1, 1) := by decide +kernel
theorem d_M_length_58 : decode b_M_length 58 = .ok (.iload_n 1, 1) := by decide +kernel
theorem d_M_length_59 : decode b_M_length 59 = .ok (.iconst 1, 1) := by decide +kernel
theorem d_M_length_60 : decode b_M_length 60 = .ok (.if_icmp .lt 8, 3) := by decide +kernel
theorem d_M_length_63 : decode b_M_length 63 = .ok (.iload_n 1, 1) := by decide +kernel
theorem d_M_length_64 : decode b_M_length 64 = .ok (.iconst 4, 1) := by decide +kernel
theorem d_M_length_65 : decode b_M_length 65 = .ok (.if_icmp .le 8, 3) := by decide +kernel
theorem d_M_length_68 : decode b_M_length 68 = .ok (.aload_n 0, 1) := by decide +kernel
theorem d_M_length_69 : decode b_M_length 69 = .ok (.iconst 0, 1) := by decide +kernel
theorem d_M_length_70 : decode b_M_length 70 = .ok (.putfield 60, 3) := by decide +kernel
theorem d_M_length_73 : decode b_M_length 73 = .ok (.sipush 16384, 3) := by decide +kernel
theorem d_M_length_76 : decode b_M_length 76 = .ok (.iload_n 1, 1) := by decide +kernel
theorem d_M_length_77 : decode b_M_length 77 = .ok (.imul, 1) := by decide +kernel
theorem d_M_length_78 : decode b_M_length 78 = .ok (.ireturn, 1) := by decide +kernel
theorem d_M_takeNumber_0 : decode b_M_takeNumber 0 = .ok (.aload_n 0, 1) := by decide +kernel
theorem d_M_takeNumber_1 : decode b_M_takeNumber 1 = .ok (.invokevirtual 67, 3) := by decide +kernel
theorem d_M_takeNumber_4 : decode b_M_takeNumber 4 = .ok (.iload_n 1, 1) := by decide +kernel
theorem d_M_takeNumber_5 : decode b_M_takeNumber 5 = .ok (.ifCond .lt 8, 3) := by decide +kernel
theorem d_M_takeNumber_8 : decode b_M_takeNumber 8 = .ok (.iload_n 1, 1) := by decide +kernel
theorem d_M_takeNumber_9 : decode b_M_takeNumber 9 = .ok (.iconst 2, 1) := by decide +kernel
theorem d_M_takeNumber_10 : decode b_M_takeNumber 10 = .ok (.if_icmp .le 10, 3) := by decide +kernel
theorem d_M_takeNumber_13 : decode b_M_takeNumber 13 = .ok (.aload_n 0, 1) := by decide +kernel
theorem d_M_takeNumber_14 : decode b_M_takeNumber 14 = .ok (.iconst 1, 1) := by decide +kernel
theorem d_M_takeNumber_15 : decode b_M_takeNumber 15 = .ok (.invokevirtual 27, 3) := by decide +kernel
theorem d_M_takeNumber_18 : decode b_M_takeNumber 18 = .ok (.i2l, 1) := by decide +kernel
theorem d_M_takeNumber_19 : decode b_M_takeNumber 19 = .ok (.lreturn, 1) := by decide +kernel
theorem d_M_takeNumber_20 : decode b_M_takeNumber 20 = .ok (.iload_n 1, 1) := by decide +kernel
theorem d_M_takeNumber_21 : decode b_M_takeNumber 21 = .ok (.iconst 2, 1) := by decide +kernel
theorem d_M_takeNumber_22 : decode b_M_takeNumber 22 = .ok (.if_icmp .ne 25, 3) := by decide +kernel
theorem d_M_takeNumber_25 : decode b_M_takeNumber 25 = .ok (.aload_n 0, 1) := by decide +kernel
theorem d_M_takeNumber_26 : decode b_M_takeNumber 26 = .ok (.iconst 1, 1) := by decide +kernel
theorem d_M_takeNumber_27 : decode b_M_takeNumber 27 = .ok (.invokevirtual 70, 3) := by decide +kernel
theorem d_M_takeNumber_30 : decode b_M_takeNumber 30 = .ok (.lconst 0, 1) := by decide +kernel
theorem d_M_takeNumber_31 : decode b_M_takeNumber 31 = .ok (.lcmp, 1) := by decide +kernel
theorem d_M_takeNumber_32 : decode b_M_takeNumber 32 = .ok (.ifCond .ne 15, 3) := by decide +kernel
theorem d_M_takeNumber_35 : decode b_M_takeNumber 35 = .ok (.aload_n 0, 1) := by decide +kernel
theorem d_M_takeNumber_36 : decode b_M_takeNumber 36 = .ok (.aload_n 0, 1) := by decide +kernel
theorem d_M_takeNumber_37 : decode b_M_takeNumber 37 = .ok (.bipush 6, 2) := by decide +kernel
theorem d_M_takeNumber_39 : decode b_M_takeNumber 39 = .ok (.invokevirtual 70, 3) := by decide +kernel
theorem d_M_takeNumber_42 : decode b_M_takeNumber 42 = .ok (.iconst 2, 1) := by decide +kernel
theorem d_M_takeNumber_43 : decode b_M_takeNumber 43 = .ok (.invokevirtual 74, 3) := by decide +kernel
theorem d_M_takeNumber_46 : decode b_M_takeNumber 46 = .ok (.lreturn, 1) := by decide +kernel
theorem d_M_takeNumber_47 : decode b_M_takeNumber 47 = .ok (.aload_n 0, 1) := by decide +kernel
theorem d_M_takeNumber_48 : decode b_M_takeNumber 48 = .ok (.invokevirtual 78, 3) := by decide +kernel
theorem d_M_takeNumber_51 : decode b_M_takeNumber 51 = .ok (.istore_n 2, 1) := by decide +kernel
theorem d_M_takeNumber_52 : decode b_M_takeNumber 52 = .ok (.iload_n 2, 1) := by decide +kernel
theorem d_M_takeNumber_53 : decode b_M_takeNumber 53 = .ok (.iconst 1, 1) := by decide +kernel
theorem d_M_takeNumber_54 : decode b_M_takeNumber 54 = .ok (.if_icmp .lt 9, 3) := by decide +kernel
theorem d_M_takeNumber_57 : decode b_M_takeNumber 57 = .ok (.iload_n 2, 1) := by decide +kernel
theorem d_M_takeNumber_58 : decode b_M_takeNumber 58 = .ok (.bipush 8, 2) := by decide +kernel
theorem d_M_takeNumber_60 : decode b_M_takeNumber 60 = .ok (.if_icmp .le 8, 3) := by decide +kernel
theorem d_M_takeNumber_63 : decode b_M_takeNumber 63 = .ok (.aload_n 0, 1) := by decide +kernel
theorem d_M_takeNumber_64 : decode b_M_takeNumber 64 = .ok (.iconst 0, 1) := by decide +kernel
theorem d_M_takeNumber_65 : decode b_M_takeNumber 65 = .ok (.putfield 60, 3) := by decide +kernel
theorem d_M_takeNumber_68 : decode b_M_takeNumber 68 = .ok (.aload_n 0, 1) := by decide +kernel
theorem d_M_takeNumber_69 : decode b_M_takeNumber 69 = .ok (.getfield 60, 3) := by decide +kernel
theorem d_M_takeNumber_72 : decode b_M_takeNumber 72 = .ok (.ifCond .ne 10, 3) := by decide +kernel
theorem d_M_takeNumber_75 : decode b_M_takeNumber 75 = .ok (.aload_n 0, 1) := by decide +kernel
theorem d_M_takeNumber_76 : decode b_M_takeNumber 76 = .ok (.iconst 2, 1) := by decide +kernel
theorem d_M_takeNumber_77 : decode b_M_takeNumber 77 = .ok (.invokevirtual 27, 3) := by decide +kernel
theorem d_M_takeNumber_80 : decode b_M_takeNumber 80 = .ok (.i2l, 1) := by decide +kernel
theorem d_M_takeNumber_81 : decode b_M_takeNumber 81 = .ok (.lreturn, 1) := by decide +kernel
theorem d_M_takeNumber_82 : decode b_M_takeNumber 82 = .ok (.aload_n 0, 1) := by decide +kernel
theorem d_M_takeNumber_83 : decode b_M_takeNumber 83 = .ok (.bipush 8, 2) := by decide +kernel
theorem d_M_takeNumber_85 : decode b_M_takeNumber 85 = .ok (.iload_n 2, 1) := by decide +kernel
theorem d_M_takeNumber_86 : decode b_M_takeNumber 86 = .ok (.imul, 1) := by decide +kernel
theorem d_M_takeNumber_87 : decode b_M_takeNumber 87 = .ok (.invokevirtual 70, 3) := by decide +kernel
theorem d_M_takeNumber_90 : decode b_M_takeNumber 90 = .ok (.lstore_n 3, 1) := by decide +kernel
theorem d_M_takeNumber_91 : decode b_M_takeNumber 91 = .ok (.iload_n 1, 1) := by decide +kernel
theorem d_M_takeNumber_92 : decode b_M_takeNumber 92 = .ok (.iconst 1, 1) := by decide +kernel
theorem d_M_takeNumber_93 : decode b_M_takeNumber 93 = .ok (.if_icmp .ne 21, 3) := by decide +kernel
theorem d_M_takeNumber_96 : decode b_M_takeNumber 96 = .ok (.lload_n 3, 1) := by decide +kernel
theorem d_M_takeNumber_97 : decode b_M_takeNumber 97 = .ok (.bipush 64, 2) := by decide +kernel
theorem d_M_takeNumber_99 : decode b_M_takeNumber 99 = .ok (.bipush 8, 2) := by decide +kernel
theorem d_M_takeNumber_101 : decode b_M_takeNumber 101 = .ok (.iload_n 2, 1) := by decide +kernel
theorem d_M_takeNumber_102 : decode b_M_takeNumber 102 = .ok (.imul, 1) := by decide +kernel
theorem d_M_takeNumber_103 : decode b_M_takeNumber 103 = .ok (.isub, 1) := by decide +kernel
theorem d_M_takeNumber_104 : decode b_M_takeNumber 104 = .ok (.lshl, 1) := by decide +kernel
theorem d_M_takeNumber_105 : decode b_M_takeNumber 105 = .ok (.bipush 64, 2) := by decide +kernel
theorem d_M_takeNumber_107 : decode b_M_takeNumber 107 = .ok (.bipush 8, 2) := by decide +kernel
theorem d_M_takeNumber_109 : decode b_M_takeNumber 109 = .ok (.iload_n 2, 1) := by decide +kernel
theorem d_M_takeNumber_110 : decode b_M_takeNumber 110 = .ok (.imul, 1) := by decide +kernel
theorem d_M_takeNumber_111 : decode b_M_takeNumber 111 = .ok (.isub, 1) := by decide +kernel
theorem d_M_takeNumber_112 : decode b_M_takeNumber 112 = .ok (.lshr, 1) := by decide +kernel
theorem d_M_takeNumber_113 : decode b_M_takeNumber 113 = .ok (.lstore_n 3, 1) := by decide +kernel
theorem d_M_takeNumber_114 : decode b_M_takeNumber 114 = .ok (.iload_n 2, 1) := by decide +kernel
theorem d_M_takeNumber_115 : decode b_M_takeNumber 115 = .ok (.iload_n 1, 1) := by decide +kernel
theorem d_M_takeNumber_116 : decode b_M_takeNumber 116 = .ok (.iconst 1, 1) := by decide +kernel
theorem d_M_takeNumber_117 : decode b_M_takeNumber 117 = .ok (.if_icmp .ne 11, 3) := by decide +kernel
theorem d_M_takeNumber_120 : decode b_M_takeNumber 120 = .ok (.aload_n 0, 1) := by decide +kernel
theorem d_M_takeNumber_121 : decode b_M_takeNumber 121 = .ok (.lload_n 3, 1) := by decide +kernel
theorem d_M_takeNumber_122 : decode b_M_takeNumber 122 = .ok (.invokevirtual 51, 3) := by decide +kernel
theorem d_M_takeNumber_125 : decode b_M_takeNumber 125 = .ok (.goto 8, 3) := by decide +kernel
theorem d_M_takeNumber_128 : decode b_M_takeNumber 128 = .ok (.aload_n 0, 1) := by decide +kernel
theorem d_M_takeNumber_129 : decode b_M_takeNumber 129 = .ok (.lload_n 3, 1) := by decide +kernel
theorem d_M_takeNumber_130 : decode b_M_takeNumber 130 = .ok (.invokevirtual 54, 3) := by decide +kernel
theorem d_M_takeNumber_133 : decode b_M_takeNumber 133 = .ok (.if_icmp .ne 22, 3) := by decide +kernel
theorem d_M_takeNumber_136 : decode b_M_takeNumber 136 = .ok (.iload_n 1, 1) := by decide +kernel
theorem d_M_takeNumber_137 : decode b_M_takeNumber 137 = .ok (.iconst 2, 1) := by decide +kernel
theorem d_M_takeNumber_138 : decode b_M_takeNumber 138 = .ok (.if_icmp .ne 22, 3) := by decide +kernel
theorem d_M_takeNumber_141 : decode b_M_takeNumber 141 = .ok (.lload_n 3, 1) := by decide +kernel
theorem d_M_takeNumber_142 : decode b_M_takeNumber 142 = .ok (.lconst 0, 1) := by decide +kernel
theorem d_M_takeNumber_143 : decode b_M_takeNumber 143 = .ok (.lcmp, 1) := by decide +kernel
theorem d_M_takeNumber_144 : decode b_M_takeNumber 144 = .ok (.ifCond .lt 16, 3) := by decide +kernel
theorem d_M_takeNumber_147 : decode b_M_takeNumber 147 = .ok (.lload_n 3, 1) := by decide +kernel
theorem d_M_takeNumber_148 : decode b_M_takeNumber 148 = .ok (.ldc2_w 49, 3) := by decide +kernel
theorem d_M_takeNumber_151 : decode b_M_takeNumber 151 = .ok (.lcmp, 1) := by decide +kernel
theorem d_M_takeNumber_152 : decode b_M_takeNumber 152 = .ok (.ifCond .ge 8, 3) := by decide +kernel
theorem d_M_takeNumber_155 : decode b_M_takeNumber 155 = .ok (.aload_n 0, 1) := by decide +kernel
theorem d_M_takeNumber_156 : decode b_M_takeNumber 156 = .ok (.iconst 0, 1) := by decide +kernel
theorem d_M_takeNumber_157 : decode b_M_takeNumber 157 = .ok (.putfield 60, 3) := by decide +kernel
theorem d_M_takeNumber_160 : decode b_M_takeNumber 160 = .ok (.aload_n 0, 1) := by decide +kernel
theorem d_M_takeNumber_161 : decode b_M_takeNumber 161 = .ok (.lload_n 3, 1) := by decide +kernel
theorem d_M_takeNumber_162 : decode b_M_takeNumber 162 = .ok (.iconst 2, 1) := by decide +kernel
theorem d_M_takeNumber_163 : decode b_M_takeNumber 163 = .ok (.invokevirtual 74, 3) := by decide +kernel
theorem d_M_takeNumber_166 : decode b_M_takeNumber 166 = .ok (.lreturn, 1) := by decide +kernel
theorem d_M_go_0 : decode b_M_go 0 = .ok (.aload_n 0, 1) := by decide +kernel
theorem d_M_go_1 : decode b_M_go 1 = .ok (.iconst 0, 1) := by decide +kernel
theorem d_M_go_2 : decode b_M_go 2 = .ok (.putfield 14, 3) := by decide +kernel
theorem d_M_go_5 : decode b_M_go 5 = .ok (.iload_n 1, 1) := by decide +kernel
theorem d_M_go_6 : decode b_M_go 6 = .ok (.ifCond .lt 11, 3) := by decide +kernel
theorem d_M_go_9 : decode b_M_go 9 = .ok (.iload_n 1, 1) := by decide +kernel
theorem d_M_go_10 : decode b_M_go 10 = .ok (.aload_n 0, 1) := by decide +kernel
theorem d_M_go_11 : decode b_M_go 11 = .ok (.getfield 24, 3) := by decide +kernel
theorem d_M_go_14 : decode b_M_go 14 = .ok (.if_icmp .le 9, 3) := by decide +kernel
theorem d_M_go_17 : decode b_M_go 17 = .ok (.aload_n 0, 1) := by decide +kernel
theorem d_M_go_18 : decode b_M_go 18 = .ok (.iconst 1, 1) := by decide +kernel
theorem d_M_go_19 : decode b_M_go 19 = .ok (.invokevirtual 27, 3) := by decide +kernel
theorem d_M_go_22 : decode b_M_go 22 = .ok (.ireturn, 1) := by decide +kernel
theorem d_M_go_23 : decode b_M_go 23 = .ok (.aload_n 0, 1) := by decide +kernel
theorem d_M_go_24 : decode b_M_go 24 = .ok (.getfield 64, 3) := by decide +kernel
theorem d_M_go_27 : decode b_M_go 27 = .ok (.istore_n 2, 1) := by decide +kernel
theorem d_M_go_28 : decode b_M_go 28 = .ok (.aload_n 0, 1) := by decide +kernel
theorem d_M_go_29 : decode b_M_go 29 = .ok (.iload_n 1, 1) := by decide +kernel
theorem d_M_go_30 : decode b_M_go 30 = .ok (.putfield 64, 3) := by decide +kernel
theorem d_M_go_33 : decode b_M_go 33 = .ok (.iload_n 2, 1) := by decide +kernel
theorem d_M_go_34 : decode b_M_go 34 = .ok (.ireturn, 1) := by decide +kernel
theorem d_M_turn_0 : decode b_M_turn 0 = .ok (.aload_n 0, 1) := by decide +kernel
theorem d_M_turn_1 : decode b_M_turn 1 = .ok (.iconst 0, 1) := by decide +kernel
theorem d_M_turn_2 : decode b_M_turn 2 = .ok (.putfield 14, 3) := by decide +kernel
theorem d_M_turn_5 : decode b_M_turn 5 = .ok (.iload_n 1, 1) := by decide +kernel
theorem d_M_turn_6 : decode b_M_turn 6 = .ok (.ifCond .lt 11, 3) := by decide +kernel
theorem d_M_turn_9 : decode b_M_turn 9 = .ok (.iload_n 1, 1) := by decide +kernel
theorem d_M_turn_10 : decode b_M_turn 10 = .ok (.aload_n 0, 1) := by decide +kernel
theorem d_M_turn_11 : decode b_M_turn 11 = .ok (.getfield 24, 3) := by decide +kernel
theorem d_M_turn_14 : decode b_M_turn 14 = .ok (.if_icmp .lt 17, 3) := by decide +kernel
theorem d_M_turn_17 : decode b_M_turn 17 = .ok (.aload_n 0, 1) := by decide +kernel
theorem d_M_turn_18 : decode b_M_turn 18 = .ok (.iconst 1, 1) := by decide +kernel
theorem d_M_turn_19 : decode b_M_turn 19 = .ok (.invokevirtual 27, 3) := by decide +kernel
theorem d_M_turn_22 : decode b_M_turn 22 = .ok (.ifCond .le 7, 3) := by decide +kernel
theorem d_M_turn_25 : decode b_M_turn 25 = .ok (.iconst 1, 1) := by decide +kernel
theorem d_M_turn_26 : decode b_M_turn 26 = .ok (.goto 4, 3) := by decide +kernel
theorem d_M_turn_29 : decode b_M_turn 29 = .ok (.iconst 0, 1) := by decide +kernel
theorem d_M_turn_30 : decode b_M_turn 30 = .ok (.ireturn, 1) := by decide +kernel
theorem d_M_turn_31 : decode b_M_turn 31 = .ok (.aload_n 0, 1) := by decide +kernel
theorem d_M_turn_32 : decode b_M_turn 32 = .ok (.getfield 8, 3) := by decide +kernel
theorem d_M_turn_35 : decode b_M_turn 35 = .ok (.iload_n 1, 1) := by decide +kernel
theorem d_M_turn_36 : decode b_M_turn 36 = .ok (.aload_n 0, 1) := by decide +kernel
theorem d_M_turn_37 : decode b_M_turn 37 = .ok (.getfield 8, 3) := by decide +kernel
theorem d_M_turn_40 : decode b_M_turn 40 = .ok (.iload_n 1, 1) := by decide +kernel
theorem d_M_turn_41 : decode b_M_turn 41 = .ok (.baload, 1) := by decide +kernel
theorem d_M_turn_42 : decode b_M_turn 42 = .ok (.ifCond .ne 7, 3) := by decide +kernel
theorem d_M_turn_45 : decode b_M_turn 45 = .ok (.iconst 1, 1) := by decide +kernel
theorem d_M_turn_46 : decode b_M_turn 46 = .ok (.goto 4, 3) := by decide +kernel
theorem d_M_turn_49 : decode b_M_turn 49 = .ok (.iconst 0, 1) := by decide +kernel
theorem d_M_turn_50 : decode b_M_turn 50 = .ok (.bastore, 1) := by decide +kernel
theorem d_M_turn_51 : decode b_M_turn 51 = .ok (.aload_n 0, 1) := by decide +kernel
theorem d_M_turn_52 : decode b_M_turn 52 = .ok (.getfield 8, 3) := by decide +kernel
theorem d_M_turn_55 : decode b_M_turn 55 = .ok (.iload_n 1, 1) := by decide +kernel
theorem d_M_turn_56 : decode b_M_turn 56 = .ok (.baload, 1) := by decide +kernel
theorem d_M_turn_57 : decode b_M_turn 57 = .ok (.ireturn, 1) := by decide +kernel
theorem d_M_cut_0 : decode b_M_cut 0 = .ok (.aload_n 0, 1) := by decide +kernel
theorem d_M_cut_1 : decode b_M_cut 1 = .ok (.iconst 0, 1) := by decide +kernel
theorem d_M_cut_2 : decode b_M_cut 2 = .ok (.putfield 14, 3) := by decide +kernel
theorem d_M_cut_5 : decode b_M_cut 5 = .ok (.iload_n 1, 1) := by decide +kernel
theorem d_M_cut_6 : decode b_M_cut 6 = .ok (.ifCond .lt 11, 3) := by decide +kernel
theorem d_M_cut_9 : decode b_M_cut 9 = .ok (.iload_n 1, 1) := by decide +kernel
theorem d_M_cut_10 : decode b_M_cut 10 = .ok (.aload_n 0, 1) := by decide +kernel
theorem d_M_cut_11 : decode b_M_cut 11 = .ok (.getfield 24, 3) := by decide +kernel
theorem d_M_cut_14 : decode b_M_cut 14 = .ok (.if_icmp .le 9, 3) := by decide +kernel
theorem d_M_cut_17 : decode b_M_cut 17 = .ok (.aload_n 0, 1) := by decide +kernel
theorem d_M_cut_18 : decode b_M_cut 18 = .ok (.iconst 1, 1) := by decide +kernel
theorem d_M_cut_19 : decode b_M_cut 19 = .ok (.invokevirtual 27, 3) := by decide +kernel
theorem d_M_cut_22 : decode b_M_cut 22 = .ok (.ireturn, 1) := by decide +kernel
theorem d_M_cut_23 : decode b_M_cut 23 = .ok (.aload_n 0, 1) := by decide +kernel
theorem d_M_cut_24 : decode b_M_cut 24 = .ok (.getfield 24, 3) := by decide +kernel
theorem d_M_cut_27 : decode b_M_cut 27 = .ok (.istore_n 2, 1) := by decide +kernel
theorem d_M_cut_28 : decode b_M_cut 28 = .ok (.aload_n 0, 1) := by decide +kernel
theorem d_M_cut_29 : decode b_M_cut 29 = .ok (.iload_n 1, 1) := by decide +kernel
theorem d_M_cut_30 : decode b_M_cut 30 = .ok (.putfield 24, 3) := by decide +kernel
theorem d_M_cut_33 : decode b_M_cut 33 = .ok (.aload_n 0, 1) := by decide +kernel
theorem d_M_cut_34 : decode b_M_cut 34 = .ok (.aload_n 0, 1) := by decide +kernel
theorem d_M_cut_35 : decode b_M_cut 35 = .ok (.getfield 64, 3) := by decide +kernel
theorem d_M_cut_38 : decode b_M_cut 38 = .ok (.iload_n 1, 1) := by decide +kernel
theorem d_M_cut_39 : decode b_M_cut 39 = .ok (.invokestatic 39, 3) := by decide +kernel
theorem d_M_cut_42 : decode b_M_cut 42 = .ok (.putfield 64, 3) := by decide +kernel
theorem d_M_cut_45 : decode b_M_cut 45 = .ok (.iload_n 2, 1) := by decide +kernel
theorem d_M_cut_46 : decode b_M_cut 46 = .ok (.ireturn, 1) := by decide +kernel
theorem d_M_count_0 : decode b_M_count 0 = .ok (.aload_n 0, 1) := by decide +kernel
theorem d_M_count_1 : decode b_M_count 1 = .ok (.iconst 0, 1) := by decide +kernel
theorem d_M_count_2 : decode b_M_count 2 = .ok (.putfield 14, 3) := by decide +kernel
theorem d_M_count_5 : decode b_M_count 5 = .ok (.iload_n 1, 1) := by decide +kernel
theorem d_M_count_6 : decode b_M_count 6 = .ok (.ifCond .ne 10, 3) := by decide +kernel
theorem d_M_count_9 : decode b_M_count 9 = .ok (.aload_n 0, 1) := by decide +kernel
theorem d_M_count_10 : decode b_M_count 10 = .ok (.getfield 24, 3) := by decide +kernel
theorem d_M_count_13 : decode b_M_count 13 = .ok (.goto 20, 3) := by decide +kernel
theorem d_M_count_16 : decode b_M_count 16 = .ok (.iload_n 1, 1) := by decide +kernel
theorem d_M_count_17 : decode b_M_count 17 = .ok (.iconst 1, 1) := by decide +kernel
theorem d_M_count_18 : decode b_M_count 18 = .ok (.if_icmp .ne 10, 3) := by decide +kernel
theorem d_M_count_21 : decode b_M_count 21 = .ok (.aload_n 0, 1) := by decide +kernel
theorem d_M_count_22 : decode b_M_count 22 = .ok (.getfield 64, 3) := by decide +kernel
theorem d_M_count_25 : decode b_M_count 25 = .ok (.goto 8, 3) := by decide +kernel
theorem d_M_count_28 : decode b_M_count 28 = .ok (.aload_n 0, 1) := by decide +kernel
theorem d_M_count_29 : decode b_M_count 29 = .ok (.iconst 1, 1) := by decide +kernel
theorem d_M_count_30 : decode b_M_count 30 = .ok (.invokevirtual 27, 3) := by decide +kernel
theorem d_M_count_33 : decode b_M_count 33 = .ok (.ireturn, 1) := by decide +kernel
end
section
/-! The reference: its world, and its small methods. -/
section XL20
def xz (β : Nat → Bool) : Nat → Int32 := fun j => if β j = true then 1 else 0
theorem xz_n (β : Nat → Bool) (j : Nat) : xz β j = nI (β j).toNat := by
  unfold xz
  cases β j <;> rfl
abbrev xqM (b r : Nat) (cZ : ClassId) (β : Nat → Bool) (n q : Nat) (fa : Int32) (rd : Nat) (gd : Bool) : va_W := [(b, .inr (1, [.int fa, .ref r, .int (nI n), .int (nI q), .int (nI rd), .int (nI gd.toNat)])), (r, .inl (cZ, 65536, .inl (xz β)))]
/-- the reference at b, its booleans at r -/
def PM (D : va_G) (b r : Nat) (cZ : ClassId) (β : Nat → Bool) (n q : Nat) (fa : Int32) (rd : Nat) (gd : Bool) (H : Heap) : Prop := va_P D xcl (xqM b r cZ β n q fa rd gd) H
def wM (D : va_G) (b r : Nat) (cJ cZ : ClassId) (β : Nat → Bool) (n q : Nat) (fa : Int32) (rd : Nat) (gd : Bool) (U : State) : Prop := PM D b r cZ β n q fa rd gd U.heap ∧ va_K D xcl (xty cJ cZ) U
theorem PM.kept {D : va_G} {b r : Nat} {cZ : ClassId} {β : Nat → Bool} {n q : Nat} {fa : Int32} {rd : Nat} {gd : Bool} {H H1 : Heap} (h : PM D b r cZ β n q fa rd gd H) (ha : H1[b]? = H[b]?) (hw : H1[r]? = H[r]?) : PM D b r cZ β n q fa rd gd H1 := by
  refine va_P.kept h (fun k z hk => ?_)
  match k with
  | 0 => cases Option.some.inj hk; exact ha
  | 1 => cases Option.some.inj hk; exact hw
  | k + 2 => cases hk
theorem wM.call {D : va_G} {b r : Nat} {cJ cZ : ClassId} {β : Nat → Bool} {n q : Nat} {fa : Int32} {rd : Nat} {gd : Bool} {s : State} {H : Heap} (hP : PM D b r cZ β n q fa rd gd H) (hK : va_K D xcl (xty cJ cZ) s) :
    (∀ U : State, U.heap = H → s.WarmedH U.vm → wM D b r cJ cZ β n q fa rd gd U) ∧ ∀ (U : State) (g : JFrame) (mk : MethodId) (z : Array Value), wM D b r cJ cZ β n q fa rd gd U → wM D b r cJ cZ β n q fa rd gd (U.calling g mk z) :=
  ⟨fun U hU hW => ⟨by rw [hU]; exact hP, va_K.moved hW.alike hK⟩, fun U g mk z h => ⟨h.1, va_K.moved (u := U) (U := U.calling g mk z) (Vm.Alike.refl U.vm) h.2⟩⟩
theorem PM.recv {D : va_G} {b r : Nat} {cJ cZ : ClassId} {β : Nat → Bool} {n q : Nat} {fa : Int32} {rd : Nat} {gd : Bool} {s : State} {H : Heap} (hP : PM D b r cZ β n q fa rd gd H) (hK : va_K D xcl (xty cJ cZ) s) : ∃ cell : Cell, H[b]? = some cell ∧ cell.vm.isStatics = false ∧ s.vm.findClass R_M = some cell.cls :=
  va_recv hK hP (ci := 1) (q0 := 0) rfl rfl
variable {p : Program} {l : Launch} {e : Env} {R : Room} {s : State} {m : MethodId} {args : Array Value} {below : List Frame} {meth : Method} {c : Code} {H : Heap} {locs : List Loc} {cells slots : Nat} {Q : State → Prop}
variable {cc : ByteArray} {nL : Nat} {pc : Nat} {ls : Array Slot} {rest : List Value} {D : va_G} {b r : Nat} {cJ cZ : ClassId} {β : Nat → Bool} {n q : Nat} {fa : Int32} {rd : Nat} {gd : Bool}
theorem gm_failed (E : CallFix p m c cc nL s args XT R_M) (hK : va_K D xcl (xty cJ cZ) s) (hP : PM D b r cZ β n q fa rd gd H) (hdg : decode cc pc = .ok (.getfield im_failed, 3)) (k : W p l e R s m args below meth c H locs cells slots Q (F0 m (pc + 3) ls (.int fa :: rest))) : W p l e R s m args below meth c H locs cells slots Q (F0 m pc ls (.ref b :: rest)) :=
  va_get (D := D) (ci := 1) (v := .int fa) (C := R_M) (T := F_M) (N := 6) E.1 E.2.1 E.2.2.2.2 in_M E.2.2.2.1 hK hP 0 rfl rfl 0 (by decide) (E.2.2.2.2 _ fl_M_failed) (fun _ h => h) rfl hdg k
theorem gm_row (E : CallFix p m c cc nL s args XT R_M) (hK : va_K D xcl (xty cJ cZ) s) (hP : PM D b r cZ β n q fa rd gd H) (hdg : decode cc pc = .ok (.getfield im_row, 3)) (k : W p l e R s m args below meth c H locs cells slots Q (F0 m (pc + 3) ls (.ref r :: rest))) : W p l e R s m args below meth c H locs cells slots Q (F0 m pc ls (.ref b :: rest)) :=
  va_get (D := D) (ci := 1) (v := .ref r) (C := R_M) (T := F_M) (N := 6) E.1 E.2.1 E.2.2.2.2 in_M E.2.2.2.1 hK hP 0 rfl rfl 1 (by decide) (E.2.2.2.2 _ fl_M_row) (fun _ h => h) rfl hdg k
theorem gm_size (E : CallFix p m c cc nL s args XT R_M) (hK : va_K D xcl (xty cJ cZ) s) (hP : PM D b r cZ β n q fa rd gd H) (hdg : decode cc pc = .ok (.getfield im_size, 3)) (k : W p l e R s m args below meth c H locs cells slots Q (F0 m (pc + 3) ls (.int (nI n) :: rest))) : W p l e R s m args below meth c H locs cells slots Q (F0 m pc ls (.ref b :: rest)) :=
  va_get (D := D) (ci := 1) (v := .int (nI n)) (C := R_M) (T := F_M) (N := 6) E.1 E.2.1 E.2.2.2.2 in_M E.2.2.2.1 hK hP 0 rfl rfl 2 (by decide) (E.2.2.2.2 _ fl_M_size) (fun _ h => h) rfl hdg k
theorem gm_place (E : CallFix p m c cc nL s args XT R_M) (hK : va_K D xcl (xty cJ cZ) s) (hP : PM D b r cZ β n q fa rd gd H) (hdg : decode cc pc = .ok (.getfield im_place, 3)) (k : W p l e R s m args below meth c H locs cells slots Q (F0 m (pc + 3) ls (.int (nI q) :: rest))) : W p l e R s m args below meth c H locs cells slots Q (F0 m pc ls (.ref b :: rest)) :=
  va_get (D := D) (ci := 1) (v := .int (nI q)) (C := R_M) (T := F_M) (N := 6) E.1 E.2.1 E.2.2.2.2 in_M E.2.2.2.1 hK hP 0 rfl rfl 3 (by decide) (E.2.2.2.2 _ fl_M_place) (fun _ h => h) rfl hdg k
theorem gm_reading (E : CallFix p m c cc nL s args XT R_M) (hK : va_K D xcl (xty cJ cZ) s) (hP : PM D b r cZ β n q fa rd gd H) (hdg : decode cc pc = .ok (.getfield im_reading, 3)) (k : W p l e R s m args below meth c H locs cells slots Q (F0 m (pc + 3) ls (.int (nI rd) :: rest))) : W p l e R s m args below meth c H locs cells slots Q (F0 m pc ls (.ref b :: rest)) :=
  va_get (D := D) (ci := 1) (v := .int (nI rd)) (C := R_M) (T := F_M) (N := 6) E.1 E.2.1 E.2.2.2.2 in_M E.2.2.2.1 hK hP 0 rfl rfl 4 (by decide) (E.2.2.2.2 _ fl_M_reading) (fun _ h => h) rfl hdg k
theorem gm_good (E : CallFix p m c cc nL s args XT R_M) (hK : va_K D xcl (xty cJ cZ) s) (hP : PM D b r cZ β n q fa rd gd H) (hdg : decode cc pc = .ok (.getfield im_good, 3)) (k : W p l e R s m args below meth c H locs cells slots Q (F0 m (pc + 3) ls (.int (nI gd.toNat) :: rest))) : W p l e R s m args below meth c H locs cells slots Q (F0 m pc ls (.ref b :: rest)) :=
  va_get (D := D) (ci := 1) (v := .int (nI gd.toNat)) (C := R_M) (T := F_M) (N := 6) E.1 E.2.1 E.2.2.2.2 in_M E.2.2.2.1 hK hP 0 rfl rfl 5 (by decide) (E.2.2.2.2 _ fl_M_good) (fun _ h => h) rfl hdg k
theorem sm_failed {z : Int32} (E : CallFix p m c cc nL s args XT R_M) (hK : va_K D xcl (xty cJ cZ) s) (hP : PM D b r cZ β n q fa rd gd H) (hne : b ≠ r) (hS : va_S (xA2 b r) s.heap H locs) (hdg : decode cc pc = .ok (.putfield im_failed, 3))
    (kk : ∀ (H1 : Heap) (locs1 : List Loc), PM D b r cZ β n q z rd gd H1 → va_S (xA2 b r) s.heap H1 locs1 → W p l e R s m args below meth c H1 locs1 cells slots Q (F0 m (pc + 3) ls rest)) : W p l e R s m args below meth c H locs cells slots Q (F0 m pc ls (.int z :: .ref b :: rest)) :=
  va_put (D := D) (ci := 1) (v := .int z) (ty := .int) (C := R_M) (T := F_M) (N := 6) E.1 E.2.1 E.2.2.2.2 in_M t_M t_M_ok n_M E.2.2.2.1 hK hP (xD2 hne) hS 0 rfl rfl 0 (by decide) (E.2.2.2.2 _ fl_M_failed) (fun _ h => h) rfl (by decide +kernel) rfl rfl (Nat.le_of_ble_eq_true rfl) hdg (fun H1 locs1 hP1 _ hS1 => kk H1 locs1 hP1 hS1)
theorem sm_size {k : Nat} (E : CallFix p m c cc nL s args XT R_M) (hK : va_K D xcl (xty cJ cZ) s) (hP : PM D b r cZ β n q fa rd gd H) (hne : b ≠ r) (hS : va_S (xA2 b r) s.heap H locs) (hdg : decode cc pc = .ok (.putfield im_size, 3))
    (kk : ∀ (H1 : Heap) (locs1 : List Loc), PM D b r cZ β k q fa rd gd H1 → va_S (xA2 b r) s.heap H1 locs1 → W p l e R s m args below meth c H1 locs1 cells slots Q (F0 m (pc + 3) ls rest)) : W p l e R s m args below meth c H locs cells slots Q (F0 m pc ls (.int (nI k) :: .ref b :: rest)) :=
  va_put (D := D) (ci := 1) (v := .int (nI k)) (ty := .int) (C := R_M) (T := F_M) (N := 6) E.1 E.2.1 E.2.2.2.2 in_M t_M t_M_ok n_M E.2.2.2.1 hK hP (xD2 hne) hS 0 rfl rfl 2 (by decide) (E.2.2.2.2 _ fl_M_size) (fun _ h => h) rfl (by decide +kernel) rfl rfl (Nat.le_of_ble_eq_true rfl) hdg (fun H1 locs1 hP1 _ hS1 => kk H1 locs1 hP1 hS1)
theorem sm_place {k : Nat} (E : CallFix p m c cc nL s args XT R_M) (hK : va_K D xcl (xty cJ cZ) s) (hP : PM D b r cZ β n q fa rd gd H) (hne : b ≠ r) (hS : va_S (xA2 b r) s.heap H locs) (hdg : decode cc pc = .ok (.putfield im_place, 3))
    (kk : ∀ (H1 : Heap) (locs1 : List Loc), PM D b r cZ β n k fa rd gd H1 → va_S (xA2 b r) s.heap H1 locs1 → W p l e R s m args below meth c H1 locs1 cells slots Q (F0 m (pc + 3) ls rest)) : W p l e R s m args below meth c H locs cells slots Q (F0 m pc ls (.int (nI k) :: .ref b :: rest)) :=
  va_put (D := D) (ci := 1) (v := .int (nI k)) (ty := .int) (C := R_M) (T := F_M) (N := 6) E.1 E.2.1 E.2.2.2.2 in_M t_M t_M_ok n_M E.2.2.2.1 hK hP (xD2 hne) hS 0 rfl rfl 3 (by decide) (E.2.2.2.2 _ fl_M_place) (fun _ h => h) rfl (by decide +kernel) rfl rfl (Nat.le_of_ble_eq_true rfl) hdg (fun H1 locs1 hP1 _ hS1 => kk H1 locs1 hP1 hS1)
theorem sm_reading {k : Nat} (E : CallFix p m c cc nL s args XT R_M) (hK : va_K D xcl (xty cJ cZ) s) (hP : PM D b r cZ β n q fa rd gd H) (hne : b ≠ r) (hS : va_S (xA2 b r) s.heap H locs) (hdg : decode cc pc = .ok (.putfield im_reading, 3))
    (kk : ∀ (H1 : Heap) (locs1 : List Loc), PM D b r cZ β n q fa k gd H1 → va_S (xA2 b r) s.heap H1 locs1 → W p l e R s m args below meth c H1 locs1 cells slots Q (F0 m (pc + 3) ls rest)) : W p l e R s m args below meth c H locs cells slots Q (F0 m pc ls (.int (nI k) :: .ref b :: rest)) :=
  va_put (D := D) (ci := 1) (v := .int (nI k)) (ty := .int) (C := R_M) (T := F_M) (N := 6) E.1 E.2.1 E.2.2.2.2 in_M t_M t_M_ok n_M E.2.2.2.1 hK hP (xD2 hne) hS 0 rfl rfl 4 (by decide) (E.2.2.2.2 _ fl_M_reading) (fun _ h => h) rfl (by decide +kernel) rfl rfl (Nat.le_of_ble_eq_true rfl) hdg (fun H1 locs1 hP1 _ hS1 => kk H1 locs1 hP1 hS1)
theorem sm_good {g : Bool} (E : CallFix p m c cc nL s args XT R_M) (hK : va_K D xcl (xty cJ cZ) s) (hP : PM D b r cZ β n q fa rd gd H) (hne : b ≠ r) (hS : va_S (xA2 b r) s.heap H locs) (hdg : decode cc pc = .ok (.putfield im_good, 3))
    (kk : ∀ (H1 : Heap) (locs1 : List Loc), PM D b r cZ β n q fa rd g H1 → va_S (xA2 b r) s.heap H1 locs1 → W p l e R s m args below meth c H1 locs1 cells slots Q (F0 m (pc + 3) ls rest)) : W p l e R s m args below meth c H locs cells slots Q (F0 m pc ls (.int (nI g.toNat) :: .ref b :: rest)) :=
  va_put (D := D) (ci := 1) (v := .int (nI g.toNat)) (ty := .boolean) (C := R_M) (T := F_M) (N := 6) E.1 E.2.1 E.2.2.2.2 in_M t_M t_M_ok n_M E.2.2.2.1 hK hP (xD2 hne) hS 0 rfl rfl 5 (by decide) (E.2.2.2.2 _ fl_M_good) (fun _ h => h) rfl (by decide +kernel) (by cases g <;> decide) (by cases g <;> decide) (Nat.le_of_ble_eq_true rfl) hdg (fun H1 locs1 hP1 _ hS1 => kk H1 locs1 hP1 hS1)
end XL20
end
section
/-! The reference: what writes. -/
section XL21
set_option maxHeartbeats 4000000 in
set_option maxRecDepth 100000 in
theorem m_thrown (l : Launch) (D : va_G) (b r : Nat) (cJ cZ : ClassId) (β : Nat → Bool) (n q : Nat) (fa : Int32) (rd : Nat) (gd : Bool) : xM l y_M_thrown w_M_thrown (xrm 0) [.ref b] (wM D b r cJ cZ β n q fa rd gd) xNA (fun v st t => v = some (.int fa) ∧ t.heap = st.heap) (fun _ _ _ => False) := by
  refine xM.of (by decide) ?_
  intro p e s m args below meth c hav E hr hk hh hnm hwM
  subst hav
  obtain ⟨hP, hK⟩ := hwM
  have hS : va_S xNA s.heap s.heap [] := va_S.rf
  refine xl_entry _ (Nat.le_of_ble_eq_true rfl) (fun ls hl => ?_)
  have hl : lv_has ls 1 [(0, .ref b)] := hl
  refine lv_aload_n E.1 E.2.1 d_M_thrown_0 rfl (lv_at hl 0 rfl) ?_
  refine gm_failed E hK hP d_M_thrown_1 ?_
  exact xr_iret E hr hk hS (fun t ht _ => ⟨rfl, ht⟩) d_M_thrown_4
set_option maxHeartbeats 4000000 in
set_option maxRecDepth 100000 in
theorem m_fail (l : Launch) (D : va_G) (b r : Nat) (cJ cZ : ClassId) (β : Nat → Bool) (n q : Nat) (fa : Int32) (rd : Nat) (gd : Bool) (hne : b ≠ r) (z : Int32) : xM l y_M_fail w_M_fail (xrm 0) [.ref b, .int z] (wM D b r cJ cZ β n q fa rd gd) (xA2 b r) (fun v _ t => v = some (.int 0) ∧ PM D b r cZ β n q z rd gd t.heap) (fun _ _ _ => False) := by
  refine xM.of (by decide) ?_
  intro p e s m args below meth c hav E hr hk hh hnm hwM
  subst hav
  obtain ⟨hP, hK⟩ := hwM
  have hS : va_S (xA2 b r) s.heap s.heap [] := va_S.rf
  refine xl_entry _ (Nat.le_of_ble_eq_true rfl) (fun ls hl => ?_)
  have hl : lv_has ls 2 [(0, .ref b), (1, .int z)] := hl
  refine lv_aload_n E.1 E.2.1 d_M_fail_0 rfl (lv_at hl 0 rfl) ?_
  refine lv_iload_n E.1 E.2.1 d_M_fail_1 rfl (lv_at hl 1 rfl) ?_
  refine sm_failed E hK hP hne hS d_M_fail_2 (fun H1 locs1 hP1 hS1 => ?_)
  refine lv_iconst (v := 0) E.1 E.2.1 d_M_fail_5 (by decide) ?_
  exact xr_iret E hr hk hS1 (fun t ht _ => ⟨rfl, by rw [ht]; exact hP1⟩) d_M_fail_6
set_option maxHeartbeats 4000000 in
set_option maxRecDepth 100000 in
theorem m_width (l : Launch) (b : Nat) (x : Int64) : xM l y_M_width w_M_width (xrm 0) [.ref b, .long x] (fun _ => True) xNA (fun v st t => v = some (.int (nI (nbl (uN x)))) ∧ t.heap = st.heap) (fun _ _ _ => False) := by
  refine xM.of (by decide) ?_
  intro p e s m args below meth c hav E hr hk hh hnm _
  subst hav
  have hS : va_S xNA s.heap s.heap [] := va_S.rf
  have hb := nbl_64 x
  have key : ∀ (d i : Nat) (ls : Array Slot), i + d = nbl (uN x) → lv_has ls 4 [(3, .int (nI i)), (0, .ref b), (1, .long x)] →
      W p l e (xrm 0) s m [Value.ref b, .long x].toArray below meth c s.heap [] 0 0 (xl_MQ below (xl_Q xNA (fun v st t => v = some (.int (nI (nbl (uN x)))) ∧ t.heap = st.heap) (fun _ _ _ => False)) [Value.ref b, .long x].toArray s (xl_k 0 1) (xl_k 0 6) xNA) (F0 m 2 ls []) := by
    intro d
    induction d with
    | zero =>
      intro i ls hid hl
      have hi : i = nbl (uN x) := hid
      refine lv_iload_n E.1 E.2.1 d_M_width_2 rfl (lv_at hl 0 rfl) ?_
      refine lv_bipush (v := 64) E.1 E.2.1 d_M_width_3 (by decide) ?_
      refine lv_icmp_ge (tgt := 22) E.1 E.2.1 d_M_width_5 (by decide) (fun h1 => ?_) (fun h1 => ?_)
      · skip
        refine lv_iload_n E.1 E.2.1 d_M_width_22 rfl (lv_at hl 0 rfl) ?_
        exact xr_iret E hr hk hS (fun t ht _ => ⟨by rw [hi], ht⟩) d_M_width_23
      · skip
        have h1 : ¬ 64 ≤ i := fun z => h1 ((nI_leI (a := 64) (by decide) (by omega)).mpr z)
        refine lv_lload_n E.1 E.2.1 d_M_width_8 rfl (lv_at hl 2 rfl) ?_
        refine lv_iload_n E.1 E.2.1 d_M_width_9 rfl (lv_at hl 0 rfl) ?_
        refine lv_lushr (v := xsh x (nI i)) E.1 E.2.1 d_M_width_10 rfl ?_
        refine lv_lconst (v := 0) E.1 E.2.1 d_M_width_11 (by decide) ?_
        refine xl_lc_eq (tgt := 22) E.1 E.2.1 d_M_width_12 d_M_width_13 (by decide) (fun h2 => ?_) (fun h2 => ?_)
        · skip
          refine lv_iload_n E.1 E.2.1 d_M_width_22 rfl (lv_at hl 0 rfl) ?_
          exact xr_iret E hr hk hS (fun t ht _ => ⟨by rw [hi], ht⟩) d_M_width_23
        · skip
          exact absurd ((xsh_0 x (by omega)).mpr (by omega)) h2
    | succ d ih =>
      intro i ls hid hl
      refine lv_iload_n E.1 E.2.1 d_M_width_2 rfl (lv_at hl 0 rfl) ?_
      refine lv_bipush (v := 64) E.1 E.2.1 d_M_width_3 (by decide) ?_
      refine lv_icmp_ge (tgt := 22) E.1 E.2.1 d_M_width_5 (by decide) (fun h1 => ?_) (fun h1 => ?_)
      · skip
        exact absurd ((nI_leI (a := 64) (by decide) (by omega)).mp h1) (by omega)
      · skip
        refine lv_lload_n E.1 E.2.1 d_M_width_8 rfl (lv_at hl 2 rfl) ?_
        refine lv_iload_n E.1 E.2.1 d_M_width_9 rfl (lv_at hl 0 rfl) ?_
        refine lv_lushr (v := xsh x (nI i)) E.1 E.2.1 d_M_width_10 rfl ?_
        refine lv_lconst (v := 0) E.1 E.2.1 d_M_width_11 (by decide) ?_
        refine xl_lc_eq (tgt := 22) E.1 E.2.1 d_M_width_12 d_M_width_13 (by decide) (fun h2 => ?_) (fun h2 => ?_)
        · skip
          exact absurd ((xsh_0 x (by omega)).mp h2) (by omega)
        · skip
          refine lv_iinc (k := 0) (v := (nI i) + 1) E.1 E.2.1 d_M_width_16 hl rfl rfl (by decide) rfl (fun ls hl => ?_)
          have hl : lv_has ls 4 [(3, .int ((nI i) + 1)), (0, .ref b), (1, .long x)] := hl
          refine lv_goto (tgt := 2) E.1 E.2.1 d_M_width_19 (by decide) ?_
          rw [nI_1] at hl
          exact ih (i + 1) ls (by omega) hl
  refine xl_entry _ (Nat.le_of_ble_eq_true rfl) (fun ls hl => ?_)
  have hl : lv_has ls 4 [(0, .ref b), (1, .long x)] := hl
  refine lv_iconst (v := 0) E.1 E.2.1 d_M_width_0 (by decide) ?_
  refine lv_istore_n E.1 E.2.1 d_M_width_1 rfl hl (by decide) rfl (fun ls hl => ?_)
  have hl : lv_has ls 4 [(3, .int 0), (0, .ref b), (1, .long x)] := hl
  exact key _ 0 ls (Nat.zero_add _) hl
set_option maxHeartbeats 4000000 in
set_option maxRecDepth 100000 in
theorem m_bytesOf (l : Launch) (D : va_G) (b r : Nat) (cJ cZ : ClassId) (β : Nat → Bool) (n q : Nat) (fa : Int32) (rd : Nat) (gd : Bool) (x : Int64) : xM l y_M_bytesOf w_M_bytesOf (xrm 1) [.ref b, .long x] (wM D b r cJ cZ β n q fa rd gd) xNA (fun v st t => v = some (.int (nI (nb 0 x))) ∧ t.heap = st.heap) (fun _ _ _ => False) := by
  refine xM.of (by decide) ?_
  intro p e s m args below meth c hav E hr hk hh hnm hwM
  subst hav
  obtain ⟨hP, hK⟩ := hwM
  have hS : va_S xNA s.heap s.heap [] := va_S.rf
  have hb := nbl_64 x
  have hnb : nb 0 x = max 1 ((nbl (uN x) + 7) / 8) := by
    unfold nb
    rw [if_neg (by decide)]
  refine xl_entry _ (Nat.le_of_ble_eq_true rfl) (fun ls hl => ?_)
  have hl : lv_has ls 3 [(0, .ref b), (1, .long x)] := hl
  refine lv_aload_n E.1 E.2.1 d_M_bytesOf_0 rfl (lv_at hl 0 rfl) ?_
  refine lv_lload_n E.1 E.2.1 d_M_bytesOf_1 rfl (lv_at hl 1 rfl) ?_
  refine xg_looks (xc_V E xGT (m_width l b x) vw_M_width (by decide) xNo (PM.recv hP hK) rfl hl.1 rfl (Nat.le_of_ble_eq_true rfl) d_M_bytesOf_2) (fun v st t h => h.2) (fun v st t h0 hal hrt => ?_) (fun x st t h0 hal hth hz => hth.elim)
  obtain ⟨rfl, -⟩ := hrt
  refine W.eq (g2 := F0 m 5 ls [.int (nI (nbl (uN x)))]) rfl ?_
  refine lv_if_ne (tgt := 12) E.1 E.2.1 d_M_bytesOf_5 (by decide) (fun h1 => ?_) (fun h1 => ?_)
  · skip
    have h1 : ¬ nbl (uN x) = 0 := fun z => h1 (by rw [z]; rfl)
    refine lv_aload_n E.1 E.2.1 d_M_bytesOf_12 rfl (lv_at hl 0 rfl) ?_
    refine lv_lload_n E.1 E.2.1 d_M_bytesOf_13 rfl (lv_at hl 1 rfl) ?_
    refine xg_looks (xc_V E xGT (m_width l b x) vw_M_width (by decide) xNo (PM.recv hP hK) rfl hl.1 rfl (Nat.le_of_ble_eq_true rfl) d_M_bytesOf_14) (fun v st t h => h.2) (fun v st t h0 hal hrt => ?_) (fun x st t h0 hal hth hz => hth.elim)
    obtain ⟨rfl, -⟩ := hrt
    refine W.eq (g2 := F0 m 17 ls [.int (nI (nbl (uN x)))]) rfl ?_
    refine lv_bipush (v := 7) E.1 E.2.1 d_M_bytesOf_17 (by decide) ?_
    refine lv_iadd E.1 E.2.1 d_M_bytesOf_19 ?_
    refine xl_ti (y := (nI (nbl (uN x) + 7))) (nI_add _ 7) ?_
    refine lv_bipush (v := 8) E.1 E.2.1 d_M_bytesOf_20 (by decide) ?_
    refine lv_idiv E.1 E.2.1 d_M_bytesOf_22 (by decide) ?_
    refine xl_ti (y := (nI (nb 0 x))) (by rw [hnb, Nat.max_eq_right (by omega)]; exact pk_div (by omega) (by decide) (by decide)) ?_
    exact xr_iret E hr hk hS (fun t ht _ => ⟨rfl, ht⟩) d_M_bytesOf_23
  · skip
    have h1 : nbl (uN x) = 0 := (nI_eq (b := 0) (by omega) (by decide)).mp h1
    refine lv_iconst (v := 1) E.1 E.2.1 d_M_bytesOf_8 (by decide) ?_
    refine lv_goto (tgt := 23) E.1 E.2.1 d_M_bytesOf_9 (by decide) ?_
    exact xr_iret E hr hk hS (fun t ht _ => ⟨by rw [hnb, h1]; rfl, ht⟩) d_M_bytesOf_23
set_option maxHeartbeats 4000000 in
set_option maxRecDepth 100000 in
theorem m_complement (l : Launch) (b : Nat) (x : Int64) : xM l y_M_complement w_M_complement (xrm 0) [.ref b, .long x] (fun _ => True) xNA (fun v st t => v = some (.int (nI (nb 1 x))) ∧ t.heap = st.heap) (fun _ _ _ => False) := by
  refine xM.of (by decide) ?_
  intro p e s m args below meth c hav E hr hk hh hnm _
  subst hav
  have hS : va_S xNA s.heap s.heap [] := va_S.rf
  have hN : nbl (uN (xav x)) ≤ 63 := nbl_le.mpr (xav_lt x)
  have hnb : nb 1 x = nbl (uN (xav x)) / 8 + 1 := by
    unfold nb
    rw [if_pos rfl]
    omega
  have hm : ∀ i : Nat, 1 ≤ i → i ≤ 8 → (8 : Int32) * nI i - 1 = nI (8 * i - 1) := fun i h1 _ => by
    rw [show (8 : Int32) * nI i = nI (8 * i) from pk_mul 8 i]
    exact pk_sub (b := 1) (by omega)
  have key : ∀ (d i : Nat) (ls : Array Slot), 1 ≤ i → i + d = nb 1 x → lv_has ls 4 [(3, .int (nI i)), (0, .ref b), (1, .long x)] →
      W p l e (xrm 0) s m [Value.ref b, .long x].toArray below meth c s.heap [] 0 0 (xl_MQ below (xl_Q xNA (fun v st t => v = some (.int (nI (nb 1 x))) ∧ t.heap = st.heap) (fun _ _ _ => False)) [Value.ref b, .long x].toArray s (xl_k 0 1) (xl_k 0 6) xNA) (F0 m 2 ls []) := by
    intro d
    induction d with
    | zero =>
      intro i ls hi1 hid hl
      have hi : i = nb 1 x := hid
      refine lv_iload_n E.1 E.2.1 d_M_complement_2 rfl (lv_at hl 0 rfl) ?_
      refine lv_bipush (v := 8) E.1 E.2.1 d_M_complement_3 (by decide) ?_
      refine lv_icmp_ge (tgt := 42) E.1 E.2.1 d_M_complement_5 (by decide) (fun h1 => ?_) (fun h1 => ?_)
      · skip
        refine lv_iload_n E.1 E.2.1 d_M_complement_42 rfl (lv_at hl 0 rfl) ?_
        exact xr_iret E hr hk hS (fun t ht _ => ⟨by rw [hi], ht⟩) d_M_complement_43
      · skip
        have h1 : ¬ 8 ≤ i := fun z => h1 ((nI_leI (a := 8) (by decide) (by omega)).mpr z)
        have hstop := (xsr_iff x (k := 8 * i - 1) (by omega)).mpr (by omega)
        refine lv_lload_n E.1 E.2.1 d_M_complement_8 rfl (lv_at hl 2 rfl) ?_
        refine lv_bipush (v := 8) E.1 E.2.1 d_M_complement_9 (by decide) ?_
        refine lv_iload_n E.1 E.2.1 d_M_complement_11 rfl (lv_at hl 0 rfl) ?_
        refine lv_imul E.1 E.2.1 d_M_complement_12 ?_
        refine lv_iconst (v := 1) E.1 E.2.1 d_M_complement_13 (by decide) ?_
        refine lv_isub E.1 E.2.1 d_M_complement_14 ?_
        refine xl_ti (y := (nI (8 * i - 1))) (hm i hi1 (by omega)) ?_
        refine lv_lshr (v := xsr x (nI (8 * i - 1))) E.1 E.2.1 d_M_complement_15 rfl ?_
        refine lv_lconst (v := 0) E.1 E.2.1 d_M_complement_16 (by decide) ?_
        refine xl_lc_eq (tgt := 42) E.1 E.2.1 d_M_complement_17 d_M_complement_18 (by decide) (fun h2 => ?_) (fun h2 => ?_)
        · skip
          refine lv_iload_n E.1 E.2.1 d_M_complement_42 rfl (lv_at hl 0 rfl) ?_
          exact xr_iret E hr hk hS (fun t ht _ => ⟨by rw [hi], ht⟩) d_M_complement_43
        · skip
          refine lv_lload_n E.1 E.2.1 d_M_complement_21 rfl (lv_at hl 2 rfl) ?_
          refine lv_bipush (v := 8) E.1 E.2.1 d_M_complement_22 (by decide) ?_
          refine lv_iload_n E.1 E.2.1 d_M_complement_24 rfl (lv_at hl 0 rfl) ?_
          refine lv_imul E.1 E.2.1 d_M_complement_25 ?_
          refine lv_iconst (v := 1) E.1 E.2.1 d_M_complement_26 (by decide) ?_
          refine lv_isub E.1 E.2.1 d_M_complement_27 ?_
          refine xl_ti (y := (nI (8 * i - 1))) (hm i hi1 (by omega)) ?_
          refine lv_lshr (v := xsr x (nI (8 * i - 1))) E.1 E.2.1 d_M_complement_28 rfl ?_
          refine lv_ldc2 (v := (-1)) E.1 E.2.1 E.2.2.2.1 (E.2.2.2.2 _ co_M_22) d_M_complement_29 ?_
          refine xl_lc_eq (tgt := 42) E.1 E.2.1 d_M_complement_32 d_M_complement_33 (by decide) (fun h3 => ?_) (fun h3 => ?_)
          · skip
            refine lv_iload_n E.1 E.2.1 d_M_complement_42 rfl (lv_at hl 0 rfl) ?_
            exact xr_iret E hr hk hS (fun t ht _ => ⟨by rw [hi], ht⟩) d_M_complement_43
          · skip
            exact absurd hstop (fun z => z.elim h2 h3)
    | succ d ih =>
      intro i ls hi1 hid hl
      have hgo : (xsr x (nI (8 * i - 1)) = 0 ∨ xsr x (nI (8 * i - 1)) = -1) → False := fun z => absurd ((xsr_iff x (k := 8 * i - 1) (by omega)).mp z) (by omega)
      refine lv_iload_n E.1 E.2.1 d_M_complement_2 rfl (lv_at hl 0 rfl) ?_
      refine lv_bipush (v := 8) E.1 E.2.1 d_M_complement_3 (by decide) ?_
      refine lv_icmp_ge (tgt := 42) E.1 E.2.1 d_M_complement_5 (by decide) (fun h1 => ?_) (fun h1 => ?_)
      · skip
        exact absurd ((nI_leI (a := 8) (by decide) (by omega)).mp h1) (by omega)
      · skip
        refine lv_lload_n E.1 E.2.1 d_M_complement_8 rfl (lv_at hl 2 rfl) ?_
        refine lv_bipush (v := 8) E.1 E.2.1 d_M_complement_9 (by decide) ?_
        refine lv_iload_n E.1 E.2.1 d_M_complement_11 rfl (lv_at hl 0 rfl) ?_
        refine lv_imul E.1 E.2.1 d_M_complement_12 ?_
        refine lv_iconst (v := 1) E.1 E.2.1 d_M_complement_13 (by decide) ?_
        refine lv_isub E.1 E.2.1 d_M_complement_14 ?_
        refine xl_ti (y := (nI (8 * i - 1))) (hm i hi1 (by omega)) ?_
        refine lv_lshr (v := xsr x (nI (8 * i - 1))) E.1 E.2.1 d_M_complement_15 rfl ?_
        refine lv_lconst (v := 0) E.1 E.2.1 d_M_complement_16 (by decide) ?_
        refine xl_lc_eq (tgt := 42) E.1 E.2.1 d_M_complement_17 d_M_complement_18 (by decide) (fun h2 => ?_) (fun h2 => ?_)
        · skip
          exact (hgo (Or.inl h2)).elim
        · skip
          refine lv_lload_n E.1 E.2.1 d_M_complement_21 rfl (lv_at hl 2 rfl) ?_
          refine lv_bipush (v := 8) E.1 E.2.1 d_M_complement_22 (by decide) ?_
          refine lv_iload_n E.1 E.2.1 d_M_complement_24 rfl (lv_at hl 0 rfl) ?_
          refine lv_imul E.1 E.2.1 d_M_complement_25 ?_
          refine lv_iconst (v := 1) E.1 E.2.1 d_M_complement_26 (by decide) ?_
          refine lv_isub E.1 E.2.1 d_M_complement_27 ?_
          refine xl_ti (y := (nI (8 * i - 1))) (hm i hi1 (by omega)) ?_
          refine lv_lshr (v := xsr x (nI (8 * i - 1))) E.1 E.2.1 d_M_complement_28 rfl ?_
          refine lv_ldc2 (v := (-1)) E.1 E.2.1 E.2.2.2.1 (E.2.2.2.2 _ co_M_22) d_M_complement_29 ?_
          refine xl_lc_eq (tgt := 42) E.1 E.2.1 d_M_complement_32 d_M_complement_33 (by decide) (fun h3 => ?_) (fun h3 => ?_)
          · skip
            exact (hgo (Or.inr h3)).elim
          · skip
            refine lv_iinc (k := 0) (v := (nI i) + 1) E.1 E.2.1 d_M_complement_36 hl rfl rfl (by decide) rfl (fun ls hl => ?_)
            have hl : lv_has ls 4 [(3, .int ((nI i) + 1)), (0, .ref b), (1, .long x)] := hl
            refine lv_goto (tgt := 2) E.1 E.2.1 d_M_complement_39 (by decide) ?_
            rw [nI_1] at hl
            exact ih (i + 1) ls (by omega) (by omega) hl
  refine xl_entry _ (Nat.le_of_ble_eq_true rfl) (fun ls hl => ?_)
  have hl : lv_has ls 4 [(0, .ref b), (1, .long x)] := hl
  refine lv_iconst (v := 1) E.1 E.2.1 d_M_complement_0 (by decide) ?_
  refine lv_istore_n E.1 E.2.1 d_M_complement_1 rfl hl (by decide) rfl (fun ls hl => ?_)
  have hl : lv_has ls 4 [(3, .int 1), (0, .ref b), (1, .long x)] := hl
  exact key _ 1 ls (by decide) (show 1 + (nb 1 x - 1) = nb 1 x by omega) hl
theorem xz_up (β : Nat → Bool) (i : Nat) (v : Bool) : upd (xz β) i (vp_nar .boolean (nI v.toNat)) = xz (va_up β i v) := by
  rw [vp_nz]
  funext j
  unfold upd xz va_up
  by_cases h : j = i
  · rw [if_pos h, if_pos h]
    cases v <;> rfl
  · rw [if_neg h, if_neg h]
set_option maxHeartbeats 4000000 in
set_option maxRecDepth 100000 in
theorem m_append (l : Launch) (D : va_G) (b r : Nat) (cJ cZ : ClassId) (β : Nat → Bool) (n q : Nat) (fa : Int32) (rd : Nat) (gd : Bool) (k : Nat) (x : Int64) (hn : n + k ≤ 65536) (hk64 : k ≤ 64) (hne : b ≠ r) : xM l y_M_append w_M_append (xrm 0) [.ref b, .long x, .int (nI k)] (wM D b r cJ cZ β n q fa rd gd) (xA2 b r) (fun v st t => v = none ∧ PM D b r cZ (xa β n x k) (n + k) q fa rd gd t.heap) (fun _ _ _ => False) := by
  refine xM.of (by decide) ?_
  intro p e s m args below meth c hav E hr hk hh hnm hwM
  subst hav
  obtain ⟨hP, hK⟩ := hwM
  have hS : va_S (xA2 b r) s.heap s.heap [] := va_S.rf
  have key : ∀ (i : Nat) (β1 : Nat → Bool) (n1 : Nat) (H : Heap) (locs : List Loc) (ls : Array Slot), i ≤ 64 → n1 + i ≤ 65536 → xa β1 n1 x i = xa β n x k → n1 + i = n + k → PM D b r cZ β1 n1 q fa rd gd H → va_S (xA2 b r) s.heap H locs → lv_has ls 5 [(4, .int (nI i - 1)), (0, .ref b), (1, .long x), (3, .int (nI k))] →
      W p l e (xrm 0) s m [Value.ref b, .long x, .int (nI k)].toArray below meth c H locs 0 0 (xl_MQ below (xl_Q (xA2 b r) (fun v st t => v = none ∧ PM D b r cZ (xa β n x k) (n + k) q fa rd gd t.heap) (fun _ _ _ => False)) [Value.ref b, .long x, .int (nI k)].toArray s (xl_k 0 1) (xl_k 0 6) (xA2 b r)) (F0 m 5 ls []) := by
    intro i
    induction i with
    | zero =>
      intro β1 n1 H locs ls _ _ hβ hnn hP hS hl
      refine lv_iload E.1 E.2.1 d_M_append_5 (lv_at hl 0 rfl) ?_
      refine lv_if_lt (tgt := 51) E.1 E.2.1 d_M_append_7 (by decide) (fun h1 => ?_) (fun h1 => ?_)
      · skip
        have hnn : n1 = n + k := hnn
        subst hnn
        rw [xa_0] at hβ
        subst hβ
        exact xr_vret E hr hk hS (fun t ht _ => ⟨rfl, by rw [ht]; exact hP⟩) d_M_append_51
      · skip
        exact absurd (by decide) h1
    | succ i ih =>
      intro β1 n1 H locs ls hr64 hnr hβ hnn hP hS hl
      have e1 : nI (i + 1) - 1 = nI i := nI_pred i
      rw [e1] at hl
      refine lv_iload E.1 E.2.1 d_M_append_5 (lv_at hl 0 rfl) ?_
      refine lv_if_lt (tgt := 51) E.1 E.2.1 d_M_append_7 (by decide) (fun h1 => ?_) (fun h1 => ?_)
      · skip
        exact absurd h1 (nI_pos (by omega))
      · skip
        refine lv_aload_n E.1 E.2.1 d_M_append_10 rfl (lv_at hl 1 rfl) ?_
        refine gm_row E hK hP d_M_append_11 ?_
        refine lv_aload_n E.1 E.2.1 d_M_append_14 rfl (lv_at hl 1 rfl) ?_
        refine gm_size E hK hP d_M_append_15 ?_
        refine lv_lload_n E.1 E.2.1 d_M_append_18 rfl (lv_at hl 2 rfl) ?_
        refine lv_iload E.1 E.2.1 d_M_append_19 (lv_at hl 0 rfl) ?_
        refine lv_lushr (v := xsh x (nI i)) E.1 E.2.1 d_M_append_21 rfl ?_
        refine lv_lconst (v := 1) E.1 E.2.1 d_M_append_22 (by decide) ?_
        refine lv_land E.1 E.2.1 d_M_append_23 ?_
        refine xl_tl (y := (lN (xb x i).toNat)) (xsh_1 x (by omega)) ?_
        refine lv_lconst (v := 1) E.1 E.2.1 d_M_append_24 (by decide) ?_
        refine xl_join (fun z : Int32 => z = nI (xb x i).toNat) (fun z => F0 m 34 ls [.int z, .int (nI n1), .ref r]) (fun z hz => ?_) (fun hj => ?_)
        · subst hz
          refine va_zast E.1 E.2.1 hK hP (xD2 hne) hS 1 1 rfl rfl (vp_in_nI (by omega) (by decide)) d_M_append_34 (fun H1 locs1 hP1 _ hS1 => ?_)
          have hP1 : va_P D xcl [(b, .inr (1, [.int fa, .ref r, .int (nI n1), .int (nI q), .int (nI rd), .int (nI gd.toNat)])), (r, .inl (cZ, 65536, .inl (upd (xz β1) (nI n1).toNatClampNeg (vp_nar .boolean (nI (xb x i).toNat)))))] H1 := hP1
          rw [nI_clamp (by omega), xz_up] at hP1
          clear hP
          have hP : PM D b r cZ (va_up β1 n1 (xb x i)) n1 q fa rd gd H1 := hP1
          refine lv_aload_n E.1 E.2.1 d_M_append_35 rfl (lv_at hl 1 rfl) ?_
          refine lv_dup E.1 E.2.1 d_M_append_36 rfl ?_
          refine gm_size E hK hP d_M_append_37 ?_
          refine lv_iconst (v := 1) E.1 E.2.1 d_M_append_40 (by decide) ?_
          refine lv_iadd E.1 E.2.1 d_M_append_41 ?_
          refine xl_ti (y := (nI (n1 + 1))) (nI_1 n1) ?_
          refine sm_size E hK hP hne hS1 d_M_append_42 (fun H2 locs2 hP2 hS2 => ?_)
          refine lv_iinc (k := 0) (v := (nI i) + (-1)) E.1 E.2.1 d_M_append_45 hl rfl rfl (by decide) rfl (fun ls hl => ?_)
          have hl : lv_has ls 5 [(4, .int ((nI i) + (-1))), (0, .ref b), (1, .long x), (3, .int (nI k))] := hl
          refine lv_goto (tgt := 5) E.1 E.2.1 d_M_append_48 (by decide) ?_
          rw [← Int32.sub_eq_add_neg] at hl
          refine ih _ (n1 + 1) H2 locs2 ls (by omega) (by omega) ?_ (by omega) hP2 hS2 hl
          rw [xa_succ]
          exact hβ
        · skip
          refine xl_lc_ne (tgt := 33) E.1 E.2.1 d_M_append_25 d_M_append_26 (by decide) (fun h2 => ?_) (fun h2 => ?_)
          · skip
            refine lv_iconst (v := 0) E.1 E.2.1 d_M_append_33 (by decide) ?_
            refine hj _ ?_
            cases hb : xb x i
            · rfl
            · rw [hb] at h2
              exact absurd rfl h2
          · skip
            refine lv_iconst (v := 1) E.1 E.2.1 d_M_append_29 (by decide) ?_
            refine lv_goto (tgt := 34) E.1 E.2.1 d_M_append_30 (by decide) ?_
            refine hj _ ?_
            cases hb : xb x i
            · rw [hb] at h2
              exact absurd h2 (by decide)
            · rfl
  refine xl_entry _ (Nat.le_of_ble_eq_true rfl) (fun ls hl => ?_)
  have hl : lv_has ls 5 [(0, .ref b), (1, .long x), (3, .int (nI k))] := hl
  refine lv_iload_n E.1 E.2.1 d_M_append_0 rfl (lv_at hl 2 rfl) ?_
  refine lv_iconst (v := 1) E.1 E.2.1 d_M_append_1 (by decide) ?_
  refine lv_isub E.1 E.2.1 d_M_append_2 ?_
  refine lv_istore E.1 E.2.1 d_M_append_3 hl (by decide) rfl (fun ls hl => ?_)
  have hl : lv_has ls 5 [(4, .int ((nI k) - 1)), (0, .ref b), (1, .long x), (3, .int (nI k))] := hl
  exact key k β n s.heap [] ls hk64 hn rfl rfl hP hS hl
end XL21
end
section
/-! The reference: the calls that write. -/
section XL22
/-- the reference has answered an int (a long) as it should, and noted the code -/
def xMi (z : Nat × Int64 × xS) (D : va_G) (b r : Nat) (cZ : ClassId) : Option Value → State → State → Prop := fun v _ t => ∃ (i : Int32) (rd : Nat) (gd : Bool), v = some (.int i) ∧ (z.1 = 0 → i.toInt64 = z.2.1) ∧ PM D b r cZ z.2.2.1 z.2.2.2.1 z.2.2.2.2 (nI z.1) rd gd t.heap
def xMl (z : Nat × Int64 × xS) (D : va_G) (b r : Nat) (cZ : ClassId) : Option Value → State → State → Prop := fun v _ t => ∃ (i : Int64) (rd : Nat) (gd : Bool), v = some (.long i) ∧ (z.1 = 0 → i = z.2.1) ∧ PM D b r cZ z.2.2.1 z.2.2.2.1 z.2.2.2.2 (nI z.1) rd gd t.heap
theorem xMi.mk {z : Nat × Int64 × xS} {D : va_G} {b r : Nat} {cZ : ClassId} {s t : State} {i : Int32} {v : Int64} {β : Nat → Bool} {n q cd : Nat} {rd : Nat} {gd : Bool} (h : z = (cd, v, (β, n, q))) (hz : cd = 0 → i.toInt64 = v) (hP : PM D b r cZ β n q (nI cd) rd gd t.heap) : xMi z D b r cZ (some (.int i)) s t := by
  subst h
  exact ⟨i, rd, gd, rfl, hz, hP⟩
theorem xMl.mk {z : Nat × Int64 × xS} {D : va_G} {b r : Nat} {cZ : ClassId} {s t : State} {i : Int64} {v : Int64} {β : Nat → Bool} {n q cd : Nat} {rd : Nat} {gd : Bool} (h : z = (cd, v, (β, n, q))) (hz : cd = 0 → i = v) (hP : PM D b r cZ β n q (nI cd) rd gd t.heap) : xMl z D b r cZ (some (.long i)) s t := by
  subst h
  exact ⟨i, rd, gd, rfl, hz, hP⟩
set_option maxHeartbeats 4000000 in
set_option maxRecDepth 100000 in
theorem m_write (l : Launch) (D : va_G) (b r : Nat) (cJ cZ : ClassId) (β : Nat → Bool) (n q : Nat) (rd : Nat) (gd : Bool) (k cd : Nat) (x : Int64) (hn : n ≤ 65536) (hk64 : k ≤ 64) (hne : b ≠ r) (hcd : cd ≠ 0) : xM l y_M_write w_M_write (xrm 1) [.ref b, .long x, .int (nI k), .int (nI cd)] (wM D b r cJ cZ β n q 0 rd gd) (xA2 b r) (fun v _ t => ∃ i : Int32, v = some (.int i) ∧ ((sp_write (β, n, q) x k cd).1 = 0 → i.toInt64 = (sp_write (β, n, q) x k cd).2.1) ∧ PM D b r cZ (sp_write (β, n, q) x k cd).2.2.1 (sp_write (β, n, q) x k cd).2.2.2.1 (sp_write (β, n, q) x k cd).2.2.2.2 (nI (sp_write (β, n, q) x k cd).1) rd gd t.heap) (fun _ _ _ => False) := by
  refine xM.of (by decide) ?_
  intro p e s m args below meth c hav E hr hk hh hnm hwM
  subst hav
  obtain ⟨hP, hK⟩ := hwM
  have hS : va_S (xA2 b r) s.heap s.heap [] := va_S.rf
  refine xl_entry _ (Nat.le_of_ble_eq_true rfl) (fun ls hl => ?_)
  have hl : lv_has ls 5 [(0, .ref b), (1, .long x), (3, .int (nI k)), (4, .int (nI cd))] := hl
  refine lv_aload_n E.1 E.2.1 d_M_write_0 rfl (lv_at hl 0 rfl) ?_
  refine gm_size E hK hP d_M_write_1 ?_
  refine lv_iload_n E.1 E.2.1 d_M_write_4 rfl (lv_at hl 2 rfl) ?_
  refine lv_iadd E.1 E.2.1 d_M_write_5 ?_
  refine xl_ti (y := (nI (n + k))) (nI_add n k) ?_
  refine lv_ldc (v := 65536) E.1 E.2.1 E.2.2.2.1 (E.2.2.2.2 _ co_M_7) d_M_write_6 ?_
  refine lv_icmp_le (tgt := 18) E.1 E.2.1 d_M_write_8 (by decide) (fun h1 => ?_) (fun h1 => ?_)
  · skip
    have h1 : n + k ≤ 65536 := (nI_leI (b := 65536) (by omega) (by decide)).mp h1
    have hsp : sp_write (β, n, q) x k cd = (0, lN (n + k), (xa β n x k, n + k, q)) := by
      unfold sp_write
      rw [if_neg (Nat.not_lt.mpr h1)]
    rw [hsp]
    refine lv_aload_n E.1 E.2.1 d_M_write_18 rfl (lv_at hl 0 rfl) ?_
    refine lv_lload_n E.1 E.2.1 d_M_write_19 rfl (lv_at hl 1 rfl) ?_
    refine lv_iload_n E.1 E.2.1 d_M_write_20 rfl (lv_at hl 2 rfl) ?_
    refine xg_goes (xc_V E xGT (m_append l D b r cJ cZ β n q 0 rd gd k x h1 hk64 hne) vw_M_append (by decide) (wM.call hP hK) (PM.recv hP hK) rfl hl.1 rfl (Nat.le_of_ble_eq_true rfl) d_M_write_21) hS (fun q _ h => h) (fun q h => h) (fun v st t locs1 h0 hal hrt hS1 hz hkp => ?_) (fun x st t locs1 h0 hal hth => hth.elim)
    obtain ⟨rfl, hP1⟩ := hrt
    refine W.eq (g2 := F0 m 24 ls []) rfl ?_
    generalize t.heap = H1 at hP1 hS1 hz hkp ⊢
    clear hP
    have hP := hP1
    refine lv_aload_n E.1 E.2.1 d_M_write_24 rfl (lv_at hl 0 rfl) ?_
    refine gm_size E hK hP d_M_write_25 ?_
    exact xr_iret E hr hk hS1 (fun t ht _ => ⟨_, rfl, fun _ => nI_l (by omega), by rw [ht]; exact hP⟩) d_M_write_28
  · skip
    have h1 : ¬ n + k ≤ 65536 := fun z => h1 ((nI_leI (b := 65536) (by omega) (by decide)).mpr z)
    have hsp : sp_write (β, n, q) x k cd = (cd, 0, (β, n, q)) := by
      unfold sp_write
      rw [if_pos (Nat.not_le.mp h1)]
    rw [hsp]
    refine lv_aload_n E.1 E.2.1 d_M_write_11 rfl (lv_at hl 0 rfl) ?_
    refine lv_iload E.1 E.2.1 d_M_write_12 (lv_at hl 3 rfl) ?_
    refine xg_goes (xc_V E xGT (m_fail l D b r cJ cZ β n q 0 rd gd hne (nI cd)) vw_M_fail (by decide) (wM.call hP hK) (PM.recv hP hK) rfl hl.1 rfl (Nat.le_of_ble_eq_true rfl) d_M_write_14) hS (fun q _ h => h) (fun q h => h) (fun v st t locs1 h0 hal hrt hS1 hz hkp => ?_) (fun x st t locs1 h0 hal hth => hth.elim)
    obtain ⟨rfl, hP1⟩ := hrt
    refine W.eq (g2 := F0 m 17 ls [.int 0]) rfl ?_
    generalize t.heap = H1 at hP1 hS1 hz hkp ⊢
    exact xr_iret E hr hk hS1 (fun t ht _ => ⟨_, rfl, fun z => absurd z hcd, by rw [ht]; exact hP1⟩) d_M_write_17
set_option maxHeartbeats 4000000 in
set_option maxRecDepth 100000 in
theorem m_put (l : Launch) (D : va_G) (b r : Nat) (cJ cZ : ClassId) (β : Nat → Bool) (n q : Nat) (fa : Int32) (rd : Nat) (gd : Bool) (hn : n ≤ 65536) (hne : b ≠ r) (x : Int64) (k : Int32) : xM l y_M_put w_M_put (xrm 2) [.ref b, .long x, .int k] (wM D b r cJ cZ β n q fa rd gd) (xA2 b r) (xMi (sp_put (β, n, q) x k) D b r cZ) (fun _ _ _ => False) := by
  refine xM.of (by decide) ?_
  intro p e s m args below meth c hav E hr hk hh hnm hwM
  subst hav
  obtain ⟨hP, hK⟩ := hwM
  have hS : va_S (xA2 b r) s.heap s.heap [] := va_S.rf
  refine xl_entry _ (Nat.le_of_ble_eq_true rfl) (fun ls hl => ?_)
  have hl : lv_has ls 4 [(0, .ref b), (1, .long x), (3, .int k)] := hl
  refine lv_aload_n E.1 E.2.1 d_M_put_0 rfl (lv_at hl 0 rfl) ?_
  refine lv_iconst (v := 0) E.1 E.2.1 d_M_put_1 (by decide) ?_
  refine sm_failed E hK hP hne hS d_M_put_2 (fun H1 locs1 hP1 hS1 => ?_)
  refine xl_join (fun _ : Unit => k < 0 ∨ 64 < k) (fun _ => F0 m 15 ls []) (fun _ hkk => ?_) (fun hj => ?_)
  · skip
    have hsp : sp_put (β, n, q) x k = (1, 0, (β, n, q)) := by
      unfold sp_put
      rw [if_pos hkk]
    refine lv_aload_n E.1 E.2.1 d_M_put_15 rfl (lv_at hl 0 rfl) ?_
    refine lv_iconst (v := 1) E.1 E.2.1 d_M_put_16 (by decide) ?_
    refine xg_goes (xc_V E xGT (m_fail l D b r cJ cZ β n q 0 rd gd hne 1) vw_M_fail (by decide) (wM.call hP1 hK) (PM.recv hP1 hK) rfl hl.1 rfl (Nat.le_of_ble_eq_true rfl) d_M_put_17) hS1 (fun q _ h => h) (fun q h => h) (fun v st t locs2 h0 hal hrt hS2 hz hkp => ?_) (fun x st t locs1 h0 hal hth => hth.elim)
    obtain ⟨rfl, hP2⟩ := hrt
    refine W.eq (g2 := F0 m 20 ls [.int 0]) rfl ?_
    generalize t.heap = H2 at hP2 hS2 hz hkp ⊢
    refine lv_goto (tgt := 30) E.1 E.2.1 d_M_put_20 (by decide) ?_
    exact xr_iret E hr hk hS2 (fun t ht _ => xMi.mk hsp (fun z => absurd z (by decide)) (by rw [ht]; exact hP2)) d_M_put_30
  · skip
    refine lv_iload_n E.1 E.2.1 d_M_put_5 rfl (lv_at hl 2 rfl) ?_
    refine lv_if_lt (tgt := 15) E.1 E.2.1 d_M_put_6 (by decide) (fun h1 => ?_) (fun h1 => ?_)
    · skip
      exact hj () (Or.inl h1)
    · skip
      refine lv_iload_n E.1 E.2.1 d_M_put_9 rfl (lv_at hl 2 rfl) ?_
      refine lv_bipush (v := 64) E.1 E.2.1 d_M_put_10 (by decide) ?_
      refine lv_icmp_le (tgt := 23) E.1 E.2.1 d_M_put_12 (by decide) (fun h2 => ?_) (fun h2 => ?_)
      · skip
        obtain ⟨j, hjb, hkj⟩ := nI_of h1
        have hj64 : j ≤ 64 := by
          rw [hkj] at h2
          exact (nI_leI (b := 64) hjb (by decide)).mp h2
        have hcl := xcl64 hkj hjb
        have hsp : sp_put (β, n, q) x k = sp_write (β, n, q) x j 2 := by
          unfold sp_put
          rw [if_neg (fun z => z.elim h1 (xi_nlt.mpr h2)), hcl]
        refine lv_aload_n E.1 E.2.1 d_M_put_23 rfl (lv_at hl 0 rfl) ?_
        refine lv_lload_n E.1 E.2.1 d_M_put_24 rfl (lv_at hl 1 rfl) ?_
        refine lv_iload_n E.1 E.2.1 d_M_put_25 rfl (lv_at hl 2 rfl) ?_
        refine xl_ti (y := (nI j)) (hkj) ?_
        refine lv_iconst (v := 2) E.1 E.2.1 d_M_put_26 (by decide) ?_
        refine xg_goes (xc_V E xGT (m_write l D b r cJ cZ β n q rd gd j 2 x hn hj64 hne (by decide)) vw_M_write (by decide) (wM.call hP1 hK) (PM.recv hP1 hK) rfl hl.1 rfl (Nat.le_of_ble_eq_true rfl) d_M_put_27) hS1 (fun q _ h => h) (fun q h => h) (fun v st t locs2 h0 hal hrt hS2 hz hkp => ?_) (fun x st t locs1 h0 hal hth => hth.elim)
        obtain ⟨i, rfl, hi, hP2⟩ := hrt
        refine W.eq (g2 := F0 m 30 ls [.int i]) rfl ?_
        generalize t.heap = H2 at hP2 hS2 hz hkp ⊢
        exact xr_iret E hr hk hS2 (fun t ht _ => by rw [hsp]; exact ⟨i, rd, gd, rfl, hi, by rw [ht]; exact hP2⟩) d_M_put_30
      · skip
        exact hj () (Or.inr (xi_nle.mp h2))
set_option maxHeartbeats 4000000 in
set_option maxRecDepth 100000 in
theorem m_putRange (l : Launch) (D : va_G) (b r : Nat) (cJ cZ : ClassId) (β : Nat → Bool) (n q : Nat) (fa : Int32) (rd : Nat) (gd : Bool) (hn : n ≤ 65536) (hne : b ≠ r) (lo hi x : Int64) : xM l y_M_putRange w_M_putRange (xrm 2) [.ref b, .long lo, .long hi, .long x] (wM D b r cJ cZ β n q fa rd gd) (xA2 b r) (xMi (sp_putRange (β, n, q) lo hi x) D b r cZ) (fun _ _ _ => False) := by
  refine xM.of (by decide) ?_
  intro p e s m args below meth c hav E hr hk hh hnm hwM
  subst hav
  obtain ⟨hP, hK⟩ := hwM
  have hS : va_S (xA2 b r) s.heap s.heap [] := va_S.rf
  refine xl_entry _ (Nat.le_of_ble_eq_true rfl) (fun ls hl => ?_)
  have hl : lv_has ls 7 [(0, .ref b), (1, .long lo), (3, .long hi), (5, .long x)] := hl
  refine lv_aload_n E.1 E.2.1 d_M_putRange_0 rfl (lv_at hl 0 rfl) ?_
  refine lv_iconst (v := 0) E.1 E.2.1 d_M_putRange_1 (by decide) ?_
  refine sm_failed E hK hP hne hS d_M_putRange_2 (fun H1 locs1 hP1 hS1 => ?_)
  refine xl_join (fun _ : Unit => x < lo ∨ hi < x) (fun _ => F0 m 19 ls []) (fun _ hkk => ?_) (fun hj => ?_)
  · skip
    have hsp : sp_putRange (β, n, q) lo hi x = (1, 0, (β, n, q)) := by
      unfold sp_putRange
      rw [if_pos hkk]
    refine lv_aload_n E.1 E.2.1 d_M_putRange_19 rfl (lv_at hl 0 rfl) ?_
    refine lv_iconst (v := 1) E.1 E.2.1 d_M_putRange_20 (by decide) ?_
    refine xg_goes (xc_V E xGT (m_fail l D b r cJ cZ β n q 0 rd gd hne 1) vw_M_fail (by decide) (wM.call hP1 hK) (PM.recv hP1 hK) rfl hl.1 rfl (Nat.le_of_ble_eq_true rfl) d_M_putRange_21) hS1 (fun q _ h => h) (fun q h => h) (fun v st t locs2 h0 hal hrt hS2 hz hkp => ?_) (fun x st t locs1 h0 hal hth => hth.elim)
    obtain ⟨rfl, hP2⟩ := hrt
    refine W.eq (g2 := F0 m 24 ls [.int 0]) rfl ?_
    generalize t.heap = H2 at hP2 hS2 hz hkp ⊢
    refine lv_goto (tgt := 43) E.1 E.2.1 d_M_putRange_24 (by decide) ?_
    exact xr_iret E hr hk hS2 (fun t ht _ => xMi.mk hsp (fun z => absurd z (by decide)) (by rw [ht]; exact hP2)) d_M_putRange_43
  · skip
    refine lv_lload E.1 E.2.1 d_M_putRange_5 (lv_at hl 3 rfl) ?_
    refine lv_lload_n E.1 E.2.1 d_M_putRange_7 rfl (lv_at hl 1 rfl) ?_
    refine xl_lc_lt (tgt := 19) E.1 E.2.1 d_M_putRange_8 d_M_putRange_9 (by decide) (fun h1 => ?_) (fun h1 => ?_)
    · skip
      exact hj () (Or.inl h1)
    · skip
      refine lv_lload E.1 E.2.1 d_M_putRange_12 (lv_at hl 3 rfl) ?_
      refine lv_lload_n E.1 E.2.1 d_M_putRange_14 rfl (lv_at hl 2 rfl) ?_
      refine xl_lc_le (tgt := 27) E.1 E.2.1 d_M_putRange_15 d_M_putRange_16 (by decide) (fun h2 => ?_) (fun h2 => ?_)
      · skip
        have h3 : ¬ (x < lo ∨ hi < x) := by
          rintro (z | z)
          · exact h1 z
          · rw [Int64.lt_iff_toInt_lt] at z
            rw [Int64.le_iff_toInt_le] at h2
            omega
        have hsp : sp_putRange (β, n, q) lo hi x = sp_write (β, n, q) (x - lo) (nbl (uN (hi - lo))) 2 := by
          unfold sp_putRange
          rw [if_neg h3]
        refine lv_aload_n E.1 E.2.1 d_M_putRange_27 rfl (lv_at hl 0 rfl) ?_
        refine lv_lload E.1 E.2.1 d_M_putRange_28 (lv_at hl 3 rfl) ?_
        refine lv_lload_n E.1 E.2.1 d_M_putRange_30 rfl (lv_at hl 1 rfl) ?_
        refine lv_lsub E.1 E.2.1 d_M_putRange_31 ?_
        refine lv_aload_n E.1 E.2.1 d_M_putRange_32 rfl (lv_at hl 0 rfl) ?_
        refine lv_lload_n E.1 E.2.1 d_M_putRange_33 rfl (lv_at hl 2 rfl) ?_
        refine lv_lload_n E.1 E.2.1 d_M_putRange_34 rfl (lv_at hl 1 rfl) ?_
        refine lv_lsub E.1 E.2.1 d_M_putRange_35 ?_
        refine xg_looks (xc_V E xGT (m_width l b (hi - lo)) vw_M_width (by decide) xNo (PM.recv hP1 hK) rfl hl.1 rfl (Nat.le_of_ble_eq_true rfl) d_M_putRange_36) (fun v st t h => h.2) (fun v st t h0 hal hrt => ?_) (fun x st t h0 hal hth hz => hth.elim)
        obtain ⟨rfl, -⟩ := hrt
        refine W.eq (g2 := F0 m 39 ls [.int (nI (nbl (uN (hi - lo)))), .long (x - lo), .ref b]) rfl ?_
        refine lv_iconst (v := 2) E.1 E.2.1 d_M_putRange_39 (by decide) ?_
        refine xg_goes (xc_V E xGT (m_write l D b r cJ cZ β n q rd gd (nbl (uN (hi - lo))) 2 (x - lo) hn (nbl_64 _) hne (by decide)) vw_M_write (by decide) (wM.call hP1 hK) (PM.recv hP1 hK) rfl hl.1 rfl (Nat.le_of_ble_eq_true rfl) d_M_putRange_40) hS1 (fun q _ h => h) (fun q h => h) (fun v st t locs2 h0 hal hrt hS2 hz hkp => ?_) (fun x st t locs1 h0 hal hth => hth.elim)
        obtain ⟨i, rfl, hi, hP2⟩ := hrt
        refine W.eq (g2 := F0 m 43 ls [.int i]) rfl ?_
        generalize t.heap = H2 at hP2 hS2 hz hkp ⊢
        exact xr_iret E hr hk hS2 (fun t ht _ => by rw [hsp]; exact ⟨i, rd, gd, rfl, hi, by rw [ht]; exact hP2⟩) d_M_putRange_43
      · skip
        refine hj () (Or.inr ?_)
        rw [Int64.lt_iff_toInt_lt]
        rw [Int64.le_iff_toInt_le] at h2
        omega
set_option maxHeartbeats 4000000 in
set_option maxRecDepth 100000 in
theorem m_fill (l : Launch) (D : va_G) (b r : Nat) (cJ cZ : ClassId) (β : Nat → Bool) (n q : Nat) (fa : Int32) (rd : Nat) (gd : Bool) (hn : n ≤ 65536) (hne : b ≠ r) : xM l y_M_fill w_M_fill (xrm 2) [.ref b] (wM D b r cJ cZ β n q fa rd gd) (xA2 b r) (xMi (sp_fill (β, n, q)) D b r cZ) (fun _ _ _ => False) := by
  refine xM.of (by decide) ?_
  intro p e s m args below meth c hav E hr hk hh hnm hwM
  subst hav
  obtain ⟨hP, hK⟩ := hwM
  have hS : va_S (xA2 b r) s.heap s.heap [] := va_S.rf
  have hf8 : xfill n ≤ 8 := by
    unfold xfill
    split <;> omega
  refine xl_entry _ (Nat.le_of_ble_eq_true rfl) (fun ls hl => ?_)
  have hl : lv_has ls 2 [(0, .ref b)] := hl
  refine lv_aload_n E.1 E.2.1 d_M_fill_0 rfl (lv_at hl 0 rfl) ?_
  refine lv_iconst (v := 0) E.1 E.2.1 d_M_fill_1 (by decide) ?_
  refine sm_failed E hK hP hne hS d_M_fill_2 (fun H1 locs1 hP1 hS1 => ?_)
  clear hP
  have hP := hP1
  refine xl_join (fun z : Int32 => z = nI (xfill n)) (fun z => F0 m 30 ls [.int z]) (fun z hz => ?_) (fun hj => ?_)
  · subst hz
    refine lv_istore_n E.1 E.2.1 d_M_fill_30 rfl hl (by decide) rfl (fun ls hl => ?_)
    have hl : lv_has ls 2 [(1, .int (nI (xfill n))), (0, .ref b)] := hl
    refine lv_aload_n E.1 E.2.1 d_M_fill_31 rfl (lv_at hl 1 rfl) ?_
    refine lv_lconst (v := 0) E.1 E.2.1 d_M_fill_32 (by decide) ?_
    refine lv_iload_n E.1 E.2.1 d_M_fill_33 rfl (lv_at hl 0 rfl) ?_
    refine lv_iconst (v := 1) E.1 E.2.1 d_M_fill_34 (by decide) ?_
    refine xg_goes (xc_V E xGT (m_write l D b r cJ cZ β n q rd gd (xfill n) 1 0 hn (by omega) hne (by decide)) vw_M_write (by decide) (wM.call hP1 hK) (PM.recv hP1 hK) rfl hl.1 rfl (Nat.le_of_ble_eq_true rfl) d_M_fill_35) hS1 (fun q _ h => h) (fun q h => h) (fun v st t locs2 h0 hal hrt hS2 hz hkp => ?_) (fun x st t locs1 h0 hal hth => hth.elim)
    obtain ⟨i, rfl, hi, hP2⟩ := hrt
    refine W.eq (g2 := F0 m 38 ls [.int i]) rfl ?_
    generalize t.heap = H2 at hP2 hS2 hz hkp ⊢
    exact xr_iret E hr hk hS2 (fun t ht _ => ⟨i, rd, gd, rfl, hi, by rw [ht]; exact hP2⟩) d_M_fill_38
  · skip
    refine lv_aload_n E.1 E.2.1 d_M_fill_5 rfl (lv_at hl 0 rfl) ?_
    refine gm_size E hK hP d_M_fill_6 ?_
    refine lv_if_ne (tgt := 17) E.1 E.2.1 d_M_fill_9 (by decide) (fun h1 => ?_) (fun h1 => ?_)
    · skip
      have h1 : ¬ n = 0 := fun z => h1 (by rw [z]; rfl)
      refine lv_bipush (v := 8) E.1 E.2.1 d_M_fill_17 (by decide) ?_
      refine lv_aload_n E.1 E.2.1 d_M_fill_19 rfl (lv_at hl 0 rfl) ?_
      refine gm_size E hK hP d_M_fill_20 ?_
      refine lv_bipush (v := 8) E.1 E.2.1 d_M_fill_23 (by decide) ?_
      refine lv_irem E.1 E.2.1 d_M_fill_25 (by decide) ?_
      refine xl_ti (y := (nI (n % 8))) (pk_rem (by omega) (by decide) (by decide)) ?_
      refine lv_isub E.1 E.2.1 d_M_fill_26 ?_
      refine xl_ti (y := (nI (8 - n % 8))) (pk_sub (a := 8) (b := n % 8) (by omega)) ?_
      refine lv_bipush (v := 8) E.1 E.2.1 d_M_fill_27 (by decide) ?_
      refine lv_irem E.1 E.2.1 d_M_fill_29 (by decide) ?_
      refine hj _ ?_
      unfold xfill
      rw [if_neg h1]
      exact pk_rem (by omega) (by decide) (by decide)
    · skip
      have h1 : n = 0 := (nI_eq (b := 0) (by omega) (by decide)).mp h1
      refine lv_bipush (v := 8) E.1 E.2.1 d_M_fill_12 (by decide) ?_
      refine lv_goto (tgt := 30) E.1 E.2.1 d_M_fill_14 (by decide) ?_
      refine hj _ ?_
      unfold xfill
      rw [if_pos h1]
      rfl
end XL22
end
section
/-! The reference: what reads. -/
section XL23
set_option maxHeartbeats 4000000 in
set_option maxRecDepth 100000 in
theorem m_begin (l : Launch) (D : va_G) (b r : Nat) (cJ cZ : ClassId) (β : Nat → Bool) (n q : Nat) (fa : Int32) (rd : Nat) (gd : Bool) (hne : b ≠ r) : xM l y_M_begin w_M_begin (xrm 0) [.ref b] (wM D b r cJ cZ β n q fa rd gd) (xA2 b r) (fun v _ t => v = none ∧ PM D b r cZ β n q 0 q true t.heap) (fun _ _ _ => False) := by
  refine xM.of (by decide) ?_
  intro p e s m args below meth c hav E hr hk hh hnm hwM
  subst hav
  obtain ⟨hP, hK⟩ := hwM
  have hS : va_S (xA2 b r) s.heap s.heap [] := va_S.rf
  refine xl_entry _ (Nat.le_of_ble_eq_true rfl) (fun ls hl => ?_)
  have hl : lv_has ls 1 [(0, .ref b)] := hl
  refine lv_aload_n E.1 E.2.1 d_M_begin_0 rfl (lv_at hl 0 rfl) ?_
  refine lv_iconst (v := 0) E.1 E.2.1 d_M_begin_1 (by decide) ?_
  refine sm_failed E hK hP hne hS d_M_begin_2 (fun H1 locs1 hP1 hS1 => ?_)
  clear hP
  have hP := hP1
  refine lv_aload_n E.1 E.2.1 d_M_begin_5 rfl (lv_at hl 0 rfl) ?_
  refine lv_aload_n E.1 E.2.1 d_M_begin_6 rfl (lv_at hl 0 rfl) ?_
  refine gm_place E hK hP d_M_begin_7 ?_
  refine sm_reading E hK hP hne hS1 d_M_begin_10 (fun H2 locs2 hP2 hS2 => ?_)
  refine lv_aload_n E.1 E.2.1 d_M_begin_13 rfl (lv_at hl 0 rfl) ?_
  refine lv_iconst (v := 1) E.1 E.2.1 d_M_begin_14 (by decide) ?_
  refine sm_good (g := true) E hK hP2 hne hS2 d_M_begin_15 (fun H3 locs3 hP3 hS3 => ?_)
  exact xr_vret E hr hk hS3 (fun t ht _ => ⟨rfl, by rw [ht]; exact hP3⟩) d_M_begin_18
set_option maxHeartbeats 4000000 in
set_option maxRecDepth 100000 in
theorem m_done (l : Launch) (D : va_G) (b r : Nat) (cJ cZ : ClassId) (β : Nat → Bool) (n q : Nat) (rd : Nat) (gd : Bool) (hne : b ≠ r) (x : Int64) (cd : Nat) : xM l y_M_done w_M_done (xrm 1) [.ref b, .long x, .int (nI cd)] (wM D b r cJ cZ β n q 0 rd gd) (xA2 b r) (fun v _ t => (gd = true ∧ v = some (.long x) ∧ PM D b r cZ β n rd 0 rd gd t.heap) ∨ (gd = false ∧ v = some (.long 0) ∧ PM D b r cZ β n q (nI cd) rd gd t.heap)) (fun _ _ _ => False) := by
  refine xM.of (by decide) ?_
  intro p e s m args below meth c hav E hr hk hh hnm hwM
  subst hav
  obtain ⟨hP, hK⟩ := hwM
  have hS : va_S (xA2 b r) s.heap s.heap [] := va_S.rf
  refine xl_entry _ (Nat.le_of_ble_eq_true rfl) (fun ls hl => ?_)
  have hl : lv_has ls 4 [(0, .ref b), (1, .long x), (3, .int (nI cd))] := hl
  refine lv_aload_n E.1 E.2.1 d_M_done_0 rfl (lv_at hl 0 rfl) ?_
  refine gm_good E hK hP d_M_done_1 ?_
  refine lv_if_ne (tgt := 14) E.1 E.2.1 d_M_done_4 (by decide) (fun h1 => ?_) (fun h1 => ?_)
  · skip
    have h1 : gd = true := by
      cases gd
      · exact absurd rfl h1
      · rfl
    refine lv_aload_n E.1 E.2.1 d_M_done_14 rfl (lv_at hl 0 rfl) ?_
    refine lv_aload_n E.1 E.2.1 d_M_done_15 rfl (lv_at hl 0 rfl) ?_
    refine gm_reading E hK hP d_M_done_16 ?_
    refine sm_place E hK hP hne hS d_M_done_19 (fun H1 locs1 hP1 hS1 => ?_)
    refine lv_lload_n E.1 E.2.1 d_M_done_22 rfl (lv_at hl 1 rfl) ?_
    exact xr_lret E hr hk hS1 (fun t ht _ => Or.inl ⟨h1, rfl, by rw [ht]; exact hP1⟩) d_M_done_23
  · skip
    have h1 : gd = false := by
      cases gd
      · rfl
      · exact absurd h1 (by decide)
    refine lv_aload_n E.1 E.2.1 d_M_done_7 rfl (lv_at hl 0 rfl) ?_
    refine lv_iload_n E.1 E.2.1 d_M_done_8 rfl (lv_at hl 2 rfl) ?_
    refine xg_goes (xc_V E xGT (m_fail l D b r cJ cZ β n q 0 rd gd hne (nI cd)) vw_M_fail (by decide) (wM.call hP hK) (PM.recv hP hK) rfl hl.1 rfl (Nat.le_of_ble_eq_true rfl) d_M_done_9) hS (fun q _ h => h) (fun q h => h) (fun v st t locs1 h0 hal hrt hS1 hz hkp => ?_) (fun x st t locs1 h0 hal hth => hth.elim)
    obtain ⟨rfl, hP1⟩ := hrt
    refine W.eq (g2 := F0 m 12 ls [.int 0]) rfl ?_
    generalize t.heap = H1 at hP1 hS1 hz hkp ⊢
    refine lv_i2l (v := (0 : Int32).toInt64) E.1 E.2.1 d_M_done_12 rfl ?_
    exact xr_lret E hr hk hS1 (fun t ht _ => Or.inr ⟨h1, rfl, by rw [ht]; exact hP1⟩) d_M_done_13
set_option maxHeartbeats 4000000 in
set_option maxRecDepth 100000 in
theorem m_get (l : Launch) (D : va_G) (b r : Nat) (cJ cZ : ClassId) (β : Nat → Bool) (n q : Nat) (fa : Int32) (rd : Nat) (gd : Bool) (k : Nat) (hn : n ≤ 65536) (hrd : rd ≤ 65536) (hk64 : k ≤ 64) (hne : b ≠ r) : xM l y_M_get w_M_get (xrm 0) [.ref b, .int (nI k)] (wM D b r cJ cZ β n q fa rd gd) (xA2 b r) (fun v _ t => (gd = true ∧ rd + k ≤ n ∧ v = some (.long (lN (xv β rd k))) ∧ PM D b r cZ β n q fa (rd + k) true t.heap) ∨ (¬ (gd = true ∧ rd + k ≤ n) ∧ v = some (.long 0) ∧ PM D b r cZ β n q fa rd false t.heap)) (fun _ _ _ => False) := by
  refine xM.of (by decide) ?_
  intro p e s m args below meth c hav E hr hk hh hnm hwM
  subst hav
  obtain ⟨hP, hK⟩ := hwM
  have hS : va_S (xA2 b r) s.heap s.heap [] := va_S.rf
  have key : ∀ (d i : Nat) (H : Heap) (locs : List Loc) (ls : Array Slot), gd = true → rd + k ≤ n → i + d = k → PM D b r cZ β n q fa (rd + i) true H → va_S (xA2 b r) s.heap H locs → lv_has ls 5 [(4, .int (nI i)), (2, .long (lN (xv β rd i))), (0, .ref b), (1, .int (nI k))] →
      W p l e (xrm 0) s m [Value.ref b, .int (nI k)].toArray below meth c H locs 0 0 (xl_MQ below (xl_Q (xA2 b r) (fun v _ t => (gd = true ∧ rd + k ≤ n ∧ v = some (.long (lN (xv β rd k))) ∧ PM D b r cZ β n q fa (rd + k) true t.heap) ∨ (¬ (gd = true ∧ rd + k ≤ n) ∧ v = some (.long 0) ∧ PM D b r cZ β n q fa rd false t.heap)) (fun _ _ _ => False)) [Value.ref b, .int (nI k)].toArray s (xl_k 0 1) (xl_k 0 6) (xA2 b r)) (F0 m 23 ls []) := by
    intro d
    induction d with
    | zero =>
      intro i H locs ls hgd hrk hid hP hS hl
      have hik : i = k := hid
      subst hik
      refine lv_iload E.1 E.2.1 d_M_get_23 (lv_at hl 0 rfl) ?_
      refine lv_iload_n E.1 E.2.1 d_M_get_25 rfl (lv_at hl 3 rfl) ?_
      refine lv_icmp_ge (tgt := 74) E.1 E.2.1 d_M_get_26 (by decide) (fun h1 => ?_) (fun h1 => ?_)
      · skip
        refine lv_lload_n E.1 E.2.1 d_M_get_74 rfl (lv_at hl 1 rfl) ?_
        exact xr_lret E hr hk hS (fun t ht _ => Or.inl ⟨hgd, hrk, rfl, by rw [ht]; exact hP⟩) d_M_get_75
      · skip
        exact absurd (nI_le (Nat.le_refl _) (by omega)) h1
    | succ d ih =>
      intro i H locs ls hgd hrk hid hP hS hl
      refine lv_iload E.1 E.2.1 d_M_get_23 (lv_at hl 0 rfl) ?_
      refine lv_iload_n E.1 E.2.1 d_M_get_25 rfl (lv_at hl 3 rfl) ?_
      refine lv_icmp_ge (tgt := 74) E.1 E.2.1 d_M_get_26 (by decide) (fun h1 => ?_) (fun h1 => ?_)
      · skip
        exact absurd ((nI_leI (by omega) (by omega)).mp h1) (by omega)
      · skip
        refine lv_aload_n E.1 E.2.1 d_M_get_29 rfl (lv_at hl 2 rfl) ?_
        refine gm_good E hK hP d_M_get_30 ?_
        refine lv_if_eq (tgt := 74) E.1 E.2.1 d_M_get_33 (by decide) (fun h2 => ?_) (fun h2 => ?_)
        · skip
          exact absurd h2 (by decide)
        · skip
          refine lv_lload_n E.1 E.2.1 d_M_get_36 rfl (lv_at hl 1 rfl) ?_
          refine lv_iconst (v := 1) E.1 E.2.1 d_M_get_37 (by decide) ?_
          refine lv_lshl (v := xsl (lN (xv β rd i)) 1) E.1 E.2.1 d_M_get_38 rfl ?_
          refine lv_aload_n E.1 E.2.1 d_M_get_39 rfl (lv_at hl 2 rfl) ?_
          refine gm_row E hK hP d_M_get_40 ?_
          refine lv_aload_n E.1 E.2.1 d_M_get_43 rfl (lv_at hl 2 rfl) ?_
          refine gm_reading E hK hP d_M_get_44 ?_
          refine va_zald E.1 E.2.1 hK hP 1 1 rfl rfl (vp_in_nI (by omega) (by decide)) d_M_get_47 ?_
          refine xl_ti (y := (nI (β (rd + i)).toNat)) (by rw [nI_clamp (by omega)]; exact xz_n β (rd + i)) ?_
          refine xl_join (fun z : Int64 => z = lN (β (rd + i)).toNat) (fun z => F0 m 56 ls [.long z, .long (xsl (lN (xv β rd i)) 1)]) (fun z hz => ?_) (fun hj => ?_)
          · subst hz
            refine lv_lor E.1 E.2.1 d_M_get_56 ?_
            refine xl_tl (y := (lN (xv β rd (i + 1)))) (xv_step (by omega)) ?_
            refine lv_lstore_n E.1 E.2.1 d_M_get_57 rfl hl (by decide) rfl (fun ls hl => ?_)
            have hl : lv_has ls 5 [(2, .long (lN (xv β rd (i + 1)))), (4, .int (nI i)), (0, .ref b), (1, .int (nI k))] := hl
            refine lv_aload_n E.1 E.2.1 d_M_get_58 rfl (lv_at hl 2 rfl) ?_
            refine lv_dup E.1 E.2.1 d_M_get_59 rfl ?_
            refine gm_reading E hK hP d_M_get_60 ?_
            refine lv_iconst (v := 1) E.1 E.2.1 d_M_get_63 (by decide) ?_
            refine lv_iadd E.1 E.2.1 d_M_get_64 ?_
            refine xl_ti (y := (nI (rd + (i + 1)))) (nI_1 (rd + i)) ?_
            refine sm_reading E hK hP hne hS d_M_get_65 (fun H2 locs2 hP2 hS2 => ?_)
            refine lv_iinc (k := 1) (v := (nI i) + 1) E.1 E.2.1 d_M_get_68 hl rfl rfl (by decide) rfl (fun ls hl => ?_)
            have hl : lv_has ls 5 [(4, .int ((nI i) + 1)), (2, .long (lN (xv β rd (i + 1)))), (0, .ref b), (1, .int (nI k))] := hl
            refine lv_goto (tgt := 23) E.1 E.2.1 d_M_get_71 (by decide) ?_
            rw [nI_1] at hl
            exact ih (i + 1) H2 locs2 ls hgd hrk (by omega) hP2 hS2 hl
          · skip
            refine lv_if_eq (tgt := 55) E.1 E.2.1 d_M_get_48 (by decide) (fun h3 => ?_) (fun h3 => ?_)
            · skip
              refine lv_lconst (v := 0) E.1 E.2.1 d_M_get_55 (by decide) ?_
              refine hj _ ?_
              cases hb : β (rd + i)
              · rfl
              · rw [hb] at h3
                exact absurd h3 (by decide)
            · skip
              refine lv_lconst (v := 1) E.1 E.2.1 d_M_get_51 (by decide) ?_
              refine lv_goto (tgt := 56) E.1 E.2.1 d_M_get_52 (by decide) ?_
              refine hj _ ?_
              cases hb : β (rd + i)
              · rw [hb] at h3
                exact absurd rfl h3
              · rfl
  have bad : ∀ (H : Heap) (locs : List Loc) (ls : Array Slot), ¬ (gd = true ∧ rd + k ≤ n) → PM D b r cZ β n q fa rd false H → va_S (xA2 b r) s.heap H locs → lv_has ls 5 [(0, .ref b), (1, .int (nI k))] →
      W p l e (xrm 0) s m [Value.ref b, .int (nI k)].toArray below meth c H locs 0 0 (xl_MQ below (xl_Q (xA2 b r) (fun v _ t => (gd = true ∧ rd + k ≤ n ∧ v = some (.long (lN (xv β rd k))) ∧ PM D b r cZ β n q fa (rd + k) true t.heap) ∨ (¬ (gd = true ∧ rd + k ≤ n) ∧ v = some (.long 0) ∧ PM D b r cZ β n q fa rd false t.heap)) (fun _ _ _ => False)) [Value.ref b, .int (nI k)].toArray s (xl_k 0 1) (xl_k 0 6) (xA2 b r)) (F0 m 18 ls []) := by
    intro H locs ls hno hP hS hl
    refine lv_lconst (v := 0) E.1 E.2.1 d_M_get_18 (by decide) ?_
    refine lv_lstore_n E.1 E.2.1 d_M_get_19 rfl hl (by decide) rfl (fun ls hl => ?_)
    have hl : lv_has ls 5 [(2, .long 0), (0, .ref b), (1, .int (nI k))] := hl
    refine lv_iconst (v := 0) E.1 E.2.1 d_M_get_20 (by decide) ?_
    refine lv_istore E.1 E.2.1 d_M_get_21 hl (by decide) rfl (fun ls hl => ?_)
    have hl : lv_has ls 5 [(4, .int 0), (2, .long 0), (0, .ref b), (1, .int (nI k))] := hl
    refine lv_iload E.1 E.2.1 d_M_get_23 (lv_at hl 0 rfl) ?_
    refine lv_iload_n E.1 E.2.1 d_M_get_25 rfl (lv_at hl 3 rfl) ?_
    refine lv_icmp_ge (tgt := 74) E.1 E.2.1 d_M_get_26 (by decide) (fun h1 => ?_) (fun h1 => ?_)
    · skip
      refine lv_lload_n E.1 E.2.1 d_M_get_74 rfl (lv_at hl 1 rfl) ?_
      exact xr_lret E hr hk hS (fun t ht _ => Or.inr ⟨hno, rfl, by rw [ht]; exact hP⟩) d_M_get_75
    · skip
      refine lv_aload_n E.1 E.2.1 d_M_get_29 rfl (lv_at hl 2 rfl) ?_
      refine gm_good E hK hP d_M_get_30 ?_
      refine lv_if_eq (tgt := 74) E.1 E.2.1 d_M_get_33 (by decide) (fun h2 => ?_) (fun h2 => ?_)
      · skip
        refine lv_lload_n E.1 E.2.1 d_M_get_74 rfl (lv_at hl 1 rfl) ?_
        exact xr_lret E hr hk hS (fun t ht _ => Or.inr ⟨hno, rfl, by rw [ht]; exact hP⟩) d_M_get_75
      · skip
        exact absurd rfl h2
  refine xl_entry _ (Nat.le_of_ble_eq_true rfl) (fun ls hl => ?_)
  have hl : lv_has ls 5 [(0, .ref b), (1, .int (nI k))] := hl
  refine lv_aload_n E.1 E.2.1 d_M_get_0 rfl (lv_at hl 0 rfl) ?_
  refine gm_reading E hK hP d_M_get_1 ?_
  refine lv_iload_n E.1 E.2.1 d_M_get_4 rfl (lv_at hl 1 rfl) ?_
  refine lv_iadd E.1 E.2.1 d_M_get_5 ?_
  refine xl_ti (y := (nI (rd + k))) (nI_add rd k) ?_
  refine lv_aload_n E.1 E.2.1 d_M_get_6 rfl (lv_at hl 0 rfl) ?_
  refine gm_size E hK hP d_M_get_7 ?_
  refine lv_icmp_le (tgt := 18) E.1 E.2.1 d_M_get_10 (by decide) (fun h1 => ?_) (fun h1 => ?_)
  · skip
    have h1 : rd + k ≤ n := (nI_leI (by omega) (by omega)).mp h1
    by_cases hg : gd = true
    · subst hg
      refine lv_lconst (v := 0) E.1 E.2.1 d_M_get_18 (by decide) ?_
      refine lv_lstore_n E.1 E.2.1 d_M_get_19 rfl hl (by decide) rfl (fun ls hl => ?_)
      have hl : lv_has ls 5 [(2, .long 0), (0, .ref b), (1, .int (nI k))] := hl
      refine lv_iconst (v := 0) E.1 E.2.1 d_M_get_20 (by decide) ?_
      refine lv_istore E.1 E.2.1 d_M_get_21 hl (by decide) rfl (fun ls hl => ?_)
      have hl : lv_has ls 5 [(4, .int 0), (2, .long 0), (0, .ref b), (1, .int (nI k))] := hl
      exact key k 0 s.heap [] ls rfl h1 (Nat.zero_add k) hP hS hl
    · have hg : gd = false := by
        cases gd
        · rfl
        · exact absurd rfl hg
      subst hg
      exact bad s.heap [] ls (fun z => absurd z.1 (by decide)) hP hS hl
  · skip
    have h1 : ¬ rd + k ≤ n := fun z => h1 ((nI_leI (by omega) (by omega)).mpr z)
    refine lv_aload_n E.1 E.2.1 d_M_get_13 rfl (lv_at hl 0 rfl) ?_
    refine lv_iconst (v := 0) E.1 E.2.1 d_M_get_14 (by decide) ?_
    refine sm_good (g := false) E hK hP hne hS d_M_get_15 (fun H1 locs1 hP1 hS1 => ?_)
    exact bad H1 locs1 ls (fun z => h1 z.2) hP1 hS1 hl
end XL23
end
section
/-! The reference: the calls that move. -/
section XL24
set_option maxHeartbeats 4000000 in
set_option maxRecDepth 100000 in
theorem m_go (l : Launch) (D : va_G) (b r : Nat) (cJ cZ : ClassId) (β : Nat → Bool) (n q : Nat) (fa : Int32) (rd : Nat) (gd : Bool) (hn : n ≤ 65536) (hq : q ≤ n) (hne : b ≠ r) (k : Int32) : xM l y_M_go w_M_go (xrm 2) [.ref b, .int k] (wM D b r cJ cZ β n q fa rd gd) (xA2 b r) (xMi (sp_go (β, n, q) k) D b r cZ) (fun _ _ _ => False) := by
  refine xM.of (by decide) ?_
  intro p e s m args below meth c hav E hr hk hh hnm hwM
  subst hav
  obtain ⟨hP, hK⟩ := hwM
  have hS : va_S (xA2 b r) s.heap s.heap [] := va_S.rf
  refine xl_entry _ (Nat.le_of_ble_eq_true rfl) (fun ls hl => ?_)
  have hl : lv_has ls 3 [(0, .ref b), (1, .int k)] := hl
  refine lv_aload_n E.1 E.2.1 d_M_go_0 rfl (lv_at hl 0 rfl) ?_
  refine lv_iconst (v := 0) E.1 E.2.1 d_M_go_1 (by decide) ?_
  refine sm_failed E hK hP hne hS d_M_go_2 (fun H1 locs1 hP1 hS1 => ?_)
  clear hP hS
  have hP := hP1
  refine xl_join (fun _ : Unit => k < 0 ∨ nI n < k) (fun _ => F0 m 17 ls []) (fun _ hkk => ?_) (fun hj => ?_)
  · skip
    have hsp : sp_go (β, n, q) k = (1, 0, (β, n, q)) := by
      unfold sp_go
      rw [if_pos hkk]
    refine lv_aload_n E.1 E.2.1 d_M_go_17 rfl (lv_at hl 0 rfl) ?_
    refine lv_iconst (v := 1) E.1 E.2.1 d_M_go_18 (by decide) ?_
    refine xg_goes (xc_V E xGT (m_fail l D b r cJ cZ β n q 0 rd gd hne 1) vw_M_fail (by decide) (wM.call hP hK) (PM.recv hP hK) rfl hl.1 rfl (Nat.le_of_ble_eq_true rfl) d_M_go_19) hS1 (fun q _ h => h) (fun q h => h) (fun v st t locs1 h0 hal hrt hS2 hz hkp => ?_) (fun x st t locs1 h0 hal hth => hth.elim)
    obtain ⟨rfl, hP2⟩ := hrt
    refine W.eq (g2 := F0 m 22 ls [.int 0]) rfl ?_
    generalize t.heap = H2 at hP2 hS2 hz hkp ⊢
    exact xr_iret E hr hk hS2 (fun t ht _ => xMi.mk hsp (fun z => absurd z (by decide)) (by rw [ht]; exact hP2)) d_M_go_22
  · skip
    refine lv_iload_n E.1 E.2.1 d_M_go_5 rfl (lv_at hl 1 rfl) ?_
    refine lv_if_lt (tgt := 17) E.1 E.2.1 d_M_go_6 (by decide) (fun h1 => ?_) (fun h1 => ?_)
    · skip
      exact hj () (Or.inl h1)
    · skip
      refine lv_iload_n E.1 E.2.1 d_M_go_9 rfl (lv_at hl 1 rfl) ?_
      refine lv_aload_n E.1 E.2.1 d_M_go_10 rfl (lv_at hl 0 rfl) ?_
      refine gm_size E hK hP d_M_go_11 ?_
      refine lv_icmp_le (tgt := 23) E.1 E.2.1 d_M_go_14 (by decide) (fun h2 => ?_) (fun h2 => ?_)
      · skip
        obtain ⟨j, hjb, hkj⟩ := nI_of h1
        have hcl := xcl64 hkj hjb
        have hsp : sp_go (β, n, q) k = (0, lN q, (β, n, j)) := by
          unfold sp_go
          rw [if_neg (fun z => z.elim h1 (xi_nlt.mpr h2)), hcl]
        refine lv_aload_n E.1 E.2.1 d_M_go_23 rfl (lv_at hl 0 rfl) ?_
        refine gm_place E hK hP d_M_go_24 ?_
        refine lv_istore_n E.1 E.2.1 d_M_go_27 rfl hl (by decide) rfl (fun ls hl => ?_)
        have hl : lv_has ls 3 [(2, .int (nI q)), (0, .ref b), (1, .int k)] := hl
        refine lv_aload_n E.1 E.2.1 d_M_go_28 rfl (lv_at hl 1 rfl) ?_
        refine lv_iload_n E.1 E.2.1 d_M_go_29 rfl (lv_at hl 2 rfl) ?_
        refine xl_ti (y := (nI j)) (hkj) ?_
        refine sm_place E hK hP hne hS1 d_M_go_30 (fun H2 locs2 hP2 hS2 => ?_)
        refine lv_iload_n E.1 E.2.1 d_M_go_33 rfl (lv_at hl 0 rfl) ?_
        exact xr_iret E hr hk hS2 (fun t ht _ => xMi.mk hsp (fun _ => nI_l (by omega)) (by rw [ht]; exact hP2)) d_M_go_34
      · skip
        exact hj () (Or.inr (xi_nle.mp h2))
set_option maxHeartbeats 4000000 in
set_option maxRecDepth 100000 in
theorem m_cut (l : Launch) (D : va_G) (b r : Nat) (cJ cZ : ClassId) (β : Nat → Bool) (n q : Nat) (fa : Int32) (rd : Nat) (gd : Bool) (hn : n ≤ 65536) (hq : q ≤ n) (hne : b ≠ r) (k : Int32) : xM l y_M_cut w_M_cut (xrm 2) [.ref b, .int k] (wM D b r cJ cZ β n q fa rd gd) (xA2 b r) (xMi (sp_cut (β, n, q) k) D b r cZ) (fun _ _ _ => False) := by
  refine xM.of (by decide) ?_
  intro p e s m args below meth c hav E hr hk hh hnm hwM
  subst hav
  obtain ⟨hP, hK⟩ := hwM
  have hS : va_S (xA2 b r) s.heap s.heap [] := va_S.rf
  refine xl_entry _ (Nat.le_of_ble_eq_true rfl) (fun ls hl => ?_)
  have hl : lv_has ls 3 [(0, .ref b), (1, .int k)] := hl
  refine lv_aload_n E.1 E.2.1 d_M_cut_0 rfl (lv_at hl 0 rfl) ?_
  refine lv_iconst (v := 0) E.1 E.2.1 d_M_cut_1 (by decide) ?_
  refine sm_failed E hK hP hne hS d_M_cut_2 (fun H1 locs1 hP1 hS1 => ?_)
  clear hP hS
  have hP := hP1
  refine xl_join (fun _ : Unit => k < 0 ∨ nI n < k) (fun _ => F0 m 17 ls []) (fun _ hkk => ?_) (fun hj => ?_)
  · skip
    have hsp : sp_cut (β, n, q) k = (1, 0, (β, n, q)) := by
      unfold sp_cut
      rw [if_pos hkk]
    refine lv_aload_n E.1 E.2.1 d_M_cut_17 rfl (lv_at hl 0 rfl) ?_
    refine lv_iconst (v := 1) E.1 E.2.1 d_M_cut_18 (by decide) ?_
    refine xg_goes (xc_V E xGT (m_fail l D b r cJ cZ β n q 0 rd gd hne 1) vw_M_fail (by decide) (wM.call hP hK) (PM.recv hP hK) rfl hl.1 rfl (Nat.le_of_ble_eq_true rfl) d_M_cut_19) hS1 (fun q _ h => h) (fun q h => h) (fun v st t locs1 h0 hal hrt hS2 hz hkp => ?_) (fun x st t locs1 h0 hal hth => hth.elim)
    obtain ⟨rfl, hP2⟩ := hrt
    refine W.eq (g2 := F0 m 22 ls [.int 0]) rfl ?_
    generalize t.heap = H2 at hP2 hS2 hz hkp ⊢
    exact xr_iret E hr hk hS2 (fun t ht _ => xMi.mk hsp (fun z => absurd z (by decide)) (by rw [ht]; exact hP2)) d_M_cut_22
  · skip
    refine lv_iload_n E.1 E.2.1 d_M_cut_5 rfl (lv_at hl 1 rfl) ?_
    refine lv_if_lt (tgt := 17) E.1 E.2.1 d_M_cut_6 (by decide) (fun h1 => ?_) (fun h1 => ?_)
    · skip
      exact hj () (Or.inl h1)
    · skip
      refine lv_iload_n E.1 E.2.1 d_M_cut_9 rfl (lv_at hl 1 rfl) ?_
      refine lv_aload_n E.1 E.2.1 d_M_cut_10 rfl (lv_at hl 0 rfl) ?_
      refine gm_size E hK hP d_M_cut_11 ?_
      refine lv_icmp_le (tgt := 23) E.1 E.2.1 d_M_cut_14 (by decide) (fun h2 => ?_) (fun h2 => ?_)
      · skip
        obtain ⟨j, hjb, hkj⟩ := nI_of h1
        have hcl := xcl64 hkj hjb
        have hsp : sp_cut (β, n, q) k = (0, lN n, (β, j, min q j)) := by
          unfold sp_cut
          rw [if_neg (fun z => z.elim h1 (xi_nlt.mpr h2)), hcl]
        refine lv_aload_n E.1 E.2.1 d_M_cut_23 rfl (lv_at hl 0 rfl) ?_
        refine gm_size E hK hP d_M_cut_24 ?_
        refine lv_istore_n E.1 E.2.1 d_M_cut_27 rfl hl (by decide) rfl (fun ls hl => ?_)
        have hl : lv_has ls 3 [(2, .int (nI n)), (0, .ref b), (1, .int k)] := hl
        refine lv_aload_n E.1 E.2.1 d_M_cut_28 rfl (lv_at hl 1 rfl) ?_
        refine lv_iload_n E.1 E.2.1 d_M_cut_29 rfl (lv_at hl 2 rfl) ?_
        refine xl_ti (y := (nI j)) (hkj) ?_
        refine sm_size E hK hP hne hS1 d_M_cut_30 (fun H2 locs2 hP2 hS2 => ?_)
        clear hP
        have hP := hP2
        refine lv_aload_n E.1 E.2.1 d_M_cut_33 rfl (lv_at hl 1 rfl) ?_
        refine lv_aload_n E.1 E.2.1 d_M_cut_34 rfl (lv_at hl 1 rfl) ?_
        refine gm_place E hK hP d_M_cut_35 ?_
        refine lv_iload_n E.1 E.2.1 d_M_cut_38 rfl (lv_at hl 2 rfl) ?_
        refine xl_ti (y := (nI j)) (hkj) ?_
        refine va_mmin E.1 E.2.1 (by rw [E.2.2.1, hl.1]) E.2.2.2.1 (E.2.2.2.2 _ ml_M_min) (E.2.2.2.2 _ ml_min_static) (E.2.2.2.2 _ ml_Math_init) (E.2.2.2.2 _ ml_min_code) (by decide) (Nat.le_of_ble_eq_true rfl) (by decide) (by decide) d_M_cut_39 ?_
        refine xl_ti (y := (nI (min q j))) (xmin (by omega) hjb) ?_
        refine sm_place E hK hP hne hS2 d_M_cut_42 (fun H3 locs3 hP3 hS3 => ?_)
        refine lv_iload_n E.1 E.2.1 d_M_cut_45 rfl (lv_at hl 0 rfl) ?_
        exact xr_iret E hr hk hS3 (fun t ht _ => xMi.mk hsp (fun _ => nI_l (by omega)) (by rw [ht]; exact hP3)) d_M_cut_46
      · skip
        exact hj () (Or.inr (xi_nle.mp h2))
set_option maxHeartbeats 4000000 in
set_option maxRecDepth 100000 in
theorem m_count (l : Launch) (D : va_G) (b r : Nat) (cJ cZ : ClassId) (β : Nat → Bool) (n q : Nat) (fa : Int32) (rd : Nat) (gd : Bool) (hn : n ≤ 65536) (hq : q ≤ n) (hne : b ≠ r) (k : Int32) : xM l y_M_count w_M_count (xrm 2) [.ref b, .int k] (wM D b r cJ cZ β n q fa rd gd) (xA2 b r) (xMi (sp_count (β, n, q) k) D b r cZ) (fun _ _ _ => False) := by
  refine xM.of (by decide) ?_
  intro p e s m args below meth c hav E hr hk hh hnm hwM
  subst hav
  obtain ⟨hP, hK⟩ := hwM
  have hS : va_S (xA2 b r) s.heap s.heap [] := va_S.rf
  refine xl_entry _ (Nat.le_of_ble_eq_true rfl) (fun ls hl => ?_)
  have hl : lv_has ls 2 [(0, .ref b), (1, .int k)] := hl
  refine lv_aload_n E.1 E.2.1 d_M_count_0 rfl (lv_at hl 0 rfl) ?_
  refine lv_iconst (v := 0) E.1 E.2.1 d_M_count_1 (by decide) ?_
  refine sm_failed E hK hP hne hS d_M_count_2 (fun H1 locs1 hP1 hS1 => ?_)
  clear hP hS
  have hP := hP1
  refine lv_iload_n E.1 E.2.1 d_M_count_5 rfl (lv_at hl 1 rfl) ?_
  refine lv_if_ne (tgt := 16) E.1 E.2.1 d_M_count_6 (by decide) (fun h1 => ?_) (fun h1 => ?_)
  · skip
    refine lv_iload_n E.1 E.2.1 d_M_count_16 rfl (lv_at hl 1 rfl) ?_
    refine lv_iconst (v := 1) E.1 E.2.1 d_M_count_17 (by decide) ?_
    refine lv_icmp_ne (tgt := 28) E.1 E.2.1 d_M_count_18 (by decide) (fun h2 => ?_) (fun h2 => ?_)
    · skip
      have hsp : sp_count (β, n, q) k = (1, 0, (β, n, q)) := by
        unfold sp_count
        rw [if_neg h1, if_neg h2]
      refine lv_aload_n E.1 E.2.1 d_M_count_28 rfl (lv_at hl 0 rfl) ?_
      refine lv_iconst (v := 1) E.1 E.2.1 d_M_count_29 (by decide) ?_
      refine xg_goes (xc_V E xGT (m_fail l D b r cJ cZ β n q 0 rd gd hne 1) vw_M_fail (by decide) (wM.call hP hK) (PM.recv hP hK) rfl hl.1 rfl (Nat.le_of_ble_eq_true rfl) d_M_count_30) hS1 (fun q _ h => h) (fun q h => h) (fun v st t locs1 h0 hal hrt hS2 hz hkp => ?_) (fun x st t locs1 h0 hal hth => hth.elim)
      obtain ⟨rfl, hP2⟩ := hrt
      refine W.eq (g2 := F0 m 33 ls [.int 0]) rfl ?_
      generalize t.heap = H2 at hP2 hS2 hz hkp ⊢
      exact xr_iret E hr hk hS2 (fun t ht _ => xMi.mk hsp (fun z => absurd z (by decide)) (by rw [ht]; exact hP2)) d_M_count_33
    · skip
      have hsp : sp_count (β, n, q) k = (0, lN q, (β, n, q)) := by
        unfold sp_count
        rw [if_neg h1, if_pos h2]
      refine lv_aload_n E.1 E.2.1 d_M_count_21 rfl (lv_at hl 0 rfl) ?_
      refine gm_place E hK hP d_M_count_22 ?_
      refine lv_goto (tgt := 33) E.1 E.2.1 d_M_count_25 (by decide) ?_
      exact xr_iret E hr hk hS1 (fun t ht _ => xMi.mk hsp (fun _ => nI_l (by omega)) (by rw [ht]; exact hP)) d_M_count_33
  · skip
    have hsp : sp_count (β, n, q) k = (0, lN n, (β, n, q)) := by
      unfold sp_count
      rw [if_pos h1]
    refine lv_aload_n E.1 E.2.1 d_M_count_9 rfl (lv_at hl 0 rfl) ?_
    refine gm_size E hK hP d_M_count_10 ?_
    refine lv_goto (tgt := 33) E.1 E.2.1 d_M_count_13 (by decide) ?_
    exact xr_iret E hr hk hS1 (fun t ht _ => xMi.mk hsp (fun _ => nI_l (by omega)) (by rw [ht]; exact hP)) d_M_count_33
set_option maxHeartbeats 4000000 in
set_option maxRecDepth 100000 in
theorem m_turn (l : Launch) (D : va_G) (b r : Nat) (cJ cZ : ClassId) (β : Nat → Bool) (n q : Nat) (fa : Int32) (rd : Nat) (gd : Bool) (hn : n ≤ 65536) (hq : q ≤ n) (hne : b ≠ r) (k : Int32) : xM l y_M_turn w_M_turn (xrm 2) [.ref b, .int k] (wM D b r cJ cZ β n q fa rd gd) (xA2 b r) (xMi (sp_turn (β, n, q) k) D b r cZ) (fun _ _ _ => False) := by
  refine xM.of (by decide) ?_
  intro p e s m args below meth c hav E hr hk hh hnm hwM
  subst hav
  obtain ⟨hP, hK⟩ := hwM
  have hS : va_S (xA2 b r) s.heap s.heap [] := va_S.rf
  refine xl_entry _ (Nat.le_of_ble_eq_true rfl) (fun ls hl => ?_)
  have hl : lv_has ls 2 [(0, .ref b), (1, .int k)] := hl
  refine lv_aload_n E.1 E.2.1 d_M_turn_0 rfl (lv_at hl 0 rfl) ?_
  refine lv_iconst (v := 0) E.1 E.2.1 d_M_turn_1 (by decide) ?_
  refine sm_failed E hK hP hne hS d_M_turn_2 (fun H1 locs1 hP1 hS1 => ?_)
  clear hP hS
  have hP := hP1
  refine xl_join (fun _ : Unit => k < 0 ∨ nI n ≤ k) (fun _ => F0 m 17 ls []) (fun _ hkk => ?_) (fun hj => ?_)
  · skip
    have hsp : sp_turn (β, n, q) k = (1, 0, (β, n, q)) := by
      unfold sp_turn
      rw [if_pos hkk]
    refine lv_aload_n E.1 E.2.1 d_M_turn_17 rfl (lv_at hl 0 rfl) ?_
    refine lv_iconst (v := 1) E.1 E.2.1 d_M_turn_18 (by decide) ?_
    refine xg_goes (xc_V E xGT (m_fail l D b r cJ cZ β n q 0 rd gd hne 1) vw_M_fail (by decide) (wM.call hP hK) (PM.recv hP hK) rfl hl.1 rfl (Nat.le_of_ble_eq_true rfl) d_M_turn_19) hS1 (fun q _ h => h) (fun q h => h) (fun v st t locs1 h0 hal hrt hS2 hz hkp => ?_) (fun x st t locs1 h0 hal hth => hth.elim)
    obtain ⟨rfl, hP2⟩ := hrt
    refine W.eq (g2 := F0 m 22 ls [.int 0]) rfl ?_
    generalize t.heap = H2 at hP2 hS2 hz hkp ⊢
    refine lv_if_le (tgt := 29) E.1 E.2.1 d_M_turn_22 (by decide) (fun h3 => ?_) (fun h3 => ?_)
    · skip
      refine lv_iconst (v := 0) E.1 E.2.1 d_M_turn_29 (by decide) ?_
      exact xr_zret E hr hk (by decide) hS2 (fun t ht _ => xMi.mk hsp (fun z => absurd z (by decide)) (by rw [ht]; exact hP2)) d_M_turn_30
    · skip
      exact absurd (by decide) h3
  · skip
    refine lv_iload_n E.1 E.2.1 d_M_turn_5 rfl (lv_at hl 1 rfl) ?_
    refine lv_if_lt (tgt := 17) E.1 E.2.1 d_M_turn_6 (by decide) (fun h1 => ?_) (fun h1 => ?_)
    · skip
      exact hj () (Or.inl h1)
    · skip
      refine lv_iload_n E.1 E.2.1 d_M_turn_9 rfl (lv_at hl 1 rfl) ?_
      refine lv_aload_n E.1 E.2.1 d_M_turn_10 rfl (lv_at hl 0 rfl) ?_
      refine gm_size E hK hP d_M_turn_11 ?_
      refine lv_icmp_lt (tgt := 31) E.1 E.2.1 d_M_turn_14 (by decide) (fun h2 => ?_) (fun h2 => ?_)
      · skip
        obtain ⟨j, hjb, rfl⟩ := nI_of h1
        have hjn : j < n := (nI_ltI hjb (by omega)).mp h2
        have hsp : sp_turn (β, n, q) (nI j) = (0, lN (!β j).toNat, (va_up β j (!β j), n, q)) := by
          unfold sp_turn
          rw [if_neg (fun z => z.elim h1 (xi_nle.mpr h2)), nI_clamp hjb]
        refine lv_aload_n E.1 E.2.1 d_M_turn_31 rfl (lv_at hl 0 rfl) ?_
        refine gm_row E hK hP d_M_turn_32 ?_
        refine lv_iload_n E.1 E.2.1 d_M_turn_35 rfl (lv_at hl 1 rfl) ?_
        refine lv_aload_n E.1 E.2.1 d_M_turn_36 rfl (lv_at hl 0 rfl) ?_
        refine gm_row E hK hP d_M_turn_37 ?_
        refine lv_iload_n E.1 E.2.1 d_M_turn_40 rfl (lv_at hl 1 rfl) ?_
        refine va_zald E.1 E.2.1 hK hP 1 1 rfl rfl (vp_in_nI (by omega) (by decide)) d_M_turn_41 ?_
        refine xl_ti (y := (nI (β j).toNat)) (by rw [nI_clamp hjb]; exact xz_n β j) ?_
        refine xl_join (fun z : Int32 => z = nI (!β j).toNat) (fun z => F0 m 50 ls [.int z, .int (nI j), .ref r]) (fun z hz => ?_) (fun hj => ?_)
        · subst hz
          refine va_zast E.1 E.2.1 hK hP (xD2 hne) hS1 1 1 rfl rfl (vp_in_nI (by omega) (by decide)) d_M_turn_50 (fun H2 locs2 hP2 _ hS2 => ?_)
          have hP2 : va_P D xcl [(b, .inr (1, [.int 0, .ref r, .int (nI n), .int (nI q), .int (nI rd), .int (nI gd.toNat)])), (r, .inl (cZ, 65536, .inl (upd (xz β) (nI j).toNatClampNeg (vp_nar .boolean (nI (!β j).toNat)))))] H2 := hP2
          rw [nI_clamp hjb, xz_up] at hP2
          clear hP
          have hP : PM D b r cZ (va_up β j (!β j)) n q 0 rd gd H2 := hP2
          refine lv_aload_n E.1 E.2.1 d_M_turn_51 rfl (lv_at hl 0 rfl) ?_
          refine gm_row E hK hP d_M_turn_52 ?_
          refine lv_iload_n E.1 E.2.1 d_M_turn_55 rfl (lv_at hl 1 rfl) ?_
          refine va_zald E.1 E.2.1 hK hP 1 1 rfl rfl (vp_in_nI (by omega) (by decide)) d_M_turn_56 ?_
          refine xl_ti (y := (nI (!β j).toNat)) (by rw [nI_clamp hjb, xz_n]; unfold va_up; rw [if_pos rfl]) ?_
          exact xr_zret E hr hk (by cases β j <;> decide) hS2 (fun t ht _ => xMi.mk hsp (fun _ => by cases β j <;> decide) (by rw [ht]; exact hP)) d_M_turn_57
        · skip
          refine lv_if_ne (tgt := 49) E.1 E.2.1 d_M_turn_42 (by decide) (fun h3 => ?_) (fun h3 => ?_)
          · skip
            refine lv_iconst (v := 0) E.1 E.2.1 d_M_turn_49 (by decide) ?_
            refine hj _ ?_
            cases hb : β j
            · rw [hb] at h3
              exact absurd rfl h3
            · rfl
          · skip
            refine lv_iconst (v := 1) E.1 E.2.1 d_M_turn_45 (by decide) ?_
            refine lv_goto (tgt := 50) E.1 E.2.1 d_M_turn_46 (by decide) ?_
            refine hj _ ?_
            cases hb : β j
            · rfl
            · rw [hb] at h3
              exact absurd h3 (by decide)
      · skip
        exact hj () (Or.inr (xi_nlt.mp h2))
end XL24
end
section
/-! The reference: a length and a number written. -/
section XL25
set_option maxHeartbeats 4000000 in
set_option maxRecDepth 100000 in
theorem m_putLength (l : Launch) (D : va_G) (b r : Nat) (cJ cZ : ClassId) (β : Nat → Bool) (n q : Nat) (fa : Int32) (rd : Nat) (gd : Bool) (hn : n ≤ 65536) (hne : b ≠ r) (k : Int32) : xM l y_M_putLength w_M_putLength (xrm 2) [.ref b, .int k] (wM D b r cJ cZ β n q fa rd gd) (xA2 b r) (xMi (sp_putLength (β, n, q) k) D b r cZ) (fun _ _ _ => False) := by
  refine xM.of (by decide) ?_
  intro p e s m args below meth c hav E hr hk hh hnm hwM
  subst hav
  obtain ⟨hP, hK⟩ := hwM
  have hS : va_S (xA2 b r) s.heap s.heap [] := va_S.rf
  refine xl_entry _ (Nat.le_of_ble_eq_true rfl) (fun ls hl => ?_)
  have hl : lv_has ls 4 [(0, .ref b), (1, .int k)] := hl
  refine lv_aload_n E.1 E.2.1 d_M_putLength_0 rfl (lv_at hl 0 rfl) ?_
  refine lv_iconst (v := 0) E.1 E.2.1 d_M_putLength_1 (by decide) ?_
  refine sm_failed E hK hP hne hS d_M_putLength_2 (fun H1 locs1 hP1 hS1 => ?_)
  clear hP hS
  have hP := hP1
  refine lv_iload_n E.1 E.2.1 d_M_putLength_5 rfl (lv_at hl 1 rfl) ?_
  refine lv_if_ge (tgt := 15) E.1 E.2.1 d_M_putLength_6 (by decide) (fun h1 => ?_) (fun h1 => ?_)
  · skip
    have h1' : ¬ k < 0 := xi_nlt.mpr h1
    obtain ⟨j, hj, rfl⟩ := nI_of h1'
    have hcl := nI_clamp hj
    have ht0 : xtold j ≤ 65536 := by
      unfold xtold
      split <;> omega
    have hsp : sp_putLength (β, n, q) (nI j) = if 65536 < n + xlw (xtold j) then (2, 0, (β, n, q)) else (0, lN (xtold j), (xa β n (lN (xlc (xtold j))) (xlw (xtold j)), n + xlw (xtold j), q)) := by
      unfold sp_putLength
      rw [if_neg h1', hcl]
    have tail : ∀ (H : Heap) (locs : List Loc) (ls : Array Slot) (i : Int32) (x : Int64) (w : Nat), x = lN (xlc (xtold j)) → w = xlw (xtold j) → PM D b r cZ (sp_write (β, n, q) x w 2).2.2.1 (sp_write (β, n, q) x w 2).2.2.2.1 (sp_write (β, n, q) x w 2).2.2.2.2 (nI (sp_write (β, n, q) x w 2).1) rd gd H → va_S (xA2 b r) s.heap H locs → lv_has ls 4 [(2, .int (nI (min 4 (j / 16384)))), (0, .ref b), (1, .int (nI j))] →
        W p l e (xrm 2) s m [Value.ref b, .int (nI j)].toArray below meth c H locs 0 0 (xl_MQ below (xl_Q (xA2 b r) (xMi (sp_putLength (β, n, q) (nI j)) D b r cZ) (fun _ _ _ => False)) [Value.ref b, .int (nI j)].toArray s (xl_k 0 1) (xl_k 0 6) (xA2 b r)) (F0 m 80 ls [.int i]) := by
      intro H locs ls i x w hx hw hP hS hl
      subst hx
      subst hw
      by_cases hroom : 65536 < n + xlw (xtold j)
      · rw [if_pos hroom] at hsp
        have hw : sp_write (β, n, q) (lN (xlc (xtold j))) (xlw (xtold j)) 2 = (2, 0, (β, n, q)) := by
          unfold sp_write
          rw [if_pos hroom]
        rw [hw] at hP
        have hP : PM D b r cZ β n q (nI 2) rd gd H := hP
        refine lv_istore_n E.1 E.2.1 d_M_putLength_80 rfl hl (by decide) rfl (fun ls hl => ?_)
        have hl : lv_has ls 4 [(3, .int i), (2, .int (nI (min 4 (j / 16384)))), (0, .ref b), (1, .int (nI j))] := hl
        refine lv_aload_n E.1 E.2.1 d_M_putLength_81 rfl (lv_at hl 2 rfl) ?_
        refine gm_failed E hK hP d_M_putLength_82 ?_
        refine lv_if_le (tgt := 92) E.1 E.2.1 d_M_putLength_85 (by decide) (fun h2 => ?_) (fun h2 => ?_)
        · skip
          exact absurd h2 (by decide)
        · skip
          refine lv_iconst (v := 0) E.1 E.2.1 d_M_putLength_88 (by decide) ?_
          refine lv_goto (tgt := 108) E.1 E.2.1 d_M_putLength_89 (by decide) ?_
          exact xr_iret E hr hk hS (fun t ht _ => xMi.mk hsp (fun z => absurd z (by decide)) (by rw [ht]; exact hP)) d_M_putLength_108
      · rw [if_neg hroom] at hsp
        have hw : sp_write (β, n, q) (lN (xlc (xtold j))) (xlw (xtold j)) 2 = (0, lN (n + xlw (xtold j)), (xa β n (lN (xlc (xtold j))) (xlw (xtold j)), n + xlw (xtold j), q)) := by
          unfold sp_write
          rw [if_neg hroom]
        rw [hw] at hP
        have hP : PM D b r cZ (xa β n (lN (xlc (xtold j))) (xlw (xtold j))) (n + xlw (xtold j)) q (nI 0) rd gd H := hP
        refine lv_istore_n E.1 E.2.1 d_M_putLength_80 rfl hl (by decide) rfl (fun ls hl => ?_)
        have hl : lv_has ls 4 [(3, .int i), (2, .int (nI (min 4 (j / 16384)))), (0, .ref b), (1, .int (nI j))] := hl
        refine lv_aload_n E.1 E.2.1 d_M_putLength_81 rfl (lv_at hl 2 rfl) ?_
        refine gm_failed E hK hP d_M_putLength_82 ?_
        refine lv_if_le (tgt := 92) E.1 E.2.1 d_M_putLength_85 (by decide) (fun h2 => ?_) (fun h2 => ?_)
        · skip
          refine lv_iload_n E.1 E.2.1 d_M_putLength_92 rfl (lv_at hl 3 rfl) ?_
          refine lv_sipush (v := 16384) E.1 E.2.1 d_M_putLength_93 (by decide) ?_
          refine lv_icmp_ge (tgt := 103) E.1 E.2.1 d_M_putLength_96 (by decide) (fun h3 => ?_) (fun h3 => ?_)
          · skip
            have h3 : 16384 ≤ j := (nI_leI (a := 16384) (by decide) hj).mp h3
            have hT : xtold j = 16384 * min 4 (j / 16384) := by
              unfold xtold
              rw [if_neg (by omega)]
            refine lv_sipush (v := 16384) E.1 E.2.1 d_M_putLength_103 (by decide) ?_
            refine lv_iload_n E.1 E.2.1 d_M_putLength_106 rfl (lv_at hl 1 rfl) ?_
            refine lv_imul E.1 E.2.1 d_M_putLength_107 ?_
            refine xl_ti (y := (nI (xtold j))) (by rw [hT]; exact pk_mul 16384 _) ?_
            exact xr_iret E hr hk hS (fun t ht _ => xMi.mk hsp (fun _ => nI_l (by omega)) (by rw [ht]; exact hP)) d_M_putLength_108
          · skip
            have h3 : ¬ 16384 ≤ j := fun z => h3 ((nI_leI (a := 16384) (by decide) hj).mpr z)
            have hT : xtold j = j := by
              unfold xtold
              rw [if_pos (by omega)]
            refine lv_iload_n E.1 E.2.1 d_M_putLength_99 rfl (lv_at hl 3 rfl) ?_
            refine lv_goto (tgt := 108) E.1 E.2.1 d_M_putLength_100 (by decide) ?_
            refine xl_ti (y := (nI (xtold j))) (by rw [hT]) ?_
            exact xr_iret E hr hk hS (fun t ht _ => xMi.mk hsp (fun _ => nI_l (by omega)) (by rw [ht]; exact hP)) d_M_putLength_108
        · skip
          exact absurd (by decide) h2
    refine lv_iconst (v := 4) E.1 E.2.1 d_M_putLength_15 (by decide) ?_
    refine lv_iload_n E.1 E.2.1 d_M_putLength_16 rfl (lv_at hl 1 rfl) ?_
    refine lv_sipush (v := 16384) E.1 E.2.1 d_M_putLength_17 (by decide) ?_
    refine lv_idiv E.1 E.2.1 d_M_putLength_20 (by decide) ?_
    refine xl_ti (y := (nI (j / 16384))) (pk_div hj (by decide) (by decide)) ?_
    refine va_mmin E.1 E.2.1 (by rw [E.2.2.1, hl.1]) E.2.2.2.1 (E.2.2.2.2 _ ml_M_min) (E.2.2.2.2 _ ml_min_static) (E.2.2.2.2 _ ml_Math_init) (E.2.2.2.2 _ ml_min_code) (by decide) (Nat.le_of_ble_eq_true rfl) (by decide) (by decide) d_M_putLength_21 ?_
    refine xl_ti (y := (nI (min 4 (j / 16384)))) (xmin (q := 4) (by decide) (Nat.lt_of_le_of_lt (Nat.div_le_self _ _) hj)) ?_
    refine lv_istore_n E.1 E.2.1 d_M_putLength_24 rfl hl (by decide) rfl (fun ls hl => ?_)
    have hl : lv_has ls 4 [(2, .int (nI (min 4 (j / 16384)))), (0, .ref b), (1, .int (nI j))] := hl
    refine lv_iload_n E.1 E.2.1 d_M_putLength_25 rfl (lv_at hl 2 rfl) ?_
    refine lv_sipush (v := 128) E.1 E.2.1 d_M_putLength_26 (by decide) ?_
    refine lv_icmp_ge (tgt := 44) E.1 E.2.1 d_M_putLength_29 (by decide) (fun h2 => ?_) (fun h2 => ?_)
    · skip
      have h2 : 128 ≤ j := (nI_leI (a := 128) (by decide) hj).mp h2
      refine lv_iload_n E.1 E.2.1 d_M_putLength_44 rfl (lv_at hl 2 rfl) ?_
      refine lv_sipush (v := 16384) E.1 E.2.1 d_M_putLength_45 (by decide) ?_
      refine lv_icmp_ge (tgt := 67) E.1 E.2.1 d_M_putLength_48 (by decide) (fun h3 => ?_) (fun h3 => ?_)
      · skip
        have h3 : 16384 ≤ j := (nI_leI (a := 16384) (by decide) hj).mp h3
        have hT : xtold j = 16384 * min 4 (j / 16384) := by
          unfold xtold
          rw [if_neg (by omega)]
        have hw : xlw (xtold j) = 8 := by
          unfold xlw
          rw [if_neg (by omega)]
        have hc : xlc (xtold j) = 192 + min 4 (j / 16384) := by
          unfold xlc
          rw [if_neg (by omega), if_neg (by omega), hT, Nat.mul_div_cancel_left _ (by decide)]
        refine lv_aload_n E.1 E.2.1 d_M_putLength_67 rfl (lv_at hl 1 rfl) ?_
        refine lv_ldc2 (v := 192) E.1 E.2.1 E.2.2.2.1 (E.2.2.2.2 _ co_M_47) d_M_putLength_68 ?_
        refine lv_iload_n E.1 E.2.1 d_M_putLength_71 rfl (lv_at hl 0 rfl) ?_
        refine lv_i2l (v := (nI (min 4 (j / 16384))).toInt64) E.1 E.2.1 d_M_putLength_72 rfl ?_
        refine lv_lor E.1 E.2.1 d_M_putLength_73 ?_
        refine xl_tl (y := (lN (192 + min 4 (j / 16384)))) (by rw [nI_l (by omega)]; show lN 192 ||| lN _ = _; rw [wb_or (by decide) (by omega), or_6 (by omega)]) ?_
        refine lv_bipush (v := 8) E.1 E.2.1 d_M_putLength_74 (by decide) ?_
        refine lv_iconst (v := 2) E.1 E.2.1 d_M_putLength_76 (by decide) ?_
        refine xg_goes (xc_V E xGT (m_write l D b r cJ cZ β n q rd gd 8 2 (lN (192 + min 4 (j / 16384))) hn (by decide) hne (by decide)) vw_M_write (by decide) (wM.call hP hK) (PM.recv hP hK) rfl hl.1 rfl (Nat.le_of_ble_eq_true rfl) d_M_putLength_77) hS1 (fun q _ h => h) (fun q h => h) (fun v st t locs1 h0 hal hrt hS2 hz hkp => ?_) (fun x st t locs1 h0 hal hth => hth.elim)
        obtain ⟨i, rfl, -, hP2⟩ := hrt
        refine W.eq (g2 := F0 m 80 ls [.int i]) rfl ?_
        generalize t.heap = H2 at hP2 hS2 hz hkp ⊢
        exact tail H2 _ ls i _ _ (by rw [hc]) hw.symm hP2 hS2 hl
      · skip
        have h3 : ¬ 16384 ≤ j := fun z => h3 ((nI_leI (a := 16384) (by decide) hj).mpr z)
        have hT : xtold j = j := by
          unfold xtold
          rw [if_pos (by omega)]
        have hw : xlw (xtold j) = 16 := by
          unfold xlw
          rw [if_pos (by omega)]
        have hc : xlc (xtold j) = 32768 + j := by
          unfold xlc
          rw [if_neg (by omega), if_pos (by omega), hT]
        refine lv_aload_n E.1 E.2.1 d_M_putLength_51 rfl (lv_at hl 1 rfl) ?_
        refine lv_ldc2 (v := 32768) E.1 E.2.1 E.2.2.2.1 (E.2.2.2.2 _ co_M_45) d_M_putLength_52 ?_
        refine lv_iload_n E.1 E.2.1 d_M_putLength_55 rfl (lv_at hl 2 rfl) ?_
        refine lv_i2l (v := (nI j).toInt64) E.1 E.2.1 d_M_putLength_56 rfl ?_
        refine lv_lor E.1 E.2.1 d_M_putLength_57 ?_
        refine xl_tl (y := (lN (32768 + j))) (by rw [nI_l (by omega)]; show lN 32768 ||| lN _ = _; rw [wb_or (by decide) (by omega), or_15 (by omega)]) ?_
        refine lv_bipush (v := 16) E.1 E.2.1 d_M_putLength_58 (by decide) ?_
        refine lv_iconst (v := 2) E.1 E.2.1 d_M_putLength_60 (by decide) ?_
        refine xg_goes (xc_V E xGT (m_write l D b r cJ cZ β n q rd gd 16 2 (lN (32768 + j)) hn (by decide) hne (by decide)) vw_M_write (by decide) (wM.call hP hK) (PM.recv hP hK) rfl hl.1 rfl (Nat.le_of_ble_eq_true rfl) d_M_putLength_61) hS1 (fun q _ h => h) (fun q h => h) (fun v st t locs1 h0 hal hrt hS2 hz hkp => ?_) (fun x st t locs1 h0 hal hth => hth.elim)
        obtain ⟨i, rfl, -, hP2⟩ := hrt
        refine W.eq (g2 := F0 m 64 ls [.int i]) rfl ?_
        generalize t.heap = H2 at hP2 hS2 hz hkp ⊢
        refine lv_goto (tgt := 80) E.1 E.2.1 d_M_putLength_64 (by decide) ?_
        exact tail H2 _ ls i _ _ (by rw [hc]) hw.symm hP2 hS2 hl
    · skip
      have h2 : ¬ 128 ≤ j := fun z => h2 ((nI_leI (a := 128) (by decide) hj).mpr z)
      have hT : xtold j = j := by
        unfold xtold
        rw [if_pos (by omega)]
      have hw : xlw (xtold j) = 8 := by
        unfold xlw
        rw [if_neg (by omega)]
      have hc : xlc (xtold j) = j := by
        unfold xlc
        rw [if_pos (by omega), hT]
      refine lv_aload_n E.1 E.2.1 d_M_putLength_32 rfl (lv_at hl 1 rfl) ?_
      refine lv_iload_n E.1 E.2.1 d_M_putLength_33 rfl (lv_at hl 2 rfl) ?_
      refine lv_i2l (v := (nI j).toInt64) E.1 E.2.1 d_M_putLength_34 rfl ?_
      refine xl_tl (y := (lN j)) (nI_l (by omega)) ?_
      refine lv_bipush (v := 8) E.1 E.2.1 d_M_putLength_35 (by decide) ?_
      refine lv_iconst (v := 2) E.1 E.2.1 d_M_putLength_37 (by decide) ?_
      refine xg_goes (xc_V E xGT (m_write l D b r cJ cZ β n q rd gd 8 2 (lN j) hn (by decide) hne (by decide)) vw_M_write (by decide) (wM.call hP hK) (PM.recv hP hK) rfl hl.1 rfl (Nat.le_of_ble_eq_true rfl) d_M_putLength_38) hS1 (fun q _ h => h) (fun q h => h) (fun v st t locs1 h0 hal hrt hS2 hz hkp => ?_) (fun x st t locs1 h0 hal hth => hth.elim)
      obtain ⟨i, rfl, -, hP2⟩ := hrt
      refine W.eq (g2 := F0 m 41 ls [.int i]) rfl ?_
      generalize t.heap = H2 at hP2 hS2 hz hkp ⊢
      refine lv_goto (tgt := 80) E.1 E.2.1 d_M_putLength_41 (by decide) ?_
      exact tail H2 _ ls i _ _ (by rw [hc]) hw.symm hP2 hS2 hl
  · skip
    have hsp : sp_putLength (β, n, q) k = (1, 0, (β, n, q)) := by
      unfold sp_putLength
      rw [if_pos (xi_nle.mp h1)]
    refine lv_aload_n E.1 E.2.1 d_M_putLength_9 rfl (lv_at hl 0 rfl) ?_
    refine lv_iconst (v := 1) E.1 E.2.1 d_M_putLength_10 (by decide) ?_
    refine xg_goes (xc_V E xGT (m_fail l D b r cJ cZ β n q 0 rd gd hne 1) vw_M_fail (by decide) (wM.call hP hK) (PM.recv hP hK) rfl hl.1 rfl (Nat.le_of_ble_eq_true rfl) d_M_putLength_11) hS1 (fun q _ h => h) (fun q h => h) (fun v st t locs1 h0 hal hrt hS2 hz hkp => ?_) (fun x st t locs1 h0 hal hth => hth.elim)
    obtain ⟨rfl, hP2⟩ := hrt
    refine W.eq (g2 := F0 m 14 ls [.int 0]) rfl ?_
    generalize t.heap = H2 at hP2 hS2 hz hkp ⊢
    exact xr_iret E hr hk hS2 (fun t ht _ => xMi.mk hsp (fun z => absurd z (by decide)) (by rw [ht]; exact hP2)) d_M_putLength_14
set_option maxHeartbeats 4000000 in
set_option maxRecDepth 100000 in
theorem m_putNumber (l : Launch) (D : va_G) (b r : Nat) (cJ cZ : ClassId) (β : Nat → Bool) (n q : Nat) (fa : Int32) (rd : Nat) (gd : Bool) (hn : n ≤ 65536) (hne : b ≠ r) (kind : Int32) (x : Int64) : xM l y_M_putNumber w_M_putNumber (xrm 2) [.ref b, .int kind, .long x] (wM D b r cJ cZ β n q fa rd gd) (xA2 b r) (xMi (sp_putNumber (β, n, q) kind x) D b r cZ) (fun _ _ _ => False) := by
  refine xM.of (by decide) ?_
  intro p e s m args below meth c hav E hr hk hh hnm hwM
  subst hav
  obtain ⟨hP, hK⟩ := hwM
  have hS : va_S (xA2 b r) s.heap s.heap [] := va_S.rf
  have hb1 := nb_1 kind x
  have hb8 := nb_8 kind x
  have ht1 := xt_1 kind
  have hwb := xnw_b kind x
  refine xl_entry _ (Nat.le_of_ble_eq_true rfl) (fun ls hl => ?_)
  have hl : lv_has ls 7 [(0, .ref b), (1, .int kind), (2, .long x)] := hl
  refine lv_aload_n E.1 E.2.1 d_M_putNumber_0 rfl (lv_at hl 0 rfl) ?_
  refine lv_iconst (v := 0) E.1 E.2.1 d_M_putNumber_1 (by decide) ?_
  refine sm_failed E hK hP hne hS d_M_putNumber_2 (fun H1 locs1 hP1 hS1 => ?_)
  clear hP hS
  have hP := hP1
  refine xl_join (fun _ : Unit => kind < 0 ∨ 2 < kind) (fun _ => F0 m 14 ls []) (fun _ hkk => ?_) (fun hj14 => ?_)
  · skip
    have hsp : sp_putNumber (β, n, q) kind x = (1, 0, (β, n, q)) := by
      unfold sp_putNumber
      rw [if_pos hkk]
    refine lv_aload_n E.1 E.2.1 d_M_putNumber_14 rfl (lv_at hl 0 rfl) ?_
    refine lv_iconst (v := 1) E.1 E.2.1 d_M_putNumber_15 (by decide) ?_
    refine xg_goes (xc_V E xGT (m_fail l D b r cJ cZ β n q 0 rd gd hne 1) vw_M_fail (by decide) (wM.call hP hK) (PM.recv hP hK) rfl hl.1 rfl (Nat.le_of_ble_eq_true rfl) d_M_putNumber_16) hS1 (fun q _ h => h) (fun q h => h) (fun v st t locs1 h0 hal hrt hS2 hz hkp => ?_) (fun x st t locs1 h0 hal hth => hth.elim)
    obtain ⟨rfl, hP2⟩ := hrt
    refine W.eq (g2 := F0 m 19 ls [.int 0]) rfl ?_
    generalize t.heap = H2 at hP2 hS2 hz hkp ⊢
    exact xr_iret E hr hk hS2 (fun t ht _ => xMi.mk hsp (fun z => absurd z (by decide)) (by rw [ht]; exact hP2)) d_M_putNumber_19
  · skip
    refine lv_iload_n E.1 E.2.1 d_M_putNumber_5 rfl (lv_at hl 1 rfl) ?_
    refine lv_if_lt (tgt := 14) E.1 E.2.1 d_M_putNumber_6 (by decide) (fun h1 => ?_) (fun h1 => ?_)
    · skip
      exact hj14 () (Or.inl h1)
    · skip
      refine lv_iload_n E.1 E.2.1 d_M_putNumber_9 rfl (lv_at hl 1 rfl) ?_
      refine lv_iconst (v := 2) E.1 E.2.1 d_M_putNumber_10 (by decide) ?_
      refine lv_icmp_le (tgt := 20) E.1 E.2.1 d_M_putNumber_11 (by decide) (fun h2 => ?_) (fun h2 => ?_)
      · skip
        have hkk : ¬ (kind < 0 ∨ 2 < kind) := fun z => z.elim h1 (xi_nlt.mpr h2)
        refine xl_join (fun z : Int32 => z = if kind = 2 ∧ (0 ≤ x ∧ x < 64) then 1 else 0) (fun z => F0 m 44 ls [.int z]) (fun z hz => ?_) (fun hj44 => ?_)
        · subst hz
          refine lv_istore E.1 E.2.1 d_M_putNumber_44 hl (by decide) rfl (fun ls hl => ?_)
          have hl : lv_has ls 7 [(4, .int (if kind = 2 ∧ (0 ≤ x ∧ x < 64) then 1 else 0)), (0, .ref b), (1, .int kind), (2, .long x)] := hl
          refine lv_iload_n E.1 E.2.1 d_M_putNumber_46 rfl (lv_at hl 2 rfl) ?_
          refine lv_iconst (v := 1) E.1 E.2.1 d_M_putNumber_47 (by decide) ?_
          refine xl_join (fun z : Int32 => z = nI (nb kind x)) (fun z => F0 m 64 ls [.int z]) (fun z hz => ?_) (fun hj64 => ?_)
          · subst hz
            refine lv_istore E.1 E.2.1 d_M_putNumber_64 hl (by decide) rfl (fun ls hl => ?_)
            have hl : lv_has ls 7 [(5, .int (nI (nb kind x))), (4, .int (if kind = 2 ∧ (0 ≤ x ∧ x < 64) then 1 else 0)), (0, .ref b), (1, .int kind), (2, .long x)] := hl
            refine lv_iload E.1 E.2.1 d_M_putNumber_66 (lv_at hl 1 rfl) ?_
            refine xl_join (fun z : Int32 => z = nI (xnw kind x)) (fun z => F0 m 95 ls [.int z]) (fun z hz => ?_) (fun hj95 => ?_)
            · subst hz
              refine lv_istore E.1 E.2.1 d_M_putNumber_95 hl (by decide) rfl (fun ls hl => ?_)
              have hl : lv_has ls 7 [(6, .int (nI (xnw kind x))), (5, .int (nI (nb kind x))), (4, .int (if kind = 2 ∧ (0 ≤ x ∧ x < 64) then 1 else 0)), (0, .ref b), (1, .int kind), (2, .long x)] := hl
              refine lv_aload_n E.1 E.2.1 d_M_putNumber_97 rfl (lv_at hl 3 rfl) ?_
              refine gm_size E hK hP d_M_putNumber_98 ?_
              refine lv_iload E.1 E.2.1 d_M_putNumber_101 (lv_at hl 0 rfl) ?_
              refine lv_iadd E.1 E.2.1 d_M_putNumber_103 ?_
              refine xl_ti (y := (nI (n + xnw kind x))) (nI_add _ _) ?_
              refine lv_ldc (v := 65536) E.1 E.2.1 E.2.2.2.1 (E.2.2.2.2 _ co_M_7) d_M_putNumber_104 ?_
              refine lv_icmp_le (tgt := 115) E.1 E.2.1 d_M_putNumber_106 (by decide) (fun h3 => ?_) (fun h3 => ?_)
              · skip
                have h3 : n + xnw kind x ≤ 65536 := (nI_leI (b := 65536) (by omega) (by decide)).mp h3
                refine lv_iload E.1 E.2.1 d_M_putNumber_115 (lv_at hl 2 rfl) ?_
                refine lv_if_eq (tgt := 130) E.1 E.2.1 d_M_putNumber_117 (by decide) (fun h4 => ?_) (fun h4 => ?_)
                · skip
                  have hns : ¬ (kind = 2 ∧ (0 ≤ x ∧ x < 64)) := fun z => by
                    rw [if_pos z] at h4
                    exact absurd h4 (by decide)
                  have hnw : xnw kind x = xt kind + 8 + 8 * nb kind x := by
                    unfold xnw
                    rw [if_neg hns]
                  rw [hnw] at h3
                  have hsp : sp_putNumber (β, n, q) kind x = (0, lN (n + (xt kind + 8 + 8 * nb kind x)), (xnum β n kind x, n + (xt kind + 8 + 8 * nb kind x), q)) := by
                    unfold sp_putNumber
                    rw [if_neg hkk, if_neg hns, if_neg (Nat.not_lt.mpr h3)]
                  have tail : ∀ (H : Heap) (locs : List Loc), PM D b r cZ (xa β n 1 (xt kind)) (n + xt kind) q 0 rd gd H → va_S (xA2 b r) s.heap H locs →
                      W p l e (xrm 2) s m [Value.ref b, .int kind, .long x].toArray below meth c H locs 0 0 (xl_MQ below (xl_Q (xA2 b r) (xMi (sp_putNumber (β, n, q) kind x) D b r cZ) (fun _ _ _ => False)) [Value.ref b, .int kind, .long x].toArray s (xl_k 0 1) (xl_k 0 6) (xA2 b r)) (F0 m 141 ls []) := by
                    intro H locs hP hS
                    have hl := lv_sub hl (l' := [(5, .int (nI (nb kind x))), (0, .ref b), (1, .int kind), (2, .long x)]) [1, 3, 4, 5] rfl
                    refine lv_aload_n E.1 E.2.1 d_M_putNumber_141 rfl (lv_at hl 1 rfl) ?_
                    refine lv_iload E.1 E.2.1 d_M_putNumber_142 (lv_at hl 0 rfl) ?_
                    refine lv_i2l (v := (nI (nb kind x)).toInt64) E.1 E.2.1 d_M_putNumber_144 rfl ?_
                    refine xl_tl (y := (lN (nb kind x))) (nI_l (by omega)) ?_
                    refine lv_bipush (v := 8) E.1 E.2.1 d_M_putNumber_145 (by decide) ?_
                    refine xg_goes (xc_V E xGT (m_append l D b r cJ cZ (xa β n 1 (xt kind)) (n + xt kind) q 0 rd gd 8 (lN (nb kind x)) (by omega) (by decide) hne) vw_M_append (by decide) (wM.call hP hK) (PM.recv hP hK) rfl hl.1 rfl (Nat.le_of_ble_eq_true rfl) d_M_putNumber_147) hS (fun q _ h => h) (fun q h => h) (fun v st t locs1 h0 hal hrt hS2 hz hkp => ?_) (fun x st t locs1 h0 hal hth => hth.elim)
                    obtain ⟨rfl, hP2⟩ := hrt
                    refine W.eq (g2 := F0 m 150 ls []) rfl ?_
                    generalize t.heap = H2 at hP2 hS2 hz hkp ⊢
                    refine lv_aload_n E.1 E.2.1 d_M_putNumber_150 rfl (lv_at hl 1 rfl) ?_
                    refine lv_lload_n E.1 E.2.1 d_M_putNumber_151 rfl (lv_at hl 3 rfl) ?_
                    refine lv_bipush (v := 8) E.1 E.2.1 d_M_putNumber_152 (by decide) ?_
                    refine lv_iload E.1 E.2.1 d_M_putNumber_154 (lv_at hl 0 rfl) ?_
                    refine lv_imul E.1 E.2.1 d_M_putNumber_156 ?_
                    refine xl_ti (y := (nI (8 * nb kind x))) (pk_mul 8 _) ?_
                    refine xg_goes (xc_V E xGT (m_append l D b r cJ cZ (xa (xa β n 1 (xt kind)) (n + xt kind) (lN (nb kind x)) 8) (n + xt kind + 8) q 0 rd gd (8 * nb kind x) x (by omega) (by omega) hne) vw_M_append (by decide) (wM.call hP2 hK) (PM.recv hP2 hK) rfl hl.1 rfl (Nat.le_of_ble_eq_true rfl) d_M_putNumber_157) hS2 (fun q _ h => h) (fun q h => h) (fun v st t locs1 h0 hal hrt hS3 hz hkp => ?_) (fun x st t locs1 h0 hal hth => hth.elim)
                    obtain ⟨rfl, hP3⟩ := hrt
                    refine W.eq (g2 := F0 m 160 ls []) rfl ?_
                    generalize t.heap = H3 at hP3 hS3 hz hkp ⊢
                    rw [show n + xt kind + 8 + 8 * nb kind x = n + (xt kind + 8 + 8 * nb kind x) by omega] at hP3
                    clear hP hP2
                    have hP := hP3
                    refine lv_aload_n E.1 E.2.1 d_M_putNumber_160 rfl (lv_at hl 1 rfl) ?_
                    refine gm_size E hK hP d_M_putNumber_161 ?_
                    exact xr_iret E hr hk hS3 (fun t ht _ => xMi.mk hsp (fun _ => nI_l (by omega)) (by rw [ht]; exact hP3)) d_M_putNumber_164
                  refine lv_iload_n E.1 E.2.1 d_M_putNumber_130 rfl (lv_at hl 4 rfl) ?_
                  refine lv_iconst (v := 2) E.1 E.2.1 d_M_putNumber_131 (by decide) ?_
                  refine lv_icmp_ne (tgt := 141) E.1 E.2.1 d_M_putNumber_132 (by decide) (fun h5 => ?_) (fun h5 => ?_)
                  · skip
                    have e : xt kind = 0 := by
                      unfold xt
                      rw [if_neg h5]
                    exact tail H1 _ (by rw [e, xa_0]; exact hP) hS1
                  · skip
                    have e : xt kind = 1 := by
                      unfold xt
                      rw [if_pos h5]
                    refine lv_aload_n E.1 E.2.1 d_M_putNumber_135 rfl (lv_at hl 3 rfl) ?_
                    refine lv_lconst (v := 1) E.1 E.2.1 d_M_putNumber_136 (by decide) ?_
                    refine lv_iconst (v := 1) E.1 E.2.1 d_M_putNumber_137 (by decide) ?_
                    refine xg_goes (xc_V E xGT (m_append l D b r cJ cZ β n q 0 rd gd 1 1 (by omega) (by decide) hne) vw_M_append (by decide) (wM.call hP hK) (PM.recv hP hK) rfl hl.1 rfl (Nat.le_of_ble_eq_true rfl) d_M_putNumber_138) hS1 (fun q _ h => h) (fun q h => h) (fun v st t locs1 h0 hal hrt hS2 hz hkp => ?_) (fun x st t locs1 h0 hal hth => hth.elim)
                    obtain ⟨rfl, hP2⟩ := hrt
                    refine W.eq (g2 := F0 m 141 ls []) rfl ?_
                    generalize t.heap = H2 at hP2 hS2 hz hkp ⊢
                    exact tail H2 _ (by rw [e]; exact hP2) hS2
                · skip
                  have hns : kind = 2 ∧ (0 ≤ x ∧ x < 64) := Classical.byContradiction fun z => h4 (by rw [if_neg z])
                  have hnw : xnw kind x = 7 := by
                    unfold xnw
                    rw [if_pos hns]
                  rw [hnw] at h3
                  have hsp : sp_putNumber (β, n, q) kind x = (0, lN (n + 7), (xa β n x 7, n + 7, q)) := by
                    unfold sp_putNumber
                    rw [if_neg hkk, if_pos hns]
                    unfold sp_write
                    rw [if_neg (Nat.not_lt.mpr h3)]
                  refine lv_aload_n E.1 E.2.1 d_M_putNumber_120 rfl (lv_at hl 3 rfl) ?_
                  refine lv_lload_n E.1 E.2.1 d_M_putNumber_121 rfl (lv_at hl 5 rfl) ?_
                  refine lv_bipush (v := 7) E.1 E.2.1 d_M_putNumber_122 (by decide) ?_
                  refine xg_goes (xc_V E xGT (m_append l D b r cJ cZ β n q 0 rd gd 7 x h3 (by decide) hne) vw_M_append (by decide) (wM.call hP hK) (PM.recv hP hK) rfl hl.1 rfl (Nat.le_of_ble_eq_true rfl) d_M_putNumber_124) hS1 (fun q _ h => h) (fun q h => h) (fun v st t locs1 h0 hal hrt hS2 hz hkp => ?_) (fun x st t locs1 h0 hal hth => hth.elim)
                  obtain ⟨rfl, hP2⟩ := hrt
                  refine W.eq (g2 := F0 m 127 ls []) rfl ?_
                  generalize t.heap = H2 at hP2 hS2 hz hkp ⊢
                  clear hP
                  have hP := hP2
                  refine lv_goto (tgt := 160) E.1 E.2.1 d_M_putNumber_127 (by decide) ?_
                  refine lv_aload_n E.1 E.2.1 d_M_putNumber_160 rfl (lv_at hl 3 rfl) ?_
                  refine gm_size E hK hP d_M_putNumber_161 ?_
                  exact xr_iret E hr hk hS2 (fun t ht _ => xMi.mk hsp (fun _ => nI_l (by omega)) (by rw [ht]; exact hP2)) d_M_putNumber_164
              · skip
                have h3 : ¬ n + xnw kind x ≤ 65536 := fun z => h3 ((nI_leI (b := 65536) (by omega) (by decide)).mpr z)
                have hsp : sp_putNumber (β, n, q) kind x = (2, 0, (β, n, q)) := by
                  unfold sp_putNumber
                  rw [if_neg hkk]
                  unfold xnw at h3
                  by_cases hns : kind = 2 ∧ (0 ≤ x ∧ x < 64)
                  · rw [if_pos hns] at h3 ⊢
                    unfold sp_write
                    rw [if_pos (Nat.not_le.mp h3)]
                  · rw [if_neg hns] at h3 ⊢
                    rw [if_pos (Nat.not_le.mp h3)]
                refine lv_aload_n E.1 E.2.1 d_M_putNumber_109 rfl (lv_at hl 3 rfl) ?_
                refine lv_iconst (v := 2) E.1 E.2.1 d_M_putNumber_110 (by decide) ?_
                refine xg_goes (xc_V E xGT (m_fail l D b r cJ cZ β n q 0 rd gd hne 2) vw_M_fail (by decide) (wM.call hP hK) (PM.recv hP hK) rfl hl.1 rfl (Nat.le_of_ble_eq_true rfl) d_M_putNumber_111) hS1 (fun q _ h => h) (fun q h => h) (fun v st t locs1 h0 hal hrt hS2 hz hkp => ?_) (fun x st t locs1 h0 hal hth => hth.elim)
                obtain ⟨rfl, hP2⟩ := hrt
                refine W.eq (g2 := F0 m 114 ls [.int 0]) rfl ?_
                generalize t.heap = H2 at hP2 hS2 hz hkp ⊢
                exact xr_iret E hr hk hS2 (fun t ht _ => xMi.mk hsp (fun z => absurd z (by decide)) (by rw [ht]; exact hP2)) d_M_putNumber_114
            · skip
              refine lv_if_eq (tgt := 76) E.1 E.2.1 d_M_putNumber_68 (by decide) (fun h4 => ?_) (fun h4 => ?_)
              · skip
                have hns : ¬ (kind = 2 ∧ (0 ≤ x ∧ x < 64)) := fun z => by
                  rw [if_pos z] at h4
                  exact absurd h4 (by decide)
                have hnw : xnw kind x = xt kind + 8 + 8 * nb kind x := by
                  unfold xnw
                  rw [if_neg hns]
                refine lv_bipush (v := 8) E.1 E.2.1 d_M_putNumber_76 (by decide) ?_
                refine lv_bipush (v := 8) E.1 E.2.1 d_M_putNumber_78 (by decide) ?_
                refine lv_iload E.1 E.2.1 d_M_putNumber_80 (lv_at hl 0 rfl) ?_
                refine lv_imul E.1 E.2.1 d_M_putNumber_82 ?_
                refine xl_ti (y := (nI (8 * nb kind x))) (pk_mul 8 _) ?_
                refine lv_iadd E.1 E.2.1 d_M_putNumber_83 ?_
                refine xl_ti (y := (nI (8 + 8 * nb kind x))) (nI_add 8 _) ?_
                refine lv_iload_n E.1 E.2.1 d_M_putNumber_84 rfl (lv_at hl 3 rfl) ?_
                refine lv_iconst (v := 2) E.1 E.2.1 d_M_putNumber_85 (by decide) ?_
                refine lv_icmp_ne (tgt := 93) E.1 E.2.1 d_M_putNumber_86 (by decide) (fun h5 => ?_) (fun h5 => ?_)
                · skip
                  have e : xt kind = 0 := by
                    unfold xt
                    rw [if_neg h5]
                  refine lv_iconst (v := 0) E.1 E.2.1 d_M_putNumber_93 (by decide) ?_
                  refine lv_iadd E.1 E.2.1 d_M_putNumber_94 ?_
                  refine hj95 _ ?_
                  rw [hnw, e]
                  exact (nI_add _ 0).trans (congrArg nI (by omega))
                · skip
                  have e : xt kind = 1 := by
                    unfold xt
                    rw [if_pos h5]
                  refine lv_iconst (v := 1) E.1 E.2.1 d_M_putNumber_89 (by decide) ?_
                  refine lv_goto (tgt := 94) E.1 E.2.1 d_M_putNumber_90 (by decide) ?_
                  refine lv_iadd E.1 E.2.1 d_M_putNumber_94 ?_
                  refine hj95 _ ?_
                  rw [hnw, e]
                  exact (nI_add _ 1).trans (congrArg nI (by omega))
              · skip
                have hns : kind = 2 ∧ (0 ≤ x ∧ x < 64) := Classical.byContradiction fun z => h4 (by rw [if_neg z])
                refine lv_bipush (v := 7) E.1 E.2.1 d_M_putNumber_71 (by decide) ?_
                refine lv_goto (tgt := 95) E.1 E.2.1 d_M_putNumber_73 (by decide) ?_
                refine hj95 _ ?_
                unfold xnw
                rw [if_pos hns]
                rfl
          · skip
            refine lv_icmp_ne (tgt := 59) E.1 E.2.1 d_M_putNumber_48 (by decide) (fun h3 => ?_) (fun h3 => ?_)
            · skip
              have e : nb 0 x = nb kind x := by
                unfold nb
                rw [if_neg (by decide), if_neg h3]
              refine lv_aload_n E.1 E.2.1 d_M_putNumber_59 rfl (lv_at hl 1 rfl) ?_
              refine lv_lload_n E.1 E.2.1 d_M_putNumber_60 rfl (lv_at hl 3 rfl) ?_
              refine xg_looks (xc_V E xGT (m_bytesOf l D b r cJ cZ β n q 0 rd gd x) vw_M_bytesOf (by decide) (wM.call hP hK) (PM.recv hP hK) rfl hl.1 rfl (Nat.le_of_ble_eq_true rfl) d_M_putNumber_61) (fun v st t h => h.2) (fun v st t h0 hal hrt => ?_) (fun x st t h0 hal hth hz => hth.elim)
              obtain ⟨rfl, -⟩ := hrt
              rw [e]
              refine W.eq (g2 := F0 m 64 ls [.int (nI (nb kind x))]) rfl ?_
              exact hj64 _ rfl
            · skip
              refine lv_aload_n E.1 E.2.1 d_M_putNumber_51 rfl (lv_at hl 1 rfl) ?_
              refine lv_lload_n E.1 E.2.1 d_M_putNumber_52 rfl (lv_at hl 3 rfl) ?_
              refine xg_looks (xc_V E xGT (m_complement l b x) vw_M_complement (by decide) xNo (PM.recv hP hK) rfl hl.1 rfl (Nat.le_of_ble_eq_true rfl) d_M_putNumber_53) (fun v st t h => h.2) (fun v st t h0 hal hrt => ?_) (fun x st t h0 hal hth hz => hth.elim)
              obtain ⟨rfl, -⟩ := hrt
              rw [← h3]
              refine W.eq (g2 := F0 m 56 ls [.int (nI (nb kind x))]) rfl ?_
              refine lv_goto (tgt := 64) E.1 E.2.1 d_M_putNumber_56 (by decide) ?_
              exact hj64 _ rfl
        · skip
          refine lv_iload_n E.1 E.2.1 d_M_putNumber_20 rfl (lv_at hl 1 rfl) ?_
          refine lv_iconst (v := 2) E.1 E.2.1 d_M_putNumber_21 (by decide) ?_
          refine lv_icmp_ne (tgt := 43) E.1 E.2.1 d_M_putNumber_22 (by decide) (fun h3 => ?_) (fun h3 => ?_)
          · skip
            refine lv_iconst (v := 0) E.1 E.2.1 d_M_putNumber_43 (by decide) ?_
            exact hj44 _ (by rw [if_neg (fun z => h3 z.1)])
          · skip
            refine lv_lload_n E.1 E.2.1 d_M_putNumber_25 rfl (lv_at hl 2 rfl) ?_
            refine lv_lconst (v := 0) E.1 E.2.1 d_M_putNumber_26 (by decide) ?_
            refine xl_lc_lt (tgt := 43) E.1 E.2.1 d_M_putNumber_27 d_M_putNumber_28 (by decide) (fun h4 => ?_) (fun h4 => ?_)
            · skip
              refine lv_iconst (v := 0) E.1 E.2.1 d_M_putNumber_43 (by decide) ?_
              refine hj44 _ ?_
              rw [if_neg]
              intro z
              have z := z.2.1
              rw [Int64.lt_iff_toInt_lt] at h4
              rw [Int64.le_iff_toInt_le] at z
              omega
            · skip
              refine lv_lload_n E.1 E.2.1 d_M_putNumber_31 rfl (lv_at hl 2 rfl) ?_
              refine lv_ldc2 (v := 64) E.1 E.2.1 E.2.2.2.1 (E.2.2.2.2 _ co_M_49) d_M_putNumber_32 ?_
              refine xl_lc_ge (tgt := 43) E.1 E.2.1 d_M_putNumber_35 d_M_putNumber_36 (by decide) (fun h5 => ?_) (fun h5 => ?_)
              · skip
                refine lv_iconst (v := 0) E.1 E.2.1 d_M_putNumber_43 (by decide) ?_
                refine hj44 _ ?_
                rw [if_neg]
                intro z
                have z := z.2.2
                rw [Int64.le_iff_toInt_le] at h5
                rw [Int64.lt_iff_toInt_lt] at z
                omega
              · skip
                refine lv_iconst (v := 1) E.1 E.2.1 d_M_putNumber_39 (by decide) ?_
                refine lv_goto (tgt := 44) E.1 E.2.1 d_M_putNumber_40 (by decide) ?_
                refine hj44 _ ?_
                rw [if_pos]
                refine ⟨h3, ?_⟩
                rw [Int64.le_iff_toInt_le] at h5
                rw [Int64.lt_iff_toInt_lt] at h4
                rw [Int64.le_iff_toInt_le, Int64.lt_iff_toInt_lt]
                omega
      · skip
        exact hj14 () (Or.inr (xi_nle.mp h2))
end XL25
end
section
/-! The reference: the calls that read. -/
section XL26
set_option maxHeartbeats 4000000 in
set_option maxRecDepth 100000 in
theorem m_take (l : Launch) (D : va_G) (b r : Nat) (cJ cZ : ClassId) (β : Nat → Bool) (n q : Nat) (fa : Int32) (rd : Nat) (gd : Bool) (hn : n ≤ 65536) (hq : q ≤ n) (hne : b ≠ r) (k : Int32) : xM l y_M_take w_M_take (xrm 2) [.ref b, .int k] (wM D b r cJ cZ β n q fa rd gd) (xA2 b r) (xMl (sp_take (β, n, q) k) D b r cZ) (fun _ _ _ => False) := by
  refine xM.of (by decide) ?_
  intro p e s m args below meth c hav E hr hk hh hnm hwM
  subst hav
  obtain ⟨hP, hK⟩ := hwM
  have hS : va_S (xA2 b r) s.heap s.heap [] := va_S.rf
  refine xl_entry _ (Nat.le_of_ble_eq_true rfl) (fun ls hl => ?_)
  have hl : lv_has ls 2 [(0, .ref b), (1, .int k)] := hl
  refine lv_aload_n E.1 E.2.1 d_M_take_0 rfl (lv_at hl 0 rfl) ?_
  refine xg_goes (xc_V E xGT (m_begin l D b r cJ cZ β n q fa rd gd hne) vw_M_begin (by decide) (wM.call hP hK) (PM.recv hP hK) rfl hl.1 rfl (Nat.le_of_ble_eq_true rfl) d_M_take_1) hS (fun q _ h => h) (fun q h => h) (fun v st t locs1 h0 hal hrt hS1 hz hkp => ?_) (fun x st t locs1 h0 hal hth => hth.elim)
  obtain ⟨rfl, hP1⟩ := hrt
  refine W.eq (g2 := F0 m 4 ls []) rfl ?_
  generalize t.heap = H1 at hP1 hS1 hz hkp ⊢
  refine xl_join (fun _ : Unit => k < 0 ∨ 64 < k) (fun _ => F0 m 14 ls []) (fun _ hkk => ?_) (fun hj => ?_)
  · skip
    have hsp : sp_take (β, n, q) k = (1, 0, (β, n, q)) := by
      unfold sp_take
      rw [if_pos hkk]
    refine lv_aload_n E.1 E.2.1 d_M_take_14 rfl (lv_at hl 0 rfl) ?_
    refine lv_iconst (v := 1) E.1 E.2.1 d_M_take_15 (by decide) ?_
    refine xg_goes (xc_V E xGT (m_fail l D b r cJ cZ β n q 0 q true hne 1) vw_M_fail (by decide) (wM.call hP1 hK) (PM.recv hP1 hK) rfl hl.1 rfl (Nat.le_of_ble_eq_true rfl) d_M_take_16) hS1 (fun q _ h => h) (fun q h => h) (fun v st t locs1 h0 hal hrt hS2 hz hkp => ?_) (fun x st t locs1 h0 hal hth => hth.elim)
    obtain ⟨rfl, hP2⟩ := hrt
    refine W.eq (g2 := F0 m 19 ls [.int 0]) rfl ?_
    generalize t.heap = H2 at hP2 hS2 hz hkp ⊢
    refine lv_i2l (v := (0 : Int32).toInt64) E.1 E.2.1 d_M_take_19 rfl ?_
    exact xr_lret E hr hk hS2 (fun t ht _ => xMl.mk hsp (fun z => absurd z (by decide)) (by rw [ht]; exact hP2)) d_M_take_20
  · skip
    refine lv_iload_n E.1 E.2.1 d_M_take_4 rfl (lv_at hl 1 rfl) ?_
    refine lv_if_lt (tgt := 14) E.1 E.2.1 d_M_take_5 (by decide) (fun h1 => ?_) (fun h1 => ?_)
    · skip
      exact hj () (Or.inl h1)
    · skip
      refine lv_iload_n E.1 E.2.1 d_M_take_8 rfl (lv_at hl 1 rfl) ?_
      refine lv_bipush (v := 64) E.1 E.2.1 d_M_take_9 (by decide) ?_
      refine lv_icmp_le (tgt := 21) E.1 E.2.1 d_M_take_11 (by decide) (fun h2 => ?_) (fun h2 => ?_)
      · skip
        obtain ⟨j, hjb, rfl⟩ := nI_of h1
        have hj64 : j ≤ 64 := (nI_leI (b := 64) hjb (by decide)).mp h2
        have hsp : sp_take (β, n, q) (nI j) = if n < q + j then (2, 0, (β, n, q)) else (0, lN (xv β q j), (β, n, q + j)) := by
          unfold sp_take
          rw [if_neg (fun z => z.elim h1 (xi_nlt.mpr h2)), nI_clamp hjb]
        refine lv_aload_n E.1 E.2.1 d_M_take_21 rfl (lv_at hl 0 rfl) ?_
        refine lv_aload_n E.1 E.2.1 d_M_take_22 rfl (lv_at hl 0 rfl) ?_
        refine lv_iload_n E.1 E.2.1 d_M_take_23 rfl (lv_at hl 1 rfl) ?_
        refine xg_goes (xc_V E xGT (m_get l D b r cJ cZ β n q 0 q true j hn (by omega) hj64 hne) vw_M_get (by decide) (wM.call hP1 hK) (PM.recv hP1 hK) rfl hl.1 rfl (Nat.le_of_ble_eq_true rfl) d_M_take_24) hS1 (fun q _ h => h) (fun q h => h) (fun v st t locs1 h0 hal hrt hS2 hz hkp => ?_) (fun x st t locs1 h0 hal hth => hth.elim)
        rcases hrt with ⟨-, g1, rfl, hP2⟩ | ⟨g1, rfl, hP2⟩
        · rw [if_neg (Nat.not_lt.mpr g1)] at hsp
          refine W.eq (g2 := F0 m 27 ls [.long (lN (xv β q j)), .ref b]) rfl ?_
          generalize t.heap = H2 at hP2 hS2 hz hkp ⊢
          refine lv_iconst (v := 2) E.1 E.2.1 d_M_take_27 (by decide) ?_
          refine xg_goes (xc_V E xGT (m_done l D b r cJ cZ β n q (q + j) true hne (lN (xv β q j)) 2) vw_M_done (by decide) (wM.call hP2 hK) (PM.recv hP2 hK) rfl hl.1 rfl (Nat.le_of_ble_eq_true rfl) d_M_take_28) hS2 (fun q _ h => h) (fun q h => h) (fun v st t locs1 h0 hal hrt hS3 hz hkp => ?_) (fun x st t locs1 h0 hal hth => hth.elim)
          rcases hrt with ⟨-, rfl, hP3⟩ | ⟨g2, -⟩
          · skip
            refine W.eq (g2 := F0 m 31 ls [.long (lN (xv β q j))]) rfl ?_
            generalize t.heap = H3 at hP3 hS3 hz hkp ⊢
            exact xr_lret E hr hk hS3 (fun t ht _ => xMl.mk hsp (fun _ => rfl) (by rw [ht]; exact hP3)) d_M_take_31
          · cases g2
        · rw [if_pos (Nat.not_le.mp (fun z => g1 ⟨rfl, z⟩))] at hsp
          refine W.eq (g2 := F0 m 27 ls [.long 0, .ref b]) rfl ?_
          generalize t.heap = H2 at hP2 hS2 hz hkp ⊢
          refine lv_iconst (v := 2) E.1 E.2.1 d_M_take_27 (by decide) ?_
          refine xg_goes (xc_V E xGT (m_done l D b r cJ cZ β n q q false hne 0 2) vw_M_done (by decide) (wM.call hP2 hK) (PM.recv hP2 hK) rfl hl.1 rfl (Nat.le_of_ble_eq_true rfl) d_M_take_28) hS2 (fun q _ h => h) (fun q h => h) (fun v st t locs1 h0 hal hrt hS3 hz hkp => ?_) (fun x st t locs1 h0 hal hth => hth.elim)
          rcases hrt with ⟨g2, -⟩ | ⟨-, rfl, hP3⟩
          · cases g2
          · skip
            refine W.eq (g2 := F0 m 31 ls [.long 0]) rfl ?_
            generalize t.heap = H3 at hP3 hS3 hz hkp ⊢
            exact xr_lret E hr hk hS3 (fun t ht _ => xMl.mk hsp (fun z => absurd z (by decide)) (by rw [ht]; exact hP3)) d_M_take_31
      · skip
        exact hj () (Or.inr (xi_nle.mp h2))
set_option maxHeartbeats 4000000 in
set_option maxRecDepth 100000 in
theorem m_takeRange (l : Launch) (D : va_G) (b r : Nat) (cJ cZ : ClassId) (β : Nat → Bool) (n q : Nat) (fa : Int32) (rd : Nat) (gd : Bool) (hn : n ≤ 65536) (hq : q ≤ n) (hne : b ≠ r) (lo hi : Int64) : xM l y_M_takeRange w_M_takeRange (xrm 2) [.ref b, .long lo, .long hi] (wM D b r cJ cZ β n q fa rd gd) (xA2 b r) (xMl (sp_takeRange (β, n, q) lo hi) D b r cZ) (fun _ _ _ => False) := by
  refine xM.of (by decide) ?_
  intro p e s m args below meth c hav E hr hk hh hnm hwM
  subst hav
  obtain ⟨hP, hK⟩ := hwM
  have hS : va_S (xA2 b r) s.heap s.heap [] := va_S.rf
  have hb := nbl_64 (hi - lo)
  refine xl_entry _ (Nat.le_of_ble_eq_true rfl) (fun ls hl => ?_)
  have hl : lv_has ls 9 [(0, .ref b), (1, .long lo), (3, .long hi)] := hl
  refine lv_aload_n E.1 E.2.1 d_M_takeRange_0 rfl (lv_at hl 0 rfl) ?_
  refine xg_goes (xc_V E xGT (m_begin l D b r cJ cZ β n q fa rd gd hne) vw_M_begin (by decide) (wM.call hP hK) (PM.recv hP hK) rfl hl.1 rfl (Nat.le_of_ble_eq_true rfl) d_M_takeRange_1) hS (fun q _ h => h) (fun q h => h) (fun v st t locs1 h0 hal hrt hS1 hz hkp => ?_) (fun x st t locs1 h0 hal hth => hth.elim)
  obtain ⟨rfl, hP1⟩ := hrt
  refine W.eq (g2 := F0 m 4 ls []) rfl ?_
  generalize t.heap = H1 at hP1 hS1 hz hkp ⊢
  refine lv_lload_n E.1 E.2.1 d_M_takeRange_4 rfl (lv_at hl 1 rfl) ?_
  refine lv_lload_n E.1 E.2.1 d_M_takeRange_5 rfl (lv_at hl 2 rfl) ?_
  refine xl_lc_le (tgt := 17) E.1 E.2.1 d_M_takeRange_6 d_M_takeRange_7 (by decide) (fun h1 => ?_) (fun h1 => ?_)
  · skip
    have h2 : ¬ hi < lo := by
      intro z
      rw [Int64.lt_iff_toInt_lt] at z
      rw [Int64.le_iff_toInt_le] at h1
      omega
    have hsp : sp_takeRange (β, n, q) lo hi = if n < q + nbl (uN (hi - lo)) ∨ uN (hi - lo) < xv β q (nbl (uN (hi - lo))) then (2, 0, (β, n, q)) else (0, lo + lN (xv β q (nbl (uN (hi - lo)))), (β, n, q + nbl (uN (hi - lo)))) := by
      unfold sp_takeRange
      rw [if_neg h2]
    have tail : ∀ (H : Heap) (locs : List Loc) (ls : Array Slot) (z : Int64) (u : Nat) (g : Bool), (g = true → sp_takeRange (β, n, q) lo hi = (0, lo + z, (β, n, u))) → (g = false → sp_takeRange (β, n, q) lo hi = (2, 0, (β, n, q))) → PM D b r cZ β n q 0 u g H → va_S (xA2 b r) s.heap H locs → lv_has ls 9 [(7, .long z), (5, .long (hi - lo)), (0, .ref b), (1, .long lo), (3, .long hi)] →
        W p l e (xrm 2) s m [Value.ref b, .long lo, .long hi].toArray below meth c H locs 0 0 (xl_MQ below (xl_Q (xA2 b r) (xMl (sp_takeRange (β, n, q) lo hi) D b r cZ) (fun _ _ _ => False)) [Value.ref b, .long lo, .long hi].toArray s (xl_k 0 1) (xl_k 0 6) (xA2 b r)) (F0 m 79 ls []) := by
      intro H locs ls z u g hg1 hg2 hP hS hl
      refine lv_aload_n E.1 E.2.1 d_M_takeRange_79 rfl (lv_at hl 2 rfl) ?_
      refine lv_lload_n E.1 E.2.1 d_M_takeRange_80 rfl (lv_at hl 3 rfl) ?_
      refine lv_lload E.1 E.2.1 d_M_takeRange_81 (lv_at hl 0 rfl) ?_
      refine lv_ladd E.1 E.2.1 d_M_takeRange_83 ?_
      refine lv_iconst (v := 2) E.1 E.2.1 d_M_takeRange_84 (by decide) ?_
      refine xg_goes (xc_V E xGT (m_done l D b r cJ cZ β n q u g hne (lo + z) 2) vw_M_done (by decide) (wM.call hP hK) (PM.recv hP hK) rfl hl.1 rfl (Nat.le_of_ble_eq_true rfl) d_M_takeRange_85) hS (fun q _ h => h) (fun q h => h) (fun v st t locs1 h0 hal hrt hS3 hz hkp => ?_) (fun x st t locs1 h0 hal hth => hth.elim)
      rcases hrt with ⟨g2, rfl, hP3⟩ | ⟨g2, rfl, hP3⟩
      · skip
        refine W.eq (g2 := F0 m 88 ls [.long (lo + z)]) rfl ?_
        generalize t.heap = H3 at hP3 hS3 hz hkp ⊢
        exact xr_lret E hr hk hS3 (fun t ht _ => xMl.mk (hg1 g2) (fun _ => rfl) (by rw [ht]; exact hP3)) d_M_takeRange_88
      · skip
        refine W.eq (g2 := F0 m 88 ls [.long 0]) rfl ?_
        generalize t.heap = H3 at hP3 hS3 hz hkp ⊢
        exact xr_lret E hr hk hS3 (fun t ht _ => xMl.mk (hg2 g2) (fun z => absurd z (by decide)) (by rw [ht]; exact hP3)) d_M_takeRange_88
    have cmp : ∀ (H : Heap) (locs : List Loc) (ls : Array Slot) (z : Int64) (u : Nat) (g : Bool), (g = true → ¬ uN (hi - lo) < uN z → sp_takeRange (β, n, q) lo hi = (0, lo + z, (β, n, u))) → (g = false ∨ uN (hi - lo) < uN z → sp_takeRange (β, n, q) lo hi = (2, 0, (β, n, q))) → PM D b r cZ β n q 0 u g H → va_S (xA2 b r) s.heap H locs → lv_has ls 9 [(7, .long z), (5, .long (hi - lo)), (0, .ref b), (1, .long lo), (3, .long hi)] →
        W p l e (xrm 2) s m [Value.ref b, .long lo, .long hi].toArray below meth c H locs 0 0 (xl_MQ below (xl_Q (xA2 b r) (xMl (sp_takeRange (β, n, q) lo hi) D b r cZ) (fun _ _ _ => False)) [Value.ref b, .long lo, .long hi].toArray s (xl_k 0 1) (xl_k 0 6) (xA2 b r)) (F0 m 34 ls []) := by
      intro H locs ls z u g hg1 hg2 hP hS hl
      have hz := uN_lt z
      have hm := uN_lt (hi - lo)
      have iz := uN_int z
      have im := uN_int (hi - lo)
      refine xl_join (fun _ : Unit => uN (hi - lo) < uN z) (fun _ => F0 m 74 ls []) (fun _ hlt => ?_) (fun hj74 => ?_)
      · skip
        refine lv_aload_n E.1 E.2.1 d_M_takeRange_74 rfl (lv_at hl 2 rfl) ?_
        refine lv_iconst (v := 0) E.1 E.2.1 d_M_takeRange_75 (by decide) ?_
        refine sm_good (g := false) E hK hP hne hS d_M_takeRange_76 (fun H2 locs2 hP2 hS2 => ?_)
        exact tail H2 locs2 ls z u false (fun z => by cases z) (fun _ => hg2 (Or.inr hlt)) hP2 hS2 hl
      · have hok : ¬ uN (hi - lo) < uN z → W p l e (xrm 2) s m [Value.ref b, .long lo, .long hi].toArray below meth c H locs 0 0 (xl_MQ below (xl_Q (xA2 b r) (xMl (sp_takeRange (β, n, q) lo hi) D b r cZ) (fun _ _ _ => False)) [Value.ref b, .long lo, .long hi].toArray s (xl_k 0 1) (xl_k 0 6) (xA2 b r)) (F0 m 79 ls []) := fun hlt => tail H locs ls z u g (fun a => hg1 a hlt) (fun a => hg2 (Or.inl a)) hP hS hl
        refine lv_lload E.1 E.2.1 d_M_takeRange_34 (lv_at hl 0 rfl) ?_
        refine lv_lconst (v := 0) E.1 E.2.1 d_M_takeRange_36 (by decide) ?_
        refine xl_lc_ge (tgt := 59) E.1 E.2.1 d_M_takeRange_37 d_M_takeRange_38 (by decide) (fun c1 => ?_) (fun c1 => ?_)
        · skip
          rw [Int64.le_iff_toInt_le, Int64.toInt_zero] at c1
          refine lv_lload E.1 E.2.1 d_M_takeRange_59 (lv_at hl 1 rfl) ?_
          refine lv_lconst (v := 0) E.1 E.2.1 d_M_takeRange_61 (by decide) ?_
          refine xl_lc_lt (tgt := 79) E.1 E.2.1 d_M_takeRange_62 d_M_takeRange_63 (by decide) (fun c2 => ?_) (fun c2 => ?_)
          · skip
            rw [Int64.lt_iff_toInt_lt, Int64.toInt_zero] at c2
            exact hok (by omega)
          · skip
            rw [Int64.lt_iff_toInt_lt, Int64.toInt_zero] at c2
            refine lv_lload E.1 E.2.1 d_M_takeRange_66 (lv_at hl 0 rfl) ?_
            refine lv_lload E.1 E.2.1 d_M_takeRange_68 (lv_at hl 1 rfl) ?_
            refine xl_lc_le (tgt := 79) E.1 E.2.1 d_M_takeRange_70 d_M_takeRange_71 (by decide) (fun c3 => ?_) (fun c3 => ?_)
            · skip
              rw [Int64.le_iff_toInt_le] at c3
              exact hok (by omega)
            · skip
              rw [Int64.le_iff_toInt_le] at c3
              exact hj74 () (by omega)
        · skip
          rw [Int64.le_iff_toInt_le, Int64.toInt_zero] at c1
          refine lv_lload E.1 E.2.1 d_M_takeRange_41 (lv_at hl 1 rfl) ?_
          refine lv_lconst (v := 0) E.1 E.2.1 d_M_takeRange_43 (by decide) ?_
          refine xl_lc_ge (tgt := 74) E.1 E.2.1 d_M_takeRange_44 d_M_takeRange_45 (by decide) (fun c2 => ?_) (fun c2 => ?_)
          · skip
            rw [Int64.le_iff_toInt_le, Int64.toInt_zero] at c2
            exact hj74 () (by omega)
          · skip
            rw [Int64.le_iff_toInt_le, Int64.toInt_zero] at c2
            refine lv_lload E.1 E.2.1 d_M_takeRange_48 (lv_at hl 0 rfl) ?_
            refine lv_lload E.1 E.2.1 d_M_takeRange_50 (lv_at hl 1 rfl) ?_
            refine xl_lc_le (tgt := 79) E.1 E.2.1 d_M_takeRange_52 d_M_takeRange_53 (by decide) (fun c3 => ?_) (fun c3 => ?_)
            · skip
              rw [Int64.le_iff_toInt_le] at c3
              exact hok (by omega)
            · skip
              rw [Int64.le_iff_toInt_le] at c3
              refine lv_goto (tgt := 74) E.1 E.2.1 d_M_takeRange_56 (by decide) ?_
              exact hj74 () (by omega)
    refine lv_lload_n E.1 E.2.1 d_M_takeRange_17 rfl (lv_at hl 2 rfl) ?_
    refine lv_lload_n E.1 E.2.1 d_M_takeRange_18 rfl (lv_at hl 1 rfl) ?_
    refine lv_lsub E.1 E.2.1 d_M_takeRange_19 ?_
    refine lv_lstore E.1 E.2.1 d_M_takeRange_20 hl (by decide) rfl (fun ls hl => ?_)
    have hl : lv_has ls 9 [(5, .long (hi - lo)), (0, .ref b), (1, .long lo), (3, .long hi)] := hl
    refine lv_aload_n E.1 E.2.1 d_M_takeRange_22 rfl (lv_at hl 1 rfl) ?_
    refine lv_aload_n E.1 E.2.1 d_M_takeRange_23 rfl (lv_at hl 1 rfl) ?_
    refine lv_lload E.1 E.2.1 d_M_takeRange_24 (lv_at hl 0 rfl) ?_
    refine xg_looks (xc_V E xGT (m_width l b (hi - lo)) vw_M_width (by decide) xNo (PM.recv hP1 hK) rfl hl.1 rfl (Nat.le_of_ble_eq_true rfl) d_M_takeRange_26) (fun v st t h => h.2) (fun v st t h0 hal hrt => ?_) (fun x st t h0 hal hth hz => hth.elim)
    obtain ⟨rfl, -⟩ := hrt
    refine W.eq (g2 := F0 m 29 ls [.int (nI (nbl (uN (hi - lo)))), .ref b]) rfl ?_
    generalize hM : nbl (uN (hi - lo)) = w at hsp hb
    refine xg_goes (xc_V E xGT (m_get l D b r cJ cZ β n q 0 q true w hn (by omega) hb hne) vw_M_get (by decide) (wM.call hP1 hK) (PM.recv hP1 hK) rfl hl.1 rfl (Nat.le_of_ble_eq_true rfl) d_M_takeRange_29) hS1 (fun q _ h => h) (fun q h => h) (fun v st t locs1 h0 hal hrt hS2 hz hkp => ?_) (fun x st t locs1 h0 hal hth => hth.elim)
    rcases hrt with ⟨-, g1, rfl, hP2⟩ | ⟨g1, rfl, hP2⟩
    · have hv := xv_lt β q w
      have hv64 : xv β q w < 2 ^ 64 := Nat.lt_of_lt_of_le hv (Nat.pow_le_pow_right (by decide) hb)
      have hu := uN_lN hv64
      refine W.eq (g2 := F0 m 32 ls [.long (lN (xv β q w))]) rfl ?_
      generalize t.heap = H2 at hP2 hS2 hz hkp ⊢
      refine lv_lstore E.1 E.2.1 d_M_takeRange_32 hl (by decide) rfl (fun ls hl => ?_)
      have hl : lv_has ls 9 [(7, .long (lN (xv β q w))), (5, .long (hi - lo)), (0, .ref b), (1, .long lo), (3, .long hi)] := hl
      refine cmp H2 _ ls (lN (xv β q w)) (q + w) true (fun _ a => ?_) (fun a => ?_) hP2 hS2 hl
      · rw [hu] at a
        rw [hsp, if_neg (by omega)]
      · rcases a with a | a
        · cases a
        · rw [hu] at a
          rw [hsp, if_pos (Or.inr a)]
    · skip
      refine W.eq (g2 := F0 m 32 ls [.long 0]) rfl ?_
      generalize t.heap = H2 at hP2 hS2 hz hkp ⊢
      refine lv_lstore E.1 E.2.1 d_M_takeRange_32 hl (by decide) rfl (fun ls hl => ?_)
      have hl : lv_has ls 9 [(7, .long 0), (5, .long (hi - lo)), (0, .ref b), (1, .long lo), (3, .long hi)] := hl
      refine cmp H2 _ ls 0 q false (fun a => by cases a) (fun a => ?_) hP2 hS2 hl
      rw [hsp, if_pos (Or.inl (Nat.not_le.mp (fun z => g1 ⟨rfl, z⟩)))]
  · skip
    have h2 : hi < lo := by
      rw [Int64.lt_iff_toInt_lt]
      rw [Int64.le_iff_toInt_le] at h1
      omega
    have hsp : sp_takeRange (β, n, q) lo hi = (1, 0, (β, n, q)) := by
      unfold sp_takeRange
      rw [if_pos h2]
    refine lv_aload_n E.1 E.2.1 d_M_takeRange_10 rfl (lv_at hl 0 rfl) ?_
    refine lv_iconst (v := 1) E.1 E.2.1 d_M_takeRange_11 (by decide) ?_
    refine xg_goes (xc_V E xGT (m_fail l D b r cJ cZ β n q 0 q true hne 1) vw_M_fail (by decide) (wM.call hP1 hK) (PM.recv hP1 hK) rfl hl.1 rfl (Nat.le_of_ble_eq_true rfl) d_M_takeRange_12) hS1 (fun q _ h => h) (fun q h => h) (fun v st t locs1 h0 hal hrt hS2 hz hkp => ?_) (fun x st t locs1 h0 hal hth => hth.elim)
    obtain ⟨rfl, hP2⟩ := hrt
    refine W.eq (g2 := F0 m 15 ls [.int 0]) rfl ?_
    generalize t.heap = H2 at hP2 hS2 hz hkp ⊢
    refine lv_i2l (v := (0 : Int32).toInt64) E.1 E.2.1 d_M_takeRange_15 rfl ?_
    exact xr_lret E hr hk hS2 (fun t ht _ => xMl.mk hsp (fun z => absurd z (by decide)) (by rw [ht]; exact hP2)) d_M_takeRange_16
end XL26
end
section
/-! The reference: a length and a number read. -/
section XL27
def xLn (D : va_G) (b r : Nat) (cZ : ClassId) (β : Nat → Bool) (n q : Nat) (fa : Int32) (rd : Nat) : Option Value → State → State → Prop := fun v _ t => (∃ len wd, xlen β n rd = some (len, wd) ∧ v = some (.int (nI len)) ∧ PM D b r cZ β n q fa (rd + wd) true t.heap) ∨ (xlen β n rd = none ∧ ∃ (z : Int32) (u : Nat), v = some (.int z) ∧ PM D b r cZ β n q fa u false t.heap)
set_option maxHeartbeats 4000000 in
set_option maxRecDepth 100000 in
theorem m_length (l : Launch) (D : va_G) (b r : Nat) (cJ cZ : ClassId) (β : Nat → Bool) (n q : Nat) (fa : Int32) (rd : Nat) (hn : n ≤ 65536) (hrd : rd ≤ n) (hne : b ≠ r) : xM l y_M_length w_M_length (xrm 1) [.ref b] (wM D b r cJ cZ β n q fa rd true) (xA2 b r) (xLn D b r cZ β n q fa rd) (fun _ _ _ => False) := by
  refine xM.of (by decide) ?_
  intro p e s m args below meth c hav E hr hk hh hnm hwM
  subst hav
  obtain ⟨hP, hK⟩ := hwM
  have hS : va_S (xA2 b r) s.heap s.heap [] := va_S.rf
  have ret36 : ∀ (H : Heap) (locs : List Loc) (ls : Array Slot) (z wd : Nat) (g : Bool), z < 2 ^ 31 → (g = true → ¬ z < 128 → xlen β n rd = some (z, wd)) → (g = false ∨ z < 128 → xlen β n rd = none) → PM D b r cZ β n q fa (rd + wd) g H → va_S (xA2 b r) s.heap H locs → lv_has ls 2 [(1, .int (nI z)), (0, .ref b)] →
      W p l e (xrm 1) s m [Value.ref b].toArray below meth c H locs 0 0 (xl_MQ below (xl_Q (xA2 b r) (xLn D b r cZ β n q fa rd) (fun _ _ _ => False)) [Value.ref b].toArray s (xl_k 0 1) (xl_k 0 6) (xA2 b r)) (F0 m 36 ls []) := by
    intro H locs ls z wd g hz hA hB hP hS hl
    refine lv_iload_n E.1 E.2.1 d_M_length_36 rfl (lv_at hl 0 rfl) ?_
    refine lv_sipush (v := 128) E.1 E.2.1 d_M_length_37 (by decide) ?_
    refine lv_icmp_ge (tgt := 48) E.1 E.2.1 d_M_length_40 (by decide) (fun h1 => ?_) (fun h1 => ?_)
    · skip
      have h1 : 128 ≤ z := (nI_leI (a := 128) (by decide) hz).mp h1
      refine lv_iload_n E.1 E.2.1 d_M_length_48 rfl (lv_at hl 0 rfl) ?_
      refine xr_iret E hr hk hS (fun t ht _ => ?_) d_M_length_49
      cases g
      · exact Or.inr ⟨hB (Or.inl rfl), _, _, rfl, by rw [ht]; exact hP⟩
      · exact Or.inl ⟨_, _, hA rfl (by omega), rfl, by rw [ht]; exact hP⟩
    · skip
      have h1 : ¬ 128 ≤ z := fun a => h1 ((nI_leI (a := 128) (by decide) hz).mpr a)
      refine lv_aload_n E.1 E.2.1 d_M_length_43 rfl (lv_at hl 1 rfl) ?_
      refine lv_iconst (v := 0) E.1 E.2.1 d_M_length_44 (by decide) ?_
      refine sm_good (g := false) E hK hP hne hS d_M_length_45 (fun H2 locs2 hP2 hS2 => ?_)
      refine lv_iload_n E.1 E.2.1 d_M_length_48 rfl (lv_at hl 0 rfl) ?_
      exact xr_iret E hr hk hS2 (fun t ht _ => Or.inr ⟨hB (Or.inr (by omega)), _, _, rfl, by rw [ht]; exact hP2⟩) d_M_length_49
  have ret73 : ∀ (H : Heap) (locs : List Loc) (ls : Array Slot) (z wd : Nat) (g : Bool), z < 2 ^ 16 → (g = true → xlen β n rd = some (16384 * z, wd)) → (g = false → xlen β n rd = none) → PM D b r cZ β n q fa (rd + wd) g H → va_S (xA2 b r) s.heap H locs → lv_has ls 2 [(1, .int (nI z)), (0, .ref b)] →
      W p l e (xrm 1) s m [Value.ref b].toArray below meth c H locs 0 0 (xl_MQ below (xl_Q (xA2 b r) (xLn D b r cZ β n q fa rd) (fun _ _ _ => False)) [Value.ref b].toArray s (xl_k 0 1) (xl_k 0 6) (xA2 b r)) (F0 m 73 ls []) := by
    intro H locs ls z wd g hz hA hB hP hS hl
    refine lv_sipush (v := 16384) E.1 E.2.1 d_M_length_73 (by decide) ?_
    refine lv_iload_n E.1 E.2.1 d_M_length_76 rfl (lv_at hl 0 rfl) ?_
    refine lv_imul E.1 E.2.1 d_M_length_77 ?_
    refine xl_ti (y := (nI (16384 * z))) (pk_mul 16384 z) ?_
    refine xr_iret E hr hk hS (fun t ht _ => ?_) d_M_length_78
    cases g
    · exact Or.inr ⟨hB rfl, _, _, rfl, by rw [ht]; exact hP⟩
    · exact Or.inl ⟨_, _, hA rfl, rfl, by rw [ht]; exact hP⟩
  have ret58 : ∀ (H : Heap) (locs : List Loc) (ls : Array Slot) (z wd : Nat) (g : Bool), z < 2 ^ 16 → (g = true → ¬ (z < 1 ∨ 4 < z) → xlen β n rd = some (16384 * z, wd)) → (g = false ∨ (z < 1 ∨ 4 < z) → xlen β n rd = none) → PM D b r cZ β n q fa (rd + wd) g H → va_S (xA2 b r) s.heap H locs → lv_has ls 2 [(1, .int (nI z)), (0, .ref b)] →
      W p l e (xrm 1) s m [Value.ref b].toArray below meth c H locs 0 0 (xl_MQ below (xl_Q (xA2 b r) (xLn D b r cZ β n q fa rd) (fun _ _ _ => False)) [Value.ref b].toArray s (xl_k 0 1) (xl_k 0 6) (xA2 b r)) (F0 m 58 ls []) := by
    intro H locs ls z wd g hz hA hB hP hS hl
    refine xl_join (fun _ : Unit => z < 1 ∨ 4 < z) (fun _ => F0 m 68 ls []) (fun _ hlt => ?_) (fun hj => ?_)
    · skip
      refine lv_aload_n E.1 E.2.1 d_M_length_68 rfl (lv_at hl 1 rfl) ?_
      refine lv_iconst (v := 0) E.1 E.2.1 d_M_length_69 (by decide) ?_
      refine sm_good (g := false) E hK hP hne hS d_M_length_70 (fun H2 locs2 hP2 hS2 => ?_)
      exact ret73 H2 locs2 ls z wd false hz (fun a => by cases a) (fun _ => hB (Or.inr hlt)) hP2 hS2 hl
    · skip
      refine lv_iload_n E.1 E.2.1 d_M_length_58 rfl (lv_at hl 0 rfl) ?_
      refine lv_iconst (v := 1) E.1 E.2.1 d_M_length_59 (by decide) ?_
      refine lv_icmp_lt (tgt := 68) E.1 E.2.1 d_M_length_60 (by decide) (fun h1 => ?_) (fun h1 => ?_)
      · skip
        exact hj () (Or.inl ((nI_ltI (b := 1) (by omega) (by decide)).mp h1))
      · skip
        have h1 : ¬ z < 1 := fun a => h1 ((nI_ltI (b := 1) (by omega) (by decide)).mpr a)
        refine lv_iload_n E.1 E.2.1 d_M_length_63 rfl (lv_at hl 0 rfl) ?_
        refine lv_iconst (v := 4) E.1 E.2.1 d_M_length_64 (by decide) ?_
        refine lv_icmp_le (tgt := 73) E.1 E.2.1 d_M_length_65 (by decide) (fun h2 => ?_) (fun h2 => ?_)
        · skip
          have h2 : z ≤ 4 := (nI_leI (b := 4) (by omega) (by decide)).mp h2
          exact ret73 H locs ls z wd g hz (fun a => hA a (by omega)) (fun a => hB (Or.inl a)) hP hS hl
        · skip
          have h2 : ¬ z ≤ 4 := fun a => h2 ((nI_leI (b := 4) (by omega) (by decide)).mpr a)
          exact hj () (Or.inr (by omega))
  refine xl_entry _ (Nat.le_of_ble_eq_true rfl) (fun ls hl => ?_)
  have hl : lv_has ls 2 [(0, .ref b)] := hl
  refine lv_aload_n E.1 E.2.1 d_M_length_0 rfl (lv_at hl 0 rfl) ?_
  refine lv_iconst (v := 1) E.1 E.2.1 d_M_length_1 (by decide) ?_
  refine xg_goes (xc_V E xGT (m_get l D b r cJ cZ β n q fa rd true 1 hn (by omega) (by decide) hne) vw_M_get (by decide) (wM.call hP hK) (PM.recv hP hK) rfl hl.1 rfl (Nat.le_of_ble_eq_true rfl) d_M_length_2) hS (fun q _ h => h) (fun q h => h) (fun v st t locs1 h0 hal hrt hS1 hz hkp => ?_) (fun x st t locs1 h0 hal hth => hth.elim)
  rcases hrt with ⟨-, g1, rfl, hP1⟩ | ⟨g1, rfl, hP1⟩
  · skip
    refine W.eq (g2 := F0 m 5 ls [.long (lN (xv β rd 1))]) rfl ?_
    generalize t.heap = H1 at hP1 hS1 hz hkp ⊢
    refine lv_lconst (v := 0) E.1 E.2.1 d_M_length_5 (by decide) ?_
    refine xl_lc_ne (tgt := 18) E.1 E.2.1 d_M_length_6 d_M_length_7 (by decide) (fun h2 => ?_) (fun h2 => ?_)
    · skip
      have h2 : ¬ β rd = false := fun z => h2 (xv_10.mpr z)
      refine lv_aload_n E.1 E.2.1 d_M_length_18 rfl (lv_at hl 0 rfl) ?_
      refine lv_iconst (v := 1) E.1 E.2.1 d_M_length_19 (by decide) ?_
      refine xg_goes (xc_V E xGT (m_get l D b r cJ cZ β n q fa (rd + 1) true 1 hn (by omega) (by decide) hne) vw_M_get (by decide) (wM.call hP1 hK) (PM.recv hP1 hK) rfl hl.1 rfl (Nat.le_of_ble_eq_true rfl) d_M_length_20) hS1 (fun q _ h => h) (fun q h => h) (fun v st t locs1 h0 hal hrt hS2 hz hkp => ?_) (fun x st t locs1 h0 hal hth => hth.elim)
      rcases hrt with ⟨-, g3, rfl, hP2⟩ | ⟨g3, rfl, hP2⟩
      · skip
        refine W.eq (g2 := F0 m 23 ls [.long (lN (xv β (rd + 1) 1))]) rfl ?_
        generalize t.heap = H2 at hP2 hS2 hz hkp ⊢
        refine lv_lconst (v := 0) E.1 E.2.1 d_M_length_23 (by decide) ?_
        refine xl_lc_ne (tgt := 50) E.1 E.2.1 d_M_length_24 d_M_length_25 (by decide) (fun h4 => ?_) (fun h4 => ?_)
        · skip
          have h4 : ¬ β (rd + 1) = false := fun z => h4 (xv_10.mpr z)
          have hX : xlen β n rd = if n < rd + 8 then none else if xv β (rd + 2) 6 < 1 ∨ 4 < xv β (rd + 2) 6 then none else some (16384 * xv β (rd + 2) 6, 8) := by
            unfold xlen
            rw [if_neg (by omega), if_neg h2, if_neg (by omega), if_neg h4]
          have hv := xv_lt β (rd + 2) 6
          refine lv_aload_n E.1 E.2.1 d_M_length_50 rfl (lv_at hl 0 rfl) ?_
          refine lv_bipush (v := 6) E.1 E.2.1 d_M_length_51 (by decide) ?_
          refine xg_goes (xc_V E xGT (m_get l D b r cJ cZ β n q fa (rd + 2) true 6 hn (by omega) (by decide) hne) vw_M_get (by decide) (wM.call hP2 hK) (PM.recv hP2 hK) rfl hl.1 rfl (Nat.le_of_ble_eq_true rfl) d_M_length_53) hS2 (fun q _ h => h) (fun q h => h) (fun v st t locs1 h0 hal hrt hS3 hz hkp => ?_) (fun x st t locs1 h0 hal hth => hth.elim)
          rcases hrt with ⟨-, g5, rfl, hP3⟩ | ⟨g5, rfl, hP3⟩
          · skip
            refine W.eq (g2 := F0 m 56 ls [.long (lN (xv β (rd + 2) 6))]) rfl ?_
            generalize t.heap = H3 at hP3 hS3 hz hkp ⊢
            refine lv_l2i (v := (lN (xv β (rd + 2) 6)).toInt32) E.1 E.2.1 d_M_length_56 rfl ?_
            refine xl_ti (y := (nI (xv β (rd + 2) 6))) (lN_i _) ?_
            refine lv_istore_n E.1 E.2.1 d_M_length_57 rfl hl (by decide) rfl (fun ls hl => ?_)
            have hl : lv_has ls 2 [(1, .int (nI (xv β (rd + 2) 6))), (0, .ref b)] := hl
            exact ret58 H3 _ ls _ 8 true (by omega) (fun _ a => by rw [hX, if_neg (by omega), if_neg a]) (fun a => by rw [hX, if_neg (by omega), if_pos (a.elim (fun z => by cases z) id)]) hP3 hS3 hl
          · skip
            refine W.eq (g2 := F0 m 56 ls [.long 0]) rfl ?_
            generalize t.heap = H3 at hP3 hS3 hz hkp ⊢
            refine lv_l2i (v := (0 : Int64).toInt32) E.1 E.2.1 d_M_length_56 rfl ?_
            refine xl_ti (y := (nI 0)) (by decide) ?_
            refine lv_istore_n E.1 E.2.1 d_M_length_57 rfl hl (by decide) rfl (fun ls hl => ?_)
            have hl : lv_has ls 2 [(1, .int (nI 0)), (0, .ref b)] := hl
            exact ret58 H3 _ ls _ 2 false (by decide) (fun a => by cases a) (fun _ => by rw [hX, if_pos (Nat.not_le.mp (fun z => g5 ⟨rfl, by omega⟩))]) hP3 hS3 hl
        · skip
          have h4 : β (rd + 1) = false := xv_10.mp h4
          have hX : xlen β n rd = if n < rd + 16 then none else if xv β (rd + 2) 14 < 128 then none else some (xv β (rd + 2) 14, 16) := by
            unfold xlen
            rw [if_neg (by omega), if_neg h2, if_neg (by omega), if_pos h4]
          have hv := xv_lt β (rd + 2) 14
          refine lv_aload_n E.1 E.2.1 d_M_length_28 rfl (lv_at hl 0 rfl) ?_
          refine lv_bipush (v := 14) E.1 E.2.1 d_M_length_29 (by decide) ?_
          refine xg_goes (xc_V E xGT (m_get l D b r cJ cZ β n q fa (rd + 2) true 14 hn (by omega) (by decide) hne) vw_M_get (by decide) (wM.call hP2 hK) (PM.recv hP2 hK) rfl hl.1 rfl (Nat.le_of_ble_eq_true rfl) d_M_length_31) hS2 (fun q _ h => h) (fun q h => h) (fun v st t locs1 h0 hal hrt hS3 hz hkp => ?_) (fun x st t locs1 h0 hal hth => hth.elim)
          rcases hrt with ⟨-, g5, rfl, hP3⟩ | ⟨g5, rfl, hP3⟩
          · skip
            refine W.eq (g2 := F0 m 34 ls [.long (lN (xv β (rd + 2) 14))]) rfl ?_
            generalize t.heap = H3 at hP3 hS3 hz hkp ⊢
            refine lv_l2i (v := (lN (xv β (rd + 2) 14)).toInt32) E.1 E.2.1 d_M_length_34 rfl ?_
            refine xl_ti (y := (nI (xv β (rd + 2) 14))) (lN_i _) ?_
            refine lv_istore_n E.1 E.2.1 d_M_length_35 rfl hl (by decide) rfl (fun ls hl => ?_)
            have hl : lv_has ls 2 [(1, .int (nI (xv β (rd + 2) 14))), (0, .ref b)] := hl
            exact ret36 H3 _ ls _ 16 true (by omega) (fun _ a => by rw [hX, if_neg (by omega), if_neg a]) (fun a => by rw [hX, if_neg (by omega), if_pos (a.elim (fun z => by cases z) id)]) hP3 hS3 hl
          · skip
            refine W.eq (g2 := F0 m 34 ls [.long 0]) rfl ?_
            generalize t.heap = H3 at hP3 hS3 hz hkp ⊢
            refine lv_l2i (v := (0 : Int64).toInt32) E.1 E.2.1 d_M_length_34 rfl ?_
            refine xl_ti (y := (nI 0)) (by decide) ?_
            refine lv_istore_n E.1 E.2.1 d_M_length_35 rfl hl (by decide) rfl (fun ls hl => ?_)
            have hl : lv_has ls 2 [(1, .int (nI 0)), (0, .ref b)] := hl
            exact ret36 H3 _ ls _ 2 false (by decide) (fun a => by cases a) (fun _ => by rw [hX, if_pos (Nat.not_le.mp (fun z => g5 ⟨rfl, by omega⟩))]) hP3 hS3 hl
      · skip
        refine W.eq (g2 := F0 m 23 ls [.long 0]) rfl ?_
        generalize t.heap = H2 at hP2 hS2 hz hkp ⊢
        have hX : xlen β n rd = none := by
          unfold xlen
          rw [if_neg (by omega), if_neg h2, if_pos (Nat.not_le.mp (fun z => g3 ⟨rfl, by omega⟩))]
        refine lv_lconst (v := 0) E.1 E.2.1 d_M_length_23 (by decide) ?_
        refine xl_lc_ne (tgt := 50) E.1 E.2.1 d_M_length_24 d_M_length_25 (by decide) (fun h4 => ?_) (fun h4 => ?_)
        · skip
          exact absurd rfl h4
        · skip
          refine lv_aload_n E.1 E.2.1 d_M_length_28 rfl (lv_at hl 0 rfl) ?_
          refine lv_bipush (v := 14) E.1 E.2.1 d_M_length_29 (by decide) ?_
          refine xg_goes (xc_V E xGT (m_get l D b r cJ cZ β n q fa (rd + 1) false 14 hn (by omega) (by decide) hne) vw_M_get (by decide) (wM.call hP2 hK) (PM.recv hP2 hK) rfl hl.1 rfl (Nat.le_of_ble_eq_true rfl) d_M_length_31) hS2 (fun q _ h => h) (fun q h => h) (fun v st t locs1 h0 hal hrt hS3 hz hkp => ?_) (fun x st t locs1 h0 hal hth => hth.elim)
          rcases hrt with ⟨g5, -⟩ | ⟨-, rfl, hP3⟩
          · cases g5
          · skip
            refine W.eq (g2 := F0 m 34 ls [.long 0]) rfl ?_
            generalize t.heap = H3 at hP3 hS3 hz hkp ⊢
            refine lv_l2i (v := (0 : Int64).toInt32) E.1 E.2.1 d_M_length_34 rfl ?_
            refine xl_ti (y := (nI 0)) (by decide) ?_
            refine lv_istore_n E.1 E.2.1 d_M_length_35 rfl hl (by decide) rfl (fun ls hl => ?_)
            have hl : lv_has ls 2 [(1, .int (nI 0)), (0, .ref b)] := hl
            exact ret36 H3 _ ls _ 1 false (by decide) (fun a => by cases a) (fun _ => hX) hP3 hS3 hl
    · skip
      have h2 : β rd = false := xv_10.mp h2
      have hX : xlen β n rd = if n < rd + 8 then none else some (xv β (rd + 1) 7, 8) := by
        unfold xlen
        rw [if_neg (by omega), if_pos h2]
      refine lv_aload_n E.1 E.2.1 d_M_length_10 rfl (lv_at hl 0 rfl) ?_
      refine lv_bipush (v := 7) E.1 E.2.1 d_M_length_11 (by decide) ?_
      refine xg_goes (xc_V E xGT (m_get l D b r cJ cZ β n q fa (rd + 1) true 7 hn (by omega) (by decide) hne) vw_M_get (by decide) (wM.call hP1 hK) (PM.recv hP1 hK) rfl hl.1 rfl (Nat.le_of_ble_eq_true rfl) d_M_length_13) hS1 (fun q _ h => h) (fun q h => h) (fun v st t locs1 h0 hal hrt hS2 hz hkp => ?_) (fun x st t locs1 h0 hal hth => hth.elim)
      rcases hrt with ⟨-, g3, rfl, hP2⟩ | ⟨g3, rfl, hP2⟩
      · skip
        refine W.eq (g2 := F0 m 16 ls [.long (lN (xv β (rd + 1) 7))]) rfl ?_
        generalize t.heap = H2 at hP2 hS2 hz hkp ⊢
        refine lv_l2i (v := (lN (xv β (rd + 1) 7)).toInt32) E.1 E.2.1 d_M_length_16 rfl ?_
        refine xl_ti (y := (nI (xv β (rd + 1) 7))) (lN_i _) ?_
        exact xr_iret E hr hk hS2 (fun t ht _ => Or.inl ⟨_, 8, by rw [hX, if_neg (by omega)], rfl, by rw [ht]; exact hP2⟩) d_M_length_17
      · skip
        refine W.eq (g2 := F0 m 16 ls [.long 0]) rfl ?_
        generalize t.heap = H2 at hP2 hS2 hz hkp ⊢
        refine lv_l2i (v := (0 : Int64).toInt32) E.1 E.2.1 d_M_length_16 rfl ?_
        exact xr_iret E hr hk hS2 (fun t ht _ => Or.inr ⟨by rw [hX, if_pos (Nat.not_le.mp (fun z => g3 ⟨rfl, by omega⟩))], _, _, rfl, by rw [ht]; exact hP2⟩) d_M_length_17
  · skip
    refine W.eq (g2 := F0 m 5 ls [.long 0]) rfl ?_
    generalize t.heap = H1 at hP1 hS1 hz hkp ⊢
    have hX : xlen β n rd = none := by
      unfold xlen
      rw [if_pos (Nat.not_le.mp (fun z => g1 ⟨rfl, by omega⟩))]
    refine lv_lconst (v := 0) E.1 E.2.1 d_M_length_5 (by decide) ?_
    refine xl_lc_ne (tgt := 18) E.1 E.2.1 d_M_length_6 d_M_length_7 (by decide) (fun h2 => ?_) (fun h2 => ?_)
    · skip
      exact absurd rfl h2
    · skip
      refine lv_aload_n E.1 E.2.1 d_M_length_10 rfl (lv_at hl 0 rfl) ?_
      refine lv_bipush (v := 7) E.1 E.2.1 d_M_length_11 (by decide) ?_
      refine xg_goes (xc_V E xGT (m_get l D b r cJ cZ β n q fa rd false 7 hn (by omega) (by decide) hne) vw_M_get (by decide) (wM.call hP1 hK) (PM.recv hP1 hK) rfl hl.1 rfl (Nat.le_of_ble_eq_true rfl) d_M_length_13) hS1 (fun q _ h => h) (fun q h => h) (fun v st t locs1 h0 hal hrt hS2 hz hkp => ?_) (fun x st t locs1 h0 hal hth => hth.elim)
      rcases hrt with ⟨g5, -⟩ | ⟨-, rfl, hP2⟩
      · cases g5
      · skip
        refine W.eq (g2 := F0 m 16 ls [.long 0]) rfl ?_
        generalize t.heap = H2 at hP2 hS2 hz hkp ⊢
        refine lv_l2i (v := (0 : Int64).toInt32) E.1 E.2.1 d_M_length_16 rfl ?_
        exact xr_iret E hr hk hS2 (fun t ht _ => Or.inr ⟨hX, _, _, rfl, by rw [ht]; exact hP2⟩) d_M_length_17
set_option maxHeartbeats 4000000 in
set_option maxRecDepth 100000 in
theorem m_takeLength (l : Launch) (D : va_G) (b r : Nat) (cJ cZ : ClassId) (β : Nat → Bool) (n q : Nat) (fa : Int32) (rd : Nat) (gd : Bool) (hn : n ≤ 65536) (hq : q ≤ n) (hne : b ≠ r) : xM l y_M_takeLength w_M_takeLength (xrm 2) [.ref b] (wM D b r cJ cZ β n q fa rd gd) (xA2 b r) (xMi (sp_takeLength (β, n, q)) D b r cZ) (fun _ _ _ => False) := by
  refine xM.of (by decide) ?_
  intro p e s m args below meth c hav E hr hk hh hnm hwM
  subst hav
  obtain ⟨hP, hK⟩ := hwM
  have hS : va_S (xA2 b r) s.heap s.heap [] := va_S.rf
  refine xl_entry _ (Nat.le_of_ble_eq_true rfl) (fun ls hl => ?_)
  have hl : lv_has ls 1 [(0, .ref b)] := hl
  refine lv_aload_n E.1 E.2.1 d_M_takeLength_0 rfl (lv_at hl 0 rfl) ?_
  refine xg_goes (xc_V E xGT (m_begin l D b r cJ cZ β n q fa rd gd hne) vw_M_begin (by decide) (wM.call hP hK) (PM.recv hP hK) rfl hl.1 rfl (Nat.le_of_ble_eq_true rfl) d_M_takeLength_1) hS (fun q _ h => h) (fun q h => h) (fun v st t locs1 h0 hal hrt hS1 hz hkp => ?_) (fun x st t locs1 h0 hal hth => hth.elim)
  obtain ⟨rfl, hP1⟩ := hrt
  refine W.eq (g2 := F0 m 4 ls []) rfl ?_
  generalize t.heap = H1 at hP1 hS1 hz hkp ⊢
  refine lv_aload_n E.1 E.2.1 d_M_takeLength_4 rfl (lv_at hl 0 rfl) ?_
  refine lv_aload_n E.1 E.2.1 d_M_takeLength_5 rfl (lv_at hl 0 rfl) ?_
  refine xg_goes (xc_V E xGT (m_length l D b r cJ cZ β n q 0 q hn hq hne) vw_M_length (by decide) (wM.call hP1 hK) (PM.recv hP1 hK) rfl hl.1 rfl (Nat.le_of_ble_eq_true rfl) d_M_takeLength_6) hS1 (fun q _ h => h) (fun q h => h) (fun v st t locs1 h0 hal hrt hS2 hz hkp => ?_) (fun x st t locs1 h0 hal hth => hth.elim)
  rcases hrt with ⟨len, wd, hX, rfl, hP2⟩ | ⟨hX, z, u, rfl, hP2⟩
  · obtain ⟨hb, -, -⟩ := xlen_ok hX
    have hsp : sp_takeLength (β, n, q) = (0, lN len, (β, n, q + wd)) := by
      unfold sp_takeLength
      rw [hX]
    refine W.eq (g2 := F0 m 9 ls [.int (nI len), .ref b]) rfl ?_
    generalize t.heap = H2 at hP2 hS2 hz hkp ⊢
    refine lv_i2l (v := (nI len).toInt64) E.1 E.2.1 d_M_takeLength_9 rfl ?_
    refine xl_tl (y := (lN len)) (nI_l (by omega)) ?_
    refine lv_iconst (v := 1) E.1 E.2.1 d_M_takeLength_10 (by decide) ?_
    refine xg_goes (xc_V E xGT (m_done l D b r cJ cZ β n q (q + wd) true hne (lN len) 1) vw_M_done (by decide) (wM.call hP2 hK) (PM.recv hP2 hK) rfl hl.1 rfl (Nat.le_of_ble_eq_true rfl) d_M_takeLength_11) hS2 (fun q _ h => h) (fun q h => h) (fun v st t locs1 h0 hal hrt hS3 hz hkp => ?_) (fun x st t locs1 h0 hal hth => hth.elim)
    rcases hrt with ⟨-, rfl, hP3⟩ | ⟨g2, -⟩
    · skip
      refine W.eq (g2 := F0 m 14 ls [.long (lN len)]) rfl ?_
      generalize t.heap = H3 at hP3 hS3 hz hkp ⊢
      refine lv_l2i (v := (lN len).toInt32) E.1 E.2.1 d_M_takeLength_14 rfl ?_
      refine xl_ti (y := (nI len)) (lN_i _) ?_
      exact xr_iret E hr hk hS3 (fun t ht _ => xMi.mk hsp (fun _ => nI_l (by omega)) (by rw [ht]; exact hP3)) d_M_takeLength_15
    · cases g2
  · have hsp : sp_takeLength (β, n, q) = (1, 0, (β, n, q)) := by
      unfold sp_takeLength
      rw [hX]
    refine W.eq (g2 := F0 m 9 ls [.int z, .ref b]) rfl ?_
    generalize t.heap = H2 at hP2 hS2 hz hkp ⊢
    refine lv_i2l (v := z.toInt64) E.1 E.2.1 d_M_takeLength_9 rfl ?_
    refine lv_iconst (v := 1) E.1 E.2.1 d_M_takeLength_10 (by decide) ?_
    refine xg_goes (xc_V E xGT (m_done l D b r cJ cZ β n q u false hne z.toInt64 1) vw_M_done (by decide) (wM.call hP2 hK) (PM.recv hP2 hK) rfl hl.1 rfl (Nat.le_of_ble_eq_true rfl) d_M_takeLength_11) hS2 (fun q _ h => h) (fun q h => h) (fun v st t locs1 h0 hal hrt hS3 hz hkp => ?_) (fun x st t locs1 h0 hal hth => hth.elim)
    rcases hrt with ⟨g2, -⟩ | ⟨-, rfl, hP3⟩
    · cases g2
    · skip
      refine W.eq (g2 := F0 m 14 ls [.long 0]) rfl ?_
      generalize t.heap = H3 at hP3 hS3 hz hkp ⊢
      refine lv_l2i (v := (0 : Int64).toInt32) E.1 E.2.1 d_M_takeLength_14 rfl ?_
      exact xr_iret E hr hk hS3 (fun t ht _ => xMi.mk hsp (fun z => absurd z (by decide)) (by rw [ht]; exact hP3)) d_M_takeLength_15
end XL27
end
section
/-! The reference: a number read. -/
section XL28
theorem nb_20 (v : Int64) : nb 2 v = nb 0 v := by
  unfold nb
  rw [if_neg (by decide), if_neg (by decide)]
theorem xsx_20 (v : Int64) (b : Nat) : xsx 2 v b = xsx 0 v b := by
  unfold xsx
  rw [if_neg (by decide), if_neg (by decide)]
theorem xnumAt_20 (β : Nat → Bool) (n u : Nat) : xnumAt β n 2 u = xnumAt β n 0 u := by
  cases hx : xlen β n u with
  | none => rw [xnumAt_no hx, xnumAt_no hx]
  | some z =>
    obtain ⟨b, wd⟩ := z
    rw [xnumAt_of hx, xnumAt_of hx, xsx_20, nb_20]
set_option maxHeartbeats 4000000 in
set_option maxRecDepth 100000 in
theorem m_takeNumber (l : Launch) (D : va_G) (b r : Nat) (cJ cZ : ClassId) (β : Nat → Bool) (n q : Nat) (fa : Int32) (rd : Nat) (gd : Bool) (hn : n ≤ 65536) (hq : q ≤ n) (hne : b ≠ r) (kind : Int32) : xM l y_M_takeNumber w_M_takeNumber (xrm 2) [.ref b, .int kind] (wM D b r cJ cZ β n q fa rd gd) (xA2 b r) (xMl (sp_takeNumber (β, n, q) kind) D b r cZ) (fun _ _ _ => False) := by
  refine xM.of (by decide) ?_
  intro p e s m args below meth c hav E hr hk hh hnm hwM
  subst hav
  obtain ⟨hP, hK⟩ := hwM
  have hS : va_S (xA2 b r) s.heap s.heap [] := va_S.rf
  generalize hsp0 : sp_takeNumber (β, n, q) kind = sp
  have t160 : ∀ (H : Heap) (locs : List Loc) (ls : Array Slot) (v : Int64) (u : Nat) (g : Bool) (len : Nat), (g = true → sp = (0, v, (β, n, u))) → (g = false → sp = (2, 0, (β, n, q))) → PM D b r cZ β n q 0 u g H → va_S (xA2 b r) s.heap H locs → lv_has ls 5 [(3, .long v), (2, .int (nI len)), (0, .ref b), (1, .int kind)] →
      W p l e (xrm 2) s m [Value.ref b, .int kind].toArray below meth c H locs 0 0 (xl_MQ below (xl_Q (xA2 b r) (xMl (sp_takeNumber (β, n, q) kind) D b r cZ) (fun _ _ _ => False)) [Value.ref b, .int kind].toArray s (xl_k 0 1) (xl_k 0 6) (xA2 b r)) (F0 m 160 ls []) := by
    rw [hsp0]
    intro H locs ls v u g len hA hB hP hS hl
    refine lv_aload_n E.1 E.2.1 d_M_takeNumber_160 rfl (lv_at hl 2 rfl) ?_
    refine lv_lload_n E.1 E.2.1 d_M_takeNumber_161 rfl (lv_at hl 0 rfl) ?_
    refine lv_iconst (v := 2) E.1 E.2.1 d_M_takeNumber_162 (by decide) ?_
    refine xg_goes (xc_V E xGT (m_done l D b r cJ cZ β n q u g hne v 2) vw_M_done (by decide) (wM.call hP hK) (PM.recv hP hK) rfl hl.1 rfl (Nat.le_of_ble_eq_true rfl) d_M_takeNumber_163) hS (fun q _ h => h) (fun q h => h) (fun v st t locs1 h0 hal hrt hS3 hz hkp => ?_) (fun x st t locs1 h0 hal hth => hth.elim)
    rcases hrt with ⟨g2, rfl, hP3⟩ | ⟨g2, rfl, hP3⟩
    · skip
      refine W.eq (g2 := F0 m 166 ls [.long v]) rfl ?_
      generalize t.heap = H3 at hP3 hS3 hz hkp ⊢
      exact xr_lret E hr hk hS3 (fun t ht _ => xMl.mk (hA g2) (fun _ => rfl) (by rw [ht]; exact hP3)) d_M_takeNumber_166
    · skip
      refine W.eq (g2 := F0 m 166 ls [.long 0]) rfl ?_
      generalize t.heap = H3 at hP3 hS3 hz hkp ⊢
      exact xr_lret E hr hk hS3 (fun t ht _ => xMl.mk (hB g2) (fun z => absurd z (by decide)) (by rw [ht]; exact hP3)) d_M_takeNumber_166
  have t155 : ∀ (H : Heap) (locs : List Loc) (ls : Array Slot) (v : Int64) (u : Nat) (g : Bool) (len : Nat), sp = (2, 0, (β, n, q)) → PM D b r cZ β n q 0 u g H → va_S (xA2 b r) s.heap H locs → lv_has ls 5 [(3, .long v), (2, .int (nI len)), (0, .ref b), (1, .int kind)] →
      W p l e (xrm 2) s m [Value.ref b, .int kind].toArray below meth c H locs 0 0 (xl_MQ below (xl_Q (xA2 b r) (xMl (sp_takeNumber (β, n, q) kind) D b r cZ) (fun _ _ _ => False)) [Value.ref b, .int kind].toArray s (xl_k 0 1) (xl_k 0 6) (xA2 b r)) (F0 m 155 ls []) := by
    intro H locs ls v u g len hB hP hS hl
    refine lv_aload_n E.1 E.2.1 d_M_takeNumber_155 rfl (lv_at hl 2 rfl) ?_
    refine lv_iconst (v := 0) E.1 E.2.1 d_M_takeNumber_156 (by decide) ?_
    refine sm_good (g := false) E hK hP hne hS d_M_takeNumber_157 (fun H2 locs2 hP2 hS2 => ?_)
    exact t160 H2 locs2 ls v u false len (fun a => by cases a) (fun _ => hB) hP2 hS2 hl
  have t90 : ∀ (H : Heap) (locs : List Loc) (ls : Array Slot) (Z : Int64) (u : Nat) (g : Bool) (len : Nat), 1 ≤ len → len ≤ 8 → (g = true → nb kind (xsx kind Z len) = len → ¬ (kind = 2 ∧ (0 ≤ xsx kind Z len ∧ xsx kind Z len < 64)) → sp = (0, xsx kind Z len, (β, n, u))) → (g = false ∨ nb kind (xsx kind Z len) ≠ len ∨ (kind = 2 ∧ (0 ≤ xsx kind Z len ∧ xsx kind Z len < 64)) → sp = (2, 0, (β, n, q))) → PM D b r cZ β n q 0 u g H → va_S (xA2 b r) s.heap H locs → lv_has ls 5 [(2, .int (nI len)), (0, .ref b), (1, .int kind)] →
      W p l e (xrm 2) s m [Value.ref b, .int kind].toArray below meth c H locs 0 0 (xl_MQ below (xl_Q (xA2 b r) (xMl (sp_takeNumber (β, n, q) kind) D b r cZ) (fun _ _ _ => False)) [Value.ref b, .int kind].toArray s (xl_k 0 1) (xl_k 0 6) (xA2 b r)) (F0 m 90 ls [.long Z]) := by
    intro H locs ls Z u g len hl1 hl8 hA hB hP hS hl
    refine lv_lstore_n E.1 E.2.1 d_M_takeNumber_90 rfl hl (by decide) rfl (fun ls hl => ?_)
    have hl : lv_has ls 5 [(3, .long Z), (2, .int (nI len)), (0, .ref b), (1, .int kind)] := hl
    refine xl_join (fun ls : Array Slot => lv_has ls 5 [(3, .long (xsx kind Z len)), (2, .int (nI len)), (0, .ref b), (1, .int kind)]) (fun ls => F0 m 114 ls []) (fun ls hl => ?_) (fun hj => ?_)
    · generalize xsx kind Z len = v at hA hB hl
      have hnb8 := nb_8 kind v
      refine xl_join (fun z : Int32 => z = nI (nb kind v)) (fun z => F0 m 133 ls [.int z, .int (nI len)]) (fun z hz => ?_) (fun hj2 => ?_)
      · subst hz
        refine lv_icmp_ne (tgt := 155) E.1 E.2.1 d_M_takeNumber_133 (by decide) (fun h1 => ?_) (fun h1 => ?_)
        · skip
          exact t155 H locs ls v u g len (hB (Or.inr (Or.inl (fun z => h1 (by rw [z]))))) hP hS hl
        · skip
          have h1 : nb kind v = len := ((nI_eq (by omega) (by omega)).mp h1).symm
          refine lv_iload_n E.1 E.2.1 d_M_takeNumber_136 rfl (lv_at hl 3 rfl) ?_
          refine lv_iconst (v := 2) E.1 E.2.1 d_M_takeNumber_137 (by decide) ?_
          refine lv_icmp_ne (tgt := 160) E.1 E.2.1 d_M_takeNumber_138 (by decide) (fun h2 => ?_) (fun h2 => ?_)
          · skip
            exact t160 H locs ls v u g len (fun a => hA a h1 (fun z => h2 z.1)) (fun a => hB (Or.inl a)) hP hS hl
          · skip
            refine lv_lload_n E.1 E.2.1 d_M_takeNumber_141 rfl (lv_at hl 0 rfl) ?_
            refine lv_lconst (v := 0) E.1 E.2.1 d_M_takeNumber_142 (by decide) ?_
            refine xl_lc_lt (tgt := 160) E.1 E.2.1 d_M_takeNumber_143 d_M_takeNumber_144 (by decide) (fun h3 => ?_) (fun h3 => ?_)
            · skip
              refine t160 H locs ls v u g len (fun a => hA a h1 (fun z => ?_)) (fun a => hB (Or.inl a)) hP hS hl
              have z := z.2.1
              rw [Int64.lt_iff_toInt_lt] at h3
              rw [Int64.le_iff_toInt_le] at z
              omega
            · skip
              refine lv_lload_n E.1 E.2.1 d_M_takeNumber_147 rfl (lv_at hl 0 rfl) ?_
              refine lv_ldc2 (v := 64) E.1 E.2.1 E.2.2.2.1 (E.2.2.2.2 _ co_M_49) d_M_takeNumber_148 ?_
              refine xl_lc_ge (tgt := 160) E.1 E.2.1 d_M_takeNumber_151 d_M_takeNumber_152 (by decide) (fun h4 => ?_) (fun h4 => ?_)
              · skip
                refine t160 H locs ls v u g len (fun a => hA a h1 (fun z => ?_)) (fun a => hB (Or.inl a)) hP hS hl
                have z := z.2.2
                rw [Int64.le_iff_toInt_le] at h4
                rw [Int64.lt_iff_toInt_lt] at z
                omega
              · skip
                refine t155 H locs ls v u g len (hB (Or.inr (Or.inr ⟨h2, ?_⟩))) hP hS hl
                rw [Int64.le_iff_toInt_le] at h4
                rw [Int64.lt_iff_toInt_lt] at h3
                rw [Int64.le_iff_toInt_le, Int64.lt_iff_toInt_lt]
                omega
      · skip
        refine lv_iload_n E.1 E.2.1 d_M_takeNumber_114 rfl (lv_at hl 1 rfl) ?_
        refine lv_iload_n E.1 E.2.1 d_M_takeNumber_115 rfl (lv_at hl 3 rfl) ?_
        refine lv_iconst (v := 1) E.1 E.2.1 d_M_takeNumber_116 (by decide) ?_
        refine lv_icmp_ne (tgt := 128) E.1 E.2.1 d_M_takeNumber_117 (by decide) (fun h3 => ?_) (fun h3 => ?_)
        · skip
          have e : nb 0 v = nb kind v := by
            unfold nb
            rw [if_neg (by decide), if_neg h3]
          refine lv_aload_n E.1 E.2.1 d_M_takeNumber_128 rfl (lv_at hl 2 rfl) ?_
          refine lv_lload_n E.1 E.2.1 d_M_takeNumber_129 rfl (lv_at hl 0 rfl) ?_
          refine xg_looks (xc_V E xGT (m_bytesOf l D b r cJ cZ β n q 0 u g v) vw_M_bytesOf (by decide) (wM.call hP hK) (PM.recv hP hK) rfl hl.1 rfl (Nat.le_of_ble_eq_true rfl) d_M_takeNumber_130) (fun v st t h => h.2) (fun v st t h0 hal hrt => ?_) (fun x st t h0 hal hth hz => hth.elim)
          obtain ⟨rfl, -⟩ := hrt
          rw [e]
          refine W.eq (g2 := F0 m 133 ls [.int (nI (nb kind v)), .int (nI len)]) rfl ?_
          exact hj2 _ rfl
        · skip
          refine lv_aload_n E.1 E.2.1 d_M_takeNumber_120 rfl (lv_at hl 2 rfl) ?_
          refine lv_lload_n E.1 E.2.1 d_M_takeNumber_121 rfl (lv_at hl 0 rfl) ?_
          refine xg_looks (xc_V E xGT (m_complement l b v) vw_M_complement (by decide) xNo (PM.recv hP hK) rfl hl.1 rfl (Nat.le_of_ble_eq_true rfl) d_M_takeNumber_122) (fun v st t h => h.2) (fun v st t h0 hal hrt => ?_) (fun x st t h0 hal hth hz => hth.elim)
          obtain ⟨rfl, -⟩ := hrt
          rw [← h3]
          refine W.eq (g2 := F0 m 125 ls [.int (nI (nb kind v)), .int (nI len)]) rfl ?_
          refine lv_goto (tgt := 133) E.1 E.2.1 d_M_takeNumber_125 (by decide) ?_
          exact hj2 _ rfl
    · skip
      refine lv_iload_n E.1 E.2.1 d_M_takeNumber_91 rfl (lv_at hl 3 rfl) ?_
      refine lv_iconst (v := 1) E.1 E.2.1 d_M_takeNumber_92 (by decide) ?_
      refine lv_icmp_ne (tgt := 114) E.1 E.2.1 d_M_takeNumber_93 (by decide) (fun h4 => ?_) (fun h4 => ?_)
      · skip
        have hx : xsx kind Z len = Z := by
          unfold xsx
          rw [if_neg h4]
        rw [← hx] at hl
        exact hj ls hl
      · skip
        have hx : xsx kind Z len = xsr (xsl Z (nI (64 - 8 * len))) (nI (64 - 8 * len)) := by
          unfold xsx
          rw [if_pos h4]
        refine lv_lload_n E.1 E.2.1 d_M_takeNumber_96 rfl (lv_at hl 0 rfl) ?_
        refine lv_bipush (v := 64) E.1 E.2.1 d_M_takeNumber_97 (by decide) ?_
        refine lv_bipush (v := 8) E.1 E.2.1 d_M_takeNumber_99 (by decide) ?_
        refine lv_iload_n E.1 E.2.1 d_M_takeNumber_101 rfl (lv_at hl 1 rfl) ?_
        refine lv_imul E.1 E.2.1 d_M_takeNumber_102 ?_
        refine xl_ti (y := (nI (8 * len))) (pk_mul 8 len) ?_
        refine lv_isub E.1 E.2.1 d_M_takeNumber_103 ?_
        refine xl_ti (y := (nI (64 - 8 * len))) (pk_sub (a := 64) (b := 8 * len) (by omega)) ?_
        refine lv_lshl (v := xsl Z (nI (64 - 8 * len))) E.1 E.2.1 d_M_takeNumber_104 rfl ?_
        refine lv_bipush (v := 64) E.1 E.2.1 d_M_takeNumber_105 (by decide) ?_
        refine lv_bipush (v := 8) E.1 E.2.1 d_M_takeNumber_107 (by decide) ?_
        refine lv_iload_n E.1 E.2.1 d_M_takeNumber_109 rfl (lv_at hl 1 rfl) ?_
        refine lv_imul E.1 E.2.1 d_M_takeNumber_110 ?_
        refine xl_ti (y := (nI (8 * len))) (pk_mul 8 len) ?_
        refine lv_isub E.1 E.2.1 d_M_takeNumber_111 ?_
        refine xl_ti (y := (nI (64 - 8 * len))) (pk_sub (a := 64) (b := 8 * len) (by omega)) ?_
        refine lv_lshr (v := xsr (xsl Z (nI (64 - 8 * len))) (nI (64 - 8 * len))) E.1 E.2.1 d_M_takeNumber_112 rfl ?_
        refine xl_tl (y := (xsx kind Z len)) (hx.symm) ?_
        refine lv_lstore_n E.1 E.2.1 d_M_takeNumber_113 rfl hl (by decide) rfl (fun ls hl => ?_)
        have hl : lv_has ls 5 [(3, .long (xsx kind Z len)), (2, .int (nI len)), (0, .ref b), (1, .int kind)] := hl
        exact hj ls hl
  have t75 : ∀ (H : Heap) (locs : List Loc) (ls : Array Slot) (z : Int32) (u : Nat), sp = (2, 0, (β, n, q)) → PM D b r cZ β n q 0 u false H → va_S (xA2 b r) s.heap H locs → lv_has ls 5 [(2, .int z), (0, .ref b), (1, .int kind)] →
      W p l e (xrm 2) s m [Value.ref b, .int kind].toArray below meth c H locs 0 0 (xl_MQ below (xl_Q (xA2 b r) (xMl (sp_takeNumber (β, n, q) kind) D b r cZ) (fun _ _ _ => False)) [Value.ref b, .int kind].toArray s (xl_k 0 1) (xl_k 0 6) (xA2 b r)) (F0 m 68 ls []) := by
    rw [hsp0]
    intro H locs ls z u hB hP hS hl
    refine lv_aload_n E.1 E.2.1 d_M_takeNumber_68 rfl (lv_at hl 1 rfl) ?_
    refine gm_good E hK hP d_M_takeNumber_69 ?_
    refine lv_if_ne (tgt := 82) E.1 E.2.1 d_M_takeNumber_72 (by decide) (fun h1 => ?_) (fun h1 => ?_)
    · skip
      exact absurd rfl h1
    · skip
      refine lv_aload_n E.1 E.2.1 d_M_takeNumber_75 rfl (lv_at hl 1 rfl) ?_
      refine lv_iconst (v := 2) E.1 E.2.1 d_M_takeNumber_76 (by decide) ?_
      refine xg_goes (xc_V E xGT (m_fail l D b r cJ cZ β n q 0 u false hne 2) vw_M_fail (by decide) (wM.call hP hK) (PM.recv hP hK) rfl hl.1 rfl (Nat.le_of_ble_eq_true rfl) d_M_takeNumber_77) hS (fun q _ h => h) (fun q h => h) (fun v st t locs1 h0 hal hrt hS2 hz hkp => ?_) (fun x st t locs1 h0 hal hth => hth.elim)
      obtain ⟨rfl, hP2⟩ := hrt
      refine W.eq (g2 := F0 m 80 ls [.int 0]) rfl ?_
      generalize t.heap = H2 at hP2 hS2 hz hkp ⊢
      refine lv_i2l (v := (0 : Int32).toInt64) E.1 E.2.1 d_M_takeNumber_80 rfl ?_
      exact xr_lret E hr hk hS2 (fun t ht _ => xMl.mk hB (fun z => absurd z (by decide)) (by rw [ht]; exact hP2)) d_M_takeNumber_81
  have t63 : ∀ (H : Heap) (locs : List Loc) (ls : Array Slot) (z : Int32) (u : Nat) (g : Bool), sp = (2, 0, (β, n, q)) → PM D b r cZ β n q 0 u g H → va_S (xA2 b r) s.heap H locs → lv_has ls 5 [(2, .int z), (0, .ref b), (1, .int kind)] →
      W p l e (xrm 2) s m [Value.ref b, .int kind].toArray below meth c H locs 0 0 (xl_MQ below (xl_Q (xA2 b r) (xMl (sp_takeNumber (β, n, q) kind) D b r cZ) (fun _ _ _ => False)) [Value.ref b, .int kind].toArray s (xl_k 0 1) (xl_k 0 6) (xA2 b r)) (F0 m 63 ls []) := by
    intro H locs ls z u g hB hP hS hl
    refine lv_aload_n E.1 E.2.1 d_M_takeNumber_63 rfl (lv_at hl 1 rfl) ?_
    refine lv_iconst (v := 0) E.1 E.2.1 d_M_takeNumber_64 (by decide) ?_
    refine sm_good (g := false) E hK hP hne hS d_M_takeNumber_65 (fun H2 locs2 hP2 hS2 => ?_)
    exact t75 H2 locs2 ls z u hB hP2 hS2 hl
  have t47 : ∀ (H : Heap) (locs : List Loc) (ls : Array Slot) (u : Nat), u ≤ n → (xnumAt β n kind u = none → sp = (2, 0, (β, n, q))) → (∀ v wd, xnumAt β n kind u = some (v, wd) → kind = 2 ∧ (0 ≤ v ∧ v < 64) → sp = (2, 0, (β, n, q))) → (∀ v wd, xnumAt β n kind u = some (v, wd) → ¬ (kind = 2 ∧ (0 ≤ v ∧ v < 64)) → sp = (0, v, (β, n, u + wd))) → PM D b r cZ β n q 0 u true H → va_S (xA2 b r) s.heap H locs → lv_has ls 5 [(0, .ref b), (1, .int kind)] →
      W p l e (xrm 2) s m [Value.ref b, .int kind].toArray below meth c H locs 0 0 (xl_MQ below (xl_Q (xA2 b r) (xMl (sp_takeNumber (β, n, q) kind) D b r cZ) (fun _ _ _ => False)) [Value.ref b, .int kind].toArray s (xl_k 0 1) (xl_k 0 6) (xA2 b r)) (F0 m 47 ls []) := by
    intro H locs ls u hu hN hY1 hY2 hP hS hl
    refine lv_aload_n E.1 E.2.1 d_M_takeNumber_47 rfl (lv_at hl 0 rfl) ?_
    rw [hsp0]
    refine xg_goes (xc_V E xGT (m_length l D b r cJ cZ β n q 0 u hn hu hne) vw_M_length (by decide) (wM.call hP hK) (PM.recv hP hK) rfl hl.1 rfl (Nat.le_of_ble_eq_true rfl) d_M_takeNumber_48) hS (fun q _ h => h) (fun q h => h) (fun v st t locs1 h0 hal hrt hS2 hz hkp => ?_) (fun x st t locs1 h0 hal hth => hth.elim)
    rw [← hsp0]
    rcases hrt with ⟨len, wd, hX, rfl, hP2⟩ | ⟨hX, z, u2, rfl, hP2⟩
    · obtain ⟨hb, hwd, huw⟩ := xlen_ok hX
      have hof := xnumAt_of (kind := kind) hX
      refine W.eq (g2 := F0 m 51 ls [.int (nI len)]) rfl ?_
      generalize t.heap = H2 at hP2 hS2 hz hkp ⊢
      refine lv_istore_n E.1 E.2.1 d_M_takeNumber_51 rfl hl (by decide) rfl (fun ls hl => ?_)
      have hl : lv_has ls 5 [(2, .int (nI len)), (0, .ref b), (1, .int kind)] := hl
      refine lv_iload_n E.1 E.2.1 d_M_takeNumber_52 rfl (lv_at hl 0 rfl) ?_
      refine lv_iconst (v := 1) E.1 E.2.1 d_M_takeNumber_53 (by decide) ?_
      refine lv_icmp_lt (tgt := 63) E.1 E.2.1 d_M_takeNumber_54 (by decide) (fun h1 => ?_) (fun h1 => ?_)
      · skip
        have h1 : len < 1 := (nI_ltI (b := 1) (by omega) (by decide)).mp h1
        exact t63 H2 _ ls (nI len) (u + wd) true (hN (by rw [hof, if_pos (Or.inl h1)])) hP2 hS2 hl
      · skip
        have h1 : ¬ len < 1 := fun a => h1 ((nI_ltI (b := 1) (by omega) (by decide)).mpr a)
        refine lv_iload_n E.1 E.2.1 d_M_takeNumber_57 rfl (lv_at hl 0 rfl) ?_
        refine lv_bipush (v := 8) E.1 E.2.1 d_M_takeNumber_58 (by decide) ?_
        refine lv_icmp_le (tgt := 68) E.1 E.2.1 d_M_takeNumber_60 (by decide) (fun h2 => ?_) (fun h2 => ?_)
        · skip
          have h2 : len ≤ 8 := (nI_leI (b := 8) (by omega) (by decide)).mp h2
          rw [if_neg (by omega)] at hof
          clear hP
          have hP := hP2
          refine lv_aload_n E.1 E.2.1 d_M_takeNumber_68 rfl (lv_at hl 1 rfl) ?_
          refine gm_good E hK hP d_M_takeNumber_69 ?_
          refine lv_if_ne (tgt := 82) E.1 E.2.1 d_M_takeNumber_72 (by decide) (fun h3 => ?_) (fun h3 => ?_)
          · skip
            refine lv_aload_n E.1 E.2.1 d_M_takeNumber_82 rfl (lv_at hl 1 rfl) ?_
            refine lv_bipush (v := 8) E.1 E.2.1 d_M_takeNumber_83 (by decide) ?_
            refine lv_iload_n E.1 E.2.1 d_M_takeNumber_85 rfl (lv_at hl 0 rfl) ?_
            refine lv_imul E.1 E.2.1 d_M_takeNumber_86 ?_
            refine xl_ti (y := (nI (8 * len))) (pk_mul 8 len) ?_
            rw [hsp0]
            refine xg_goes (xc_V E xGT (m_get l D b r cJ cZ β n q 0 (u + wd) true (8 * len) hn (by omega) (by omega) hne) vw_M_get (by decide) (wM.call hP2 hK) (PM.recv hP2 hK) rfl hl.1 rfl (Nat.le_of_ble_eq_true rfl) d_M_takeNumber_87) hS2 (fun q _ h => h) (fun q h => h) (fun v st t locs1 h0 hal hrt hS3 hz hkp => ?_) (fun x st t locs1 h0 hal hth => hth.elim)
            rw [← hsp0]
            rcases hrt with ⟨-, g5, rfl, hP3⟩ | ⟨g5, rfl, hP3⟩
            · rw [if_neg (by omega)] at hof
              refine W.eq (g2 := F0 m 90 ls [.long (lN (xv β (u + wd) (8 * len)))]) rfl ?_
              generalize t.heap = H3 at hP3 hS3 hz hkp ⊢
              refine t90 H3 _ ls (lN (xv β (u + wd) (8 * len))) (u + wd + 8 * len) true len (by omega) h2 (fun _ a a2 => ?_) (fun a => ?_) hP3 hS3 hl
              · rw [if_neg (fun z => z a)] at hof
                rw [hY2 _ _ hof a2, Nat.add_assoc]
              · rcases a with a | a | a
                · cases a
                · rw [if_pos a] at hof
                  exact hN hof
                · by_cases a3 : nb kind (xsx kind (lN (xv β (u + wd) (8 * len))) len) ≠ len
                  · rw [if_pos a3] at hof
                    exact hN hof
                  · rw [if_neg a3] at hof
                    exact hY1 _ _ hof a
            · rw [if_pos (Nat.not_le.mp (fun z => g5 ⟨rfl, z⟩))] at hof
              refine W.eq (g2 := F0 m 90 ls [.long 0]) rfl ?_
              generalize t.heap = H3 at hP3 hS3 hz hkp ⊢
              exact t90 H3 _ ls 0 (u + wd) false len (by omega) h2 (fun a => by cases a) (fun _ => hN hof) hP3 hS3 hl
          · skip
            exact absurd h3 (by decide)
        · skip
          have h2 : ¬ len ≤ 8 := fun a => h2 ((nI_leI (b := 8) (by omega) (by decide)).mpr a)
          exact t63 H2 _ ls (nI len) (u + wd) true (hN (by rw [hof, if_pos (Or.inr (by omega))])) hP2 hS2 hl
    · have hof := hN (xnumAt_no hX)
      refine W.eq (g2 := F0 m 51 ls [.int z]) rfl ?_
      generalize t.heap = H2 at hP2 hS2 hz hkp ⊢
      refine lv_istore_n E.1 E.2.1 d_M_takeNumber_51 rfl hl (by decide) rfl (fun ls hl => ?_)
      have hl : lv_has ls 5 [(2, .int z), (0, .ref b), (1, .int kind)] := hl
      refine lv_iload_n E.1 E.2.1 d_M_takeNumber_52 rfl (lv_at hl 0 rfl) ?_
      refine lv_iconst (v := 1) E.1 E.2.1 d_M_takeNumber_53 (by decide) ?_
      refine lv_icmp_lt (tgt := 63) E.1 E.2.1 d_M_takeNumber_54 (by decide) (fun h1 => ?_) (fun h1 => ?_)
      · skip
        exact t63 H2 _ ls z u2 false hof hP2 hS2 hl
      · skip
        refine lv_iload_n E.1 E.2.1 d_M_takeNumber_57 rfl (lv_at hl 0 rfl) ?_
        refine lv_bipush (v := 8) E.1 E.2.1 d_M_takeNumber_58 (by decide) ?_
        refine lv_icmp_le (tgt := 68) E.1 E.2.1 d_M_takeNumber_60 (by decide) (fun h2 => ?_) (fun h2 => ?_)
        · skip
          exact t75 H2 _ ls z u2 hof hP2 hS2 hl
        · skip
          exact t63 H2 _ ls z u2 false hof hP2 hS2 hl
  rw [← hsp0] at t47 t75 ⊢
  refine xl_entry _ (Nat.le_of_ble_eq_true rfl) (fun ls hl => ?_)
  have hl : lv_has ls 5 [(0, .ref b), (1, .int kind)] := hl
  refine lv_aload_n E.1 E.2.1 d_M_takeNumber_0 rfl (lv_at hl 0 rfl) ?_
  refine xg_goes (xc_V E xGT (m_begin l D b r cJ cZ β n q fa rd gd hne) vw_M_begin (by decide) (wM.call hP hK) (PM.recv hP hK) rfl hl.1 rfl (Nat.le_of_ble_eq_true rfl) d_M_takeNumber_1) hS (fun q _ h => h) (fun q h => h) (fun v st t locs1 h0 hal hrt hS1 hz hkp => ?_) (fun x st t locs1 h0 hal hth => hth.elim)
  obtain ⟨rfl, hP1⟩ := hrt
  refine W.eq (g2 := F0 m 4 ls []) rfl ?_
  generalize t.heap = H1 at hP1 hS1 hz hkp ⊢
  refine xl_join (fun _ : Unit => kind < 0 ∨ 2 < kind) (fun _ => F0 m 13 ls []) (fun _ hkk => ?_) (fun hj => ?_)
  · skip
    have hsp : sp_takeNumber (β, n, q) kind = (1, 0, (β, n, q)) := by
      unfold sp_takeNumber
      rw [if_pos hkk]
    refine lv_aload_n E.1 E.2.1 d_M_takeNumber_13 rfl (lv_at hl 0 rfl) ?_
    refine lv_iconst (v := 1) E.1 E.2.1 d_M_takeNumber_14 (by decide) ?_
    refine xg_goes (xc_V E xGT (m_fail l D b r cJ cZ β n q 0 q true hne 1) vw_M_fail (by decide) (wM.call hP1 hK) (PM.recv hP1 hK) rfl hl.1 rfl (Nat.le_of_ble_eq_true rfl) d_M_takeNumber_15) hS1 (fun q _ h => h) (fun q h => h) (fun v st t locs1 h0 hal hrt hS2 hz hkp => ?_) (fun x st t locs1 h0 hal hth => hth.elim)
    obtain ⟨rfl, hP2⟩ := hrt
    refine W.eq (g2 := F0 m 18 ls [.int 0]) rfl ?_
    generalize t.heap = H2 at hP2 hS2 hz hkp ⊢
    refine lv_i2l (v := (0 : Int32).toInt64) E.1 E.2.1 d_M_takeNumber_18 rfl ?_
    exact xr_lret E hr hk hS2 (fun t ht _ => xMl.mk hsp (fun z => absurd z (by decide)) (by rw [ht]; exact hP2)) d_M_takeNumber_19
  · skip
    refine lv_iload_n E.1 E.2.1 d_M_takeNumber_4 rfl (lv_at hl 1 rfl) ?_
    refine lv_if_lt (tgt := 13) E.1 E.2.1 d_M_takeNumber_5 (by decide) (fun h1 => ?_) (fun h1 => ?_)
    · skip
      exact hj () (Or.inl h1)
    · skip
      refine lv_iload_n E.1 E.2.1 d_M_takeNumber_8 rfl (lv_at hl 1 rfl) ?_
      refine lv_iconst (v := 2) E.1 E.2.1 d_M_takeNumber_9 (by decide) ?_
      refine lv_icmp_le (tgt := 20) E.1 E.2.1 d_M_takeNumber_10 (by decide) (fun h2 => ?_) (fun h2 => ?_)
      · skip
        have hkk : ¬ (kind < 0 ∨ 2 < kind) := fun z => z.elim h1 (xi_nlt.mpr h2)
        refine lv_iload_n E.1 E.2.1 d_M_takeNumber_20 rfl (lv_at hl 1 rfl) ?_
        refine lv_iconst (v := 2) E.1 E.2.1 d_M_takeNumber_21 (by decide) ?_
        refine lv_icmp_ne (tgt := 47) E.1 E.2.1 d_M_takeNumber_22 (by decide) (fun h3 => ?_) (fun h3 => ?_)
        · skip
          have hsp : sp_takeNumber (β, n, q) kind = match xnumAt β n kind q with
              | none => (2, 0, (β, n, q))
              | some (v, w) => (0, v, (β, n, q + w)) := by
            unfold sp_takeNumber
            rw [if_neg hkk, if_neg h3]
            rfl
          exact t47 H1 _ ls q hq (fun a => by rw [hsp, a]) (fun v wd a a2 => absurd a2.1 h3) (fun v wd a _ => by rw [hsp, a]) hP1 hS1 hl
        · skip
          have hsp : sp_takeNumber (β, n, q) kind = match xsmallAt β n q with
              | none => (2, 0, (β, n, q))
              | some (v, w) => (0, v, (β, n, q + w)) := by
            unfold sp_takeNumber
            rw [if_neg hkk, if_pos h3]
            rfl
          refine lv_aload_n E.1 E.2.1 d_M_takeNumber_25 rfl (lv_at hl 0 rfl) ?_
          refine lv_iconst (v := 1) E.1 E.2.1 d_M_takeNumber_26 (by decide) ?_
          refine xg_goes (xc_V E xGT (m_get l D b r cJ cZ β n q 0 q true 1 hn (by omega) (by decide) hne) vw_M_get (by decide) (wM.call hP1 hK) (PM.recv hP1 hK) rfl hl.1 rfl (Nat.le_of_ble_eq_true rfl) d_M_takeNumber_27) hS1 (fun q _ h => h) (fun q h => h) (fun v st t locs1 h0 hal hrt hS2 hz hkp => ?_) (fun x st t locs1 h0 hal hth => hth.elim)
          rcases hrt with ⟨-, g1, rfl, hP2⟩ | ⟨g1, rfl, hP2⟩
          · skip
            refine W.eq (g2 := F0 m 30 ls [.long (lN (xv β q 1))]) rfl ?_
            generalize t.heap = H2 at hP2 hS2 hz hkp ⊢
            refine lv_lconst (v := 0) E.1 E.2.1 d_M_takeNumber_30 (by decide) ?_
            refine xl_lc_ne (tgt := 47) E.1 E.2.1 d_M_takeNumber_31 d_M_takeNumber_32 (by decide) (fun h4 => ?_) (fun h4 => ?_)
            · skip
              have h4 : ¬ β q = false := fun z => h4 (xv_10.mpr z)
              have hof : xsmallAt β n q = match xnumAt β n 0 (q + 1) with
                  | none => none
                  | some (v, w) => if 0 ≤ v ∧ v < 64 then none else some (v, w + 1) := by
                unfold xsmallAt
                rw [if_neg (by omega), if_neg h4]
                rfl
              rw [← xnumAt_20, ← h3] at hof
              refine t47 H2 _ ls (q + 1) g1 (fun a => ?_) (fun v wd a a2 => ?_) (fun v wd a a2 => ?_) hP2 hS2 hl
              · rw [a] at hof
                rw [hsp, hof]
              · rw [a] at hof
                have hof : xsmallAt β n q = none := hof.trans (if_pos a2.2)
                rw [hsp, hof]
              · rw [a] at hof
                have hof : xsmallAt β n q = some (v, wd + 1) := hof.trans (if_neg (fun z => a2 ⟨h3, z⟩))
                rw [hsp, hof]
                show (0, v, (β, n, q + (wd + 1))) = (0, v, (β, n, q + 1 + wd))
                rw [show q + (wd + 1) = q + 1 + wd by omega]
            · skip
              have h4 : β q = false := xv_10.mp h4
              have hof : xsmallAt β n q = if n < q + 7 then none else some (lN (xv β (q + 1) 6), 7) := by
                unfold xsmallAt
                rw [if_neg (by omega), if_pos h4]
              refine lv_aload_n E.1 E.2.1 d_M_takeNumber_35 rfl (lv_at hl 0 rfl) ?_
              refine lv_aload_n E.1 E.2.1 d_M_takeNumber_36 rfl (lv_at hl 0 rfl) ?_
              refine lv_bipush (v := 6) E.1 E.2.1 d_M_takeNumber_37 (by decide) ?_
              refine xg_goes (xc_V E xGT (m_get l D b r cJ cZ β n q 0 (q + 1) true 6 hn (by omega) (by decide) hne) vw_M_get (by decide) (wM.call hP2 hK) (PM.recv hP2 hK) rfl hl.1 rfl (Nat.le_of_ble_eq_true rfl) d_M_takeNumber_39) hS2 (fun q _ h => h) (fun q h => h) (fun v st t locs1 h0 hal hrt hS3 hz hkp => ?_) (fun x st t locs1 h0 hal hth => hth.elim)
              rcases hrt with ⟨-, g5, rfl, hP3⟩ | ⟨g5, rfl, hP3⟩
              · rw [if_neg (by omega)] at hof
                rw [hof] at hsp
                refine W.eq (g2 := F0 m 42 ls [.long (lN (xv β (q + 1) 6)), .ref b]) rfl ?_
                generalize t.heap = H3 at hP3 hS3 hz hkp ⊢
                refine lv_iconst (v := 2) E.1 E.2.1 d_M_takeNumber_42 (by decide) ?_
                refine xg_goes (xc_V E xGT (m_done l D b r cJ cZ β n q (q + 1 + 6) true hne (lN (xv β (q + 1) 6)) 2) vw_M_done (by decide) (wM.call hP3 hK) (PM.recv hP3 hK) rfl hl.1 rfl (Nat.le_of_ble_eq_true rfl) d_M_takeNumber_43) hS3 (fun q _ h => h) (fun q h => h) (fun v st t locs1 h0 hal hrt hS4 hz hkp => ?_) (fun x st t locs1 h0 hal hth => hth.elim)
                rcases hrt with ⟨-, rfl, hP4⟩ | ⟨g2, -⟩
                · skip
                  refine W.eq (g2 := F0 m 46 ls [.long (lN (xv β (q + 1) 6))]) rfl ?_
                  generalize t.heap = H4 at hP4 hS4 hz hkp ⊢
                  exact xr_lret E hr hk hS4 (fun t ht _ => xMl.mk hsp (fun _ => rfl) (by rw [ht]; exact hP4)) d_M_takeNumber_46
                · cases g2
              · rw [if_pos (Nat.not_le.mp (fun z => g5 ⟨rfl, by omega⟩))] at hof
                rw [hof] at hsp
                refine W.eq (g2 := F0 m 42 ls [.long 0, .ref b]) rfl ?_
                generalize t.heap = H3 at hP3 hS3 hz hkp ⊢
                refine lv_iconst (v := 2) E.1 E.2.1 d_M_takeNumber_42 (by decide) ?_
                refine xg_goes (xc_V E xGT (m_done l D b r cJ cZ β n q (q + 1) false hne 0 2) vw_M_done (by decide) (wM.call hP3 hK) (PM.recv hP3 hK) rfl hl.1 rfl (Nat.le_of_ble_eq_true rfl) d_M_takeNumber_43) hS3 (fun q _ h => h) (fun q h => h) (fun v st t locs1 h0 hal hrt hS4 hz hkp => ?_) (fun x st t locs1 h0 hal hth => hth.elim)
                rcases hrt with ⟨g2, -⟩ | ⟨-, rfl, hP4⟩
                · cases g2
                · skip
                  refine W.eq (g2 := F0 m 46 ls [.long 0]) rfl ?_
                  generalize t.heap = H4 at hP4 hS4 hz hkp ⊢
                  exact xr_lret E hr hk hS4 (fun t ht _ => xMl.mk hsp (fun z => absurd z (by decide)) (by rw [ht]; exact hP4)) d_M_takeNumber_46
          · have hof : xsmallAt β n q = none := by
              unfold xsmallAt
              rw [if_pos (Nat.not_le.mp (fun z => g1 ⟨rfl, by omega⟩))]
            rw [hof] at hsp
            refine W.eq (g2 := F0 m 30 ls [.long 0]) rfl ?_
            generalize t.heap = H2 at hP2 hS2 hz hkp ⊢
            refine lv_lconst (v := 0) E.1 E.2.1 d_M_takeNumber_30 (by decide) ?_
            refine xl_lc_ne (tgt := 47) E.1 E.2.1 d_M_takeNumber_31 d_M_takeNumber_32 (by decide) (fun h4 => ?_) (fun h4 => ?_)
            · skip
              exact absurd rfl h4
            · skip
              refine lv_aload_n E.1 E.2.1 d_M_takeNumber_35 rfl (lv_at hl 0 rfl) ?_
              refine lv_aload_n E.1 E.2.1 d_M_takeNumber_36 rfl (lv_at hl 0 rfl) ?_
              refine lv_bipush (v := 6) E.1 E.2.1 d_M_takeNumber_37 (by decide) ?_
              refine xg_goes (xc_V E xGT (m_get l D b r cJ cZ β n q 0 q false 6 hn (by omega) (by decide) hne) vw_M_get (by decide) (wM.call hP2 hK) (PM.recv hP2 hK) rfl hl.1 rfl (Nat.le_of_ble_eq_true rfl) d_M_takeNumber_39) hS2 (fun q _ h => h) (fun q h => h) (fun v st t locs1 h0 hal hrt hS3 hz hkp => ?_) (fun x st t locs1 h0 hal hth => hth.elim)
              rcases hrt with ⟨g5, -⟩ | ⟨-, rfl, hP3⟩
              · cases g5
              · skip
                refine W.eq (g2 := F0 m 42 ls [.long 0, .ref b]) rfl ?_
                generalize t.heap = H3 at hP3 hS3 hz hkp ⊢
                refine lv_iconst (v := 2) E.1 E.2.1 d_M_takeNumber_42 (by decide) ?_
                refine xg_goes (xc_V E xGT (m_done l D b r cJ cZ β n q q false hne 0 2) vw_M_done (by decide) (wM.call hP3 hK) (PM.recv hP3 hK) rfl hl.1 rfl (Nat.le_of_ble_eq_true rfl) d_M_takeNumber_43) hS3 (fun q _ h => h) (fun q h => h) (fun v st t locs1 h0 hal hrt hS4 hz hkp => ?_) (fun x st t locs1 h0 hal hth => hth.elim)
                rcases hrt with ⟨g2, -⟩ | ⟨-, rfl, hP4⟩
                · cases g2
                · skip
                  refine W.eq (g2 := F0 m 46 ls [.long 0]) rfl ?_
                  generalize t.heap = H4 at hP4 hS4 hz hkp ⊢
                  exact xr_lret E hr hk hS4 (fun t ht _ => xMl.mk hsp (fun z => absurd z (by decide)) (by rw [ht]; exact hP4)) d_M_takeNumber_46
      · skip
        exact hj () (Or.inr (xi_nle.mp h2))
end XL28
end
section
/-! A throw that is caught: the search through the handlers' rows, the step into the handler, the row over W. -/
section XLK
/-- the rows ahead let it pass, the row z takes it; each row that is asked leaves a note in the tables -/
theorem xl_search {e : Env} {s₀ : State} {f : JFrame} {a : Addr} {cell : Cell} (hobj : ∀ k, cell.vm ≠ .statics k) (hk0 : ∃ k, s₀.vm.classes[cell.cls]? = some k) (z : ExceptionTableEntry) (suf : List ExceptionTableEntry) (hz : covers z f.pc = true) (h0 : z.catchType ≠ 0) {cT : ClassId} (hl : s₀.vm.ClassLinks e.platform f.method.cls z.catchType cT) (hfit : s₀.vm.assignable cell.cls cT = true) :
    ∀ (pre : List ExceptionTableEntry) (S : State), s₀.WarmedH S.vm → S.heap[a]? = some cell → (∀ y ∈ pre, covers y f.pc = false ∨ (y.catchType ≠ 0 ∧ ∃ cN : ClassId, s₀.vm.ClassLinks e.platform f.method.cls y.catchType cN ∧ s₀.vm.assignable cell.cls cN = false)) →
      ∃ vm' : Vm, s₀.WarmedH vm' ∧ ∀ (Q : Handler → Pre) (E : CtlPost) (d : Bool) (acts : List Action), wp (findHandler.go f a (pre ++ z :: suf)) Q E e d acts S ↔ Q (.found z.handlerPc) d acts (S.setVm vm') := by
  obtain ⟨k0, hk0⟩ := hk0
  have here : ∀ (y : ExceptionTableEntry) (cN : ClassId) (S : State), s₀.WarmedH S.vm → s₀.vm.ClassLinks e.platform f.method.cls y.catchType cN → s₀.WarmedH (S.vm.noted f.method.cls y.catchType (.cls cN)) ∧ (∃ k, S.vm.classes[cell.cls]? = some k) ∧ ∃ k, S.vm.classes[cN]? = some k := by
    intro y cN S hW hy
    obtain ⟨k1, h1, -⟩ := hW.alike.2.2 _ _ hk0
    obtain ⟨dk, _, _, kt, hd, _, _, _, _, hkt, _, hopen⟩ := hy.here
    obtain ⟨k2, h2, -⟩ := hW.alike.2.2 _ _ hkt
    exact ⟨hW.noted hd hopen (State.rightAt_cls hy), ⟨k1, h1⟩, k2, h2⟩
  intro pre
  induction pre with
  | nil =>
    intro S hW hcell _
    obtain ⟨g1, g2, g3⟩ := here z cT S hW hl
    refine ⟨_, g1, fun Q E d acts => ?_⟩
    rw [List.nil_append, xl_go hz h0 (hW.classLinks hl) hcell hobj g2 g3, if_pos (by rw [hW.alike.assignable]; exact hfit)]
  | cons y ys ih =>
    intro S hW hcell hpass
    have hrest := fun q hq => hpass q (List.mem_cons_of_mem _ hq)
    rcases Bool.eq_false_or_eq_true (covers y f.pc) with hc | hc
    · rcases hpass y List.mem_cons_self with h | ⟨hy0, cN, hy, hno⟩
      · rw [h] at hc
        cases hc
      · obtain ⟨g1, g2, g3⟩ := here y cN S hW hy
        obtain ⟨vm', hW', hq⟩ := ih (S.setVm (S.vm.noted f.method.cls y.catchType (.cls cN))) g1 hcell hrest
        refine ⟨vm', hW', fun Q E d acts => ?_⟩
        rw [List.cons_append, xl_go hc hy0 (hW.classLinks hy) hcell hobj g2 g3, if_neg (by rw [hW.alike.assignable, hno]; decide)]
        exact hq Q E d acts
    · obtain ⟨vm', hW', hq⟩ := ih S hW hcell hrest
      refine ⟨vm', hW', fun Q E d acts => ?_⟩
      rw [List.cons_append, Jvm.W.findHandler_go_skip hc]
      exact hq Q E d acts
/-- the step into the handler -/
theorem xl_into {tb : Tables} {e : Env} {s target : State} {g : JFrame} {c : Code} {below : List Frame} {a : Addr} (h : At s g.method c below) {pc : Nat} {vm' : Vm} (hfind : xl_Finds e ((s.setTop g).pushFrame (.throwing a)) g a (.found pc) vm') (hrest : Steps tb e below ((s.setVm vm').setTop { g with pc := pc, stack := [.ref a] }) target) :
    Steps tb e below ((s.setTop g).pushFrame (.throwing a)) target := by
  have hstep : ∀ (S : State) (r : List Frame), xl_Finds e S g a (.found pc) vm' → (stepThrowing e S a (.java g :: r)).Is ((S.setVm vm').setFrames (.java { g with pc := pc, stack := [.ref a] } :: r)) [] := by
    intro S r hf
    simp only [stepThrowing, searchFrame, vmDo]
    generalize hr : Sem.go _ e false [] S = res
    obtain ⟨as, rfl, ha⟩ := Sem.eq_ok_of hr (a := Handler.found pc) (s' := S.setVm vm') (acts' := []) (by simp [hf _ _ _ _])
    exact ⟨rfl, ha⟩
  have hswap : ∀ (u : State) (F G : List Frame), ((u.setFrames F).setVm vm').setFrames G = (u.setVm vm').setFrames G := fun u F G => by
    rw [show (u.setFrames F).setVm vm' = (u.setVm vm').setFrames F from rfl, State.setFrames_setFrames]
  obtain ⟨hgo, hw⟩ := h.throwing a
  refine Steps.head hgo hw ?_
  rw [stepThread_throwing (frames_entered h.top _), (hstep _ _ hfind).1]
  obtain ⟨g₀, hg⟩ := Option.isSome_iff_exists.mp h.top
  obtain ⟨r, hr⟩ := State.topJava?_eq_some.mp hg
  have hr' : (s.setVm vm').frames = .java g₀ :: r := hr
  rw [State.setTop_of_frames _ hr'] at hrest
  rw [hr, List.tail_cons, State.pushFrame, hswap, State.setTop_of_frames _ hr, hswap]
  exact hrest
variable {p : Program} {l : Launch} {e : Env} {R : Room} {s : State} {m : MethodId} {args : Array Value} {below : List Frame} {meth : Method} {c : Code} {H : Heap} {locs : List Loc} {cells slots : Nat} {Q : State → Prop}
/-- how a row of the handlers' table lets an object of class E pass -/
def xl_pass (own E : String) (pc : Nat) (args : Array Value) (s : State) (z : ExceptionTableEntry) : Prop := covers z pc = false ∨ (z.catchType ≠ 0 ∧ ∃ nm : String, (Cond.classLink own z.catchType nm).before args s = true ∧ va_Nc E nm s)
theorem xl_catch {own E name : String} {x : Addr} {pc : Nat} {ls : Array Slot} {rest : List Value} (hown : s.vm.findClass own = some m.cls) (pre : List ExceptionTableEntry) (z : ExceptionTableEntry) (suf : List ExceptionTableEntry) (hsplit : c.exceptionTable.toList = pre ++ z :: suf)
    (hpass : ∀ y ∈ pre, xl_pass own E pc args s y) (hz : covers z pc = true) (h0 : z.catchType ≠ 0) (hlink : (Cond.classLink own z.catchType name).before args s = true) (hcast : (Cond.castable E name).before args s = true)
    {ce : Cell} (hcell : H[x]? = some ce) (hv : ce.vm = .none) (hcl : s.vm.findClass E = some ce.cls)
    (kk : W p l e R s m args below meth c H locs cells slots Q (F0 m z.handlerPc ls [.ref x])) : xl_W p l e R s m args below meth c H locs cells slots Q (F0 m pc ls rest) x := by
  intro T hT X
  have hpl : e.platform.magicAccessors = ({} : Platform).magicAccessors := by rw [X.admits.platform]
  obtain ⟨cE, cT, hE, hTn, hasg⟩ := Cond.castable_spec hcast
  cases hE.symm.trans hcl
  obtain ⟨cL, hL, hlinks⟩ := Cond.classLink_spec hown hlink e.platform hpl
  cases hTn.symm.trans hL
  have hk0 : ∃ k, s.vm.classes[ce.cls]? = some k := by
    obtain ⟨k, hk, -⟩ := Vm.findClass_spec hcl
    exact ⟨k, hk⟩
  have hS : ((T.setTop (F0 m pc ls rest)).pushFrame (.throwing x)).heap[x]? = some ce := by
    show T.heap[x]? = some ce
    rw [hT]
    exact hcell
  obtain ⟨vm', hW', hq⟩ := xl_search (e := e) (f := F0 m pc ls rest) (a := x) (fun k g => by rw [hv] at g; cases g) hk0 z suf hz h0 hlinks hasg pre ((T.setTop (F0 m pc ls rest)).pushFrame (.throwing x)) X.warmed hS
    (fun y hy => by
      rcases hpass y hy with g | ⟨g0, nm, g1, c1, c2, g2, g3, g4⟩
      · exact Or.inl g
      · obtain ⟨cN, hN, hlN⟩ := Cond.classLink_spec hown g1 e.platform hpl
        cases g2.symm.trans hcl
        cases g3.symm.trans hN
        exact Or.inr ⟨g0, _, hlN, g4⟩)
  have hfind : xl_Finds e ((T.setTop (F0 m pc ls rest)).pushFrame (.throwing x)) (F0 m pc ls rest) x (.found z.handlerPc) vm' := by
    intro Q E d acts
    rw [Jvm.W.findHandler_eq (meth := meth) (code := c) X.method' X.code, hsplit]
    exact hq Q E d acts
  obtain ⟨t, a1, b1⟩ := kk (T.setVm vm') hT (X.noted hW')
  exact ⟨t, xl_into (g := F0 m pc ls rest) X.here hfind a1, b1⟩
end XLK
end
section
theorem d_L_put_0 : decode b_L_put 0 = .ok (.aload 4, 2) := by decide +kernel
theorem d_L_put_2 : decode b_L_put 2 = .ok (.iconst 0, 1) := by decide +kernel
theorem d_L_put_3 : decode b_L_put 3 = .ok (.aload_n 0, 1) := by decide +kernel
theorem d_L_put_4 : decode b_L_put 4 = .ok (.lload_n 1, 1) := by decide +kernel
theorem d_L_put_5 : decode b_L_put 5 = .ok (.iload_n 3, 1) := by decide +kernel
theorem d_L_put_6 : decode b_L_put 6 = .ok (.invokevirtual 7, 3) := by decide +kernel
theorem d_L_put_9 : decode b_L_put 9 = .ok (.i2l, 1) := by decide +kernel
theorem d_L_put_10 : decode b_L_put 10 = .ok (.lastore, 1) := by decide +kernel
theorem d_L_put_11 : decode b_L_put 11 = .ok (.goto 11, 3) := by decide +kernel
theorem d_L_put_14 : decode b_L_put 14 = .ok (.astore 5, 2) := by decide +kernel
theorem d_L_put_16 : decode b_L_put 16 = .ok (.iconst 1, 1) := by decide +kernel
theorem d_L_put_17 : decode b_L_put 17 = .ok (.ireturn, 1) := by decide +kernel
theorem d_L_put_18 : decode b_L_put 18 = .ok (.astore 5, 2) := by decide +kernel
theorem d_L_put_20 : decode b_L_put 20 = .ok (.iconst 2, 1) := by decide +kernel
theorem d_L_put_21 : decode b_L_put 21 = .ok (.ireturn, 1) := by decide +kernel
theorem d_L_put_22 : decode b_L_put 22 = .ok (.iconst 0, 1) := by decide +kernel
theorem d_L_put_23 : decode b_L_put 23 = .ok (.ireturn, 1) := by decide +kernel
theorem d_L_putRange_0 : decode b_L_putRange 0 = .ok (.aload 7, 2) := by decide +kernel
theorem d_L_putRange_2 : decode b_L_putRange 2 = .ok (.iconst 0, 1) := by decide +kernel
theorem d_L_putRange_3 : decode b_L_putRange 3 = .ok (.aload_n 0, 1) := by decide +kernel
theorem d_L_putRange_4 : decode b_L_putRange 4 = .ok (.lload_n 1, 1) := by decide +kernel
theorem d_L_putRange_5 : decode b_L_putRange 5 = .ok (.lload_n 3, 1) := by decide +kernel
theorem d_L_putRange_6 : decode b_L_putRange 6 = .ok (.lload 5, 2) := by decide +kernel
theorem d_L_putRange_8 : decode b_L_putRange 8 = .ok (.invokevirtual 17, 3) := by decide +kernel
theorem d_L_putRange_11 : decode b_L_putRange 11 = .ok (.i2l, 1) := by decide +kernel
theorem d_L_putRange_12 : decode b_L_putRange 12 = .ok (.lastore, 1) := by decide +kernel
theorem d_L_putRange_13 : decode b_L_putRange 13 = .ok (.goto 11, 3) := by decide +kernel
theorem d_L_putRange_16 : decode b_L_putRange 16 = .ok (.astore 8, 2) := by decide +kernel
theorem d_L_putRange_18 : decode b_L_putRange 18 = .ok (.iconst 1, 1) := by decide +kernel
theorem d_L_putRange_19 : decode b_L_putRange 19 = .ok (.ireturn, 1) := by decide +kernel
theorem d_L_putRange_20 : decode b_L_putRange 20 = .ok (.astore 8, 2) := by decide +kernel
theorem d_L_putRange_22 : decode b_L_putRange 22 = .ok (.iconst 2, 1) := by decide +kernel
theorem d_L_putRange_23 : decode b_L_putRange 23 = .ok (.ireturn, 1) := by decide +kernel
theorem d_L_putRange_24 : decode b_L_putRange 24 = .ok (.iconst 0, 1) := by decide +kernel
theorem d_L_putRange_25 : decode b_L_putRange 25 = .ok (.ireturn, 1) := by decide +kernel
theorem d_L_putLength_0 : decode b_L_putLength 0 = .ok (.aload_n 2, 1) := by decide +kernel
theorem d_L_putLength_1 : decode b_L_putLength 1 = .ok (.iconst 0, 1) := by decide +kernel
theorem d_L_putLength_2 : decode b_L_putLength 2 = .ok (.aload_n 0, 1) := by decide +kernel
theorem d_L_putLength_3 : decode b_L_putLength 3 = .ok (.iload_n 1, 1) := by decide +kernel
theorem d_L_putLength_4 : decode b_L_putLength 4 = .ok (.invokevirtual 21, 3) := by decide +kernel
theorem d_L_putLength_7 : decode b_L_putLength 7 = .ok (.i2l, 1) := by decide +kernel
theorem d_L_putLength_8 : decode b_L_putLength 8 = .ok (.lastore, 1) := by decide +kernel
theorem d_L_putLength_9 : decode b_L_putLength 9 = .ok (.goto 9, 3) := by decide +kernel
theorem d_L_putLength_12 : decode b_L_putLength 12 = .ok (.astore_n 3, 1) := by decide +kernel
theorem d_L_putLength_13 : decode b_L_putLength 13 = .ok (.iconst 1, 1) := by decide +kernel
theorem d_L_putLength_14 : decode b_L_putLength 14 = .ok (.ireturn, 1) := by decide +kernel
theorem d_L_putLength_15 : decode b_L_putLength 15 = .ok (.astore_n 3, 1) := by decide +kernel
theorem d_L_putLength_16 : decode b_L_putLength 16 = .ok (.iconst 2, 1) := by decide +kernel
theorem d_L_putLength_17 : decode b_L_putLength 17 = .ok (.ireturn, 1) := by decide +kernel
theorem d_L_putLength_18 : decode b_L_putLength 18 = .ok (.iconst 0, 1) := by decide +kernel
theorem d_L_putLength_19 : decode b_L_putLength 19 = .ok (.ireturn, 1) := by decide +kernel
theorem d_L_putNumber_0 : decode b_L_putNumber 0 = .ok (.aload 4, 2) := by decide +kernel
theorem d_L_putNumber_2 : decode b_L_putNumber 2 = .ok (.iconst 0, 1) := by decide +kernel
theorem d_L_putNumber_3 : decode b_L_putNumber 3 = .ok (.aload_n 0, 1) := by decide +kernel
theorem d_L_putNumber_4 : decode b_L_putNumber 4 = .ok (.iload_n 1, 1) := by decide +kernel
theorem d_L_putNumber_5 : decode b_L_putNumber 5 = .ok (.lload_n 2, 1) := by decide +kernel
theorem d_L_putNumber_6 : decode b_L_putNumber 6 = .ok (.invokevirtual 25, 3) := by decide +kernel
theorem d_L_putNumber_9 : decode b_L_putNumber 9 = .ok (.i2l, 1) := by decide +kernel
theorem d_L_putNumber_10 : decode b_L_putNumber 10 = .ok (.lastore, 1) := by decide +kernel
theorem d_L_putNumber_11 : decode b_L_putNumber 11 = .ok (.goto 11, 3) := by decide +kernel
theorem d_L_putNumber_14 : decode b_L_putNumber 14 = .ok (.astore 5, 2) := by decide +kernel
theorem d_L_putNumber_16 : decode b_L_putNumber 16 = .ok (.iconst 1, 1) := by decide +kernel
theorem d_L_putNumber_17 : decode b_L_putNumber 17 = .ok (.ireturn, 1) := by decide +kernel
theorem d_L_putNumber_18 : decode b_L_putNumber 18 = .ok (.astore 5, 2) := by decide +kernel
theorem d_L_putNumber_20 : decode b_L_putNumber 20 = .ok (.iconst 2, 1) := by decide +kernel
theorem d_L_putNumber_21 : decode b_L_putNumber 21 = .ok (.ireturn, 1) := by decide +kernel
theorem d_L_putNumber_22 : decode b_L_putNumber 22 = .ok (.iconst 0, 1) := by decide +kernel
theorem d_L_putNumber_23 : decode b_L_putNumber 23 = .ok (.ireturn, 1) := by decide +kernel
theorem d_L_fill_0 : decode b_L_fill 0 = .ok (.aload_n 1, 1) := by decide +kernel
theorem d_L_fill_1 : decode b_L_fill 1 = .ok (.iconst 0, 1) := by decide +kernel
theorem d_L_fill_2 : decode b_L_fill 2 = .ok (.aload_n 0, 1) := by decide +kernel
theorem d_L_fill_3 : decode b_L_fill 3 = .ok (.invokevirtual 29, 3) := by decide +kernel
theorem d_L_fill_6 : decode b_L_fill 6 = .ok (.i2l, 1) := by decide +kernel
theorem d_L_fill_7 : decode b_L_fill 7 = .ok (.lastore, 1) := by decide +kernel
theorem d_L_fill_8 : decode b_L_fill 8 = .ok (.goto 6, 3) := by decide +kernel
theorem d_L_fill_11 : decode b_L_fill 11 = .ok (.astore_n 2, 1) := by decide +kernel
theorem d_L_fill_12 : decode b_L_fill 12 = .ok (.iconst 1, 1) := by decide +kernel
theorem d_L_fill_13 : decode b_L_fill 13 = .ok (.ireturn, 1) := by decide +kernel
theorem d_L_fill_14 : decode b_L_fill 14 = .ok (.iconst 0, 1) := by decide +kernel
theorem d_L_fill_15 : decode b_L_fill 15 = .ok (.ireturn, 1) := by decide +kernel
theorem d_L_take_0 : decode b_L_take 0 = .ok (.aload_n 2, 1) := by decide +kernel
theorem d_L_take_1 : decode b_L_take 1 = .ok (.iconst 0, 1) := by decide +kernel
theorem d_L_take_2 : decode b_L_take 2 = .ok (.aload_n 0, 1) := by decide +kernel
theorem d_L_take_3 : decode b_L_take 3 = .ok (.iload_n 1, 1) := by decide +kernel
theorem d_L_take_4 : decode b_L_take 4 = .ok (.invokevirtual 33, 3) := by decide +kernel
theorem d_L_take_7 : decode b_L_take 7 = .ok (.lastore, 1) := by decide +kernel
theorem d_L_take_8 : decode b_L_take 8 = .ok (.goto 9, 3) := by decide +kernel
theorem d_L_take_11 : decode b_L_take 11 = .ok (.astore_n 3, 1) := by decide +kernel
theorem d_L_take_12 : decode b_L_take 12 = .ok (.iconst 1, 1) := by decide +kernel
theorem d_L_take_13 : decode b_L_take 13 = .ok (.ireturn, 1) := by decide +kernel
theorem d_L_take_14 : decode b_L_take 14 = .ok (.astore_n 3, 1) := by decide +kernel
theorem d_L_take_15 : decode b_L_take 15 = .ok (.iconst 2, 1) := by decide +kernel
theorem d_L_take_16 : decode b_L_take 16 = .ok (.ireturn, 1) := by decide +kernel
theorem d_L_take_17 : decode b_L_take 17 = .ok (.iconst 0, 1) := by decide +kernel
theorem d_L_take_18 : decode b_L_take 18 = .ok (.ireturn, 1) := by decide +kernel
theorem d_L_takeRange_0 : decode b_L_takeRange 0 = .ok (.aload 5, 2) := by decide +kernel
theorem d_L_takeRange_2 : decode b_L_takeRange 2 = .ok (.iconst 0, 1) := by decide +kernel
theorem d_L_takeRange_3 : decode b_L_takeRange 3 = .ok (.aload_n 0, 1) := by decide +kernel
theorem d_L_takeRange_4 : decode b_L_takeRange 4 = .ok (.lload_n 1, 1) := by decide +kernel
theorem d_L_takeRange_5 : decode b_L_takeRange 5 = .ok (.lload_n 3, 1) := by decide +kernel
theorem d_L_takeRange_6 : decode b_L_takeRange 6 = .ok (.invokevirtual 39, 3) := by decide +kernel
theorem d_L_takeRange_9 : decode b_L_takeRange 9 = .ok (.lastore, 1) := by decide +kernel
theorem d_L_takeRange_10 : decode b_L_takeRange 10 = .ok (.goto 11, 3) := by decide +kernel
theorem d_L_takeRange_13 : decode b_L_takeRange 13 = .ok (.astore 6, 2) := by decide +kernel
theorem d_L_takeRange_15 : decode b_L_takeRange 15 = .ok (.iconst 1, 1) := by decide +kernel
theorem d_L_takeRange_16 : decode b_L_takeRange 16 = .ok (.ireturn, 1) := by decide +kernel
theorem d_L_takeRange_17 : decode b_L_takeRange 17 = .ok (.astore 6, 2) := by decide +kernel
theorem d_L_takeRange_19 : decode b_L_takeRange 19 = .ok (.iconst 2, 1) := by decide +kernel
theorem d_L_takeRange_20 : decode b_L_takeRange 20 = .ok (.ireturn, 1) := by decide +kernel
theorem d_L_takeRange_21 : decode b_L_takeRange 21 = .ok (.iconst 0, 1) := by decide +kernel
theorem d_L_takeRange_22 : decode b_L_takeRange 22 = .ok (.ireturn, 1) := by decide +kernel
theorem d_L_takeLength_0 : decode b_L_takeLength 0 = .ok (.aload_n 1, 1) := by decide +kernel
theorem d_L_takeLength_1 : decode b_L_takeLength 1 = .ok (.iconst 0, 1) := by decide +kernel
theorem d_L_takeLength_2 : decode b_L_takeLength 2 = .ok (.aload_n 0, 1) := by decide +kernel
theorem d_L_takeLength_3 : decode b_L_takeLength 3 = .ok (.invokevirtual 43, 3) := by decide +kernel
theorem d_L_takeLength_6 : decode b_L_takeLength 6 = .ok (.i2l, 1) := by decide +kernel
theorem d_L_takeLength_7 : decode b_L_takeLength 7 = .ok (.lastore, 1) := by decide +kernel
theorem d_L_takeLength_8 : decode b_L_takeLength 8 = .ok (.goto 6, 3) := by decide +kernel
theorem d_L_takeLength_11 : decode b_L_takeLength 11 = .ok (.astore_n 2, 1) := by decide +kernel
theorem d_L_takeLength_12 : decode b_L_takeLength 12 = .ok (.iconst 1, 1) := by decide +kernel
theorem d_L_takeLength_13 : decode b_L_takeLength 13 = .ok (.ireturn, 1) := by decide +kernel
theorem d_L_takeLength_14 : decode b_L_takeLength 14 = .ok (.iconst 0, 1) := by decide +kernel
theorem d_L_takeLength_15 : decode b_L_takeLength 15 = .ok (.ireturn, 1) := by decide +kernel
theorem d_L_takeNumber_0 : decode b_L_takeNumber 0 = .ok (.aload_n 2, 1) := by decide +kernel
theorem d_L_takeNumber_1 : decode b_L_takeNumber 1 = .ok (.iconst 0, 1) := by decide +kernel
theorem d_L_takeNumber_2 : decode b_L_takeNumber 2 = .ok (.aload_n 0, 1) := by decide +kernel
theorem d_L_takeNumber_3 : decode b_L_takeNumber 3 = .ok (.iload_n 1, 1) := by decide +kernel
theorem d_L_takeNumber_4 : decode b_L_takeNumber 4 = .ok (.invokevirtual 46, 3) := by decide +kernel
theorem d_L_takeNumber_7 : decode b_L_takeNumber 7 = .ok (.lastore, 1) := by decide +kernel
theorem d_L_takeNumber_8 : decode b_L_takeNumber 8 = .ok (.goto 9, 3) := by decide +kernel
theorem d_L_takeNumber_11 : decode b_L_takeNumber 11 = .ok (.astore_n 3, 1) := by decide +kernel
theorem d_L_takeNumber_12 : decode b_L_takeNumber 12 = .ok (.iconst 1, 1) := by decide +kernel
theorem d_L_takeNumber_13 : decode b_L_takeNumber 13 = .ok (.ireturn, 1) := by decide +kernel
theorem d_L_takeNumber_14 : decode b_L_takeNumber 14 = .ok (.astore_n 3, 1) := by decide +kernel
theorem d_L_takeNumber_15 : decode b_L_takeNumber 15 = .ok (.iconst 2, 1) := by decide +kernel
theorem d_L_takeNumber_16 : decode b_L_takeNumber 16 = .ok (.ireturn, 1) := by decide +kernel
theorem d_L_takeNumber_17 : decode b_L_takeNumber 17 = .ok (.iconst 0, 1) := by decide +kernel
theorem d_L_takeNumber_18 : decode b_L_takeNumber 18 = .ok (.ireturn, 1) := by decide +kernel
theorem d_L_go_0 : decode b_L_go 0 = .ok (.aload_n 2, 1) := by decide +kernel
theorem d_L_go_1 : decode b_L_go 1 = .ok (.iconst 0, 1) := by decide +kernel
theorem d_L_go_2 : decode b_L_go 2 = .ok (.aload_n 0, 1) := by decide +kernel
theorem d_L_go_3 : decode b_L_go 3 = .ok (.iload_n 1, 1) := by decide +kernel
theorem d_L_go_4 : decode b_L_go 4 = .ok (.invokevirtual 49, 3) := by decide +kernel
theorem d_L_go_7 : decode b_L_go 7 = .ok (.i2l, 1) := by decide +kernel
theorem d_L_go_8 : decode b_L_go 8 = .ok (.lastore, 1) := by decide +kernel
theorem d_L_go_9 : decode b_L_go 9 = .ok (.goto 6, 3) := by decide +kernel
theorem d_L_go_12 : decode b_L_go 12 = .ok (.astore_n 3, 1) := by decide +kernel
theorem d_L_go_13 : decode b_L_go 13 = .ok (.iconst 1, 1) := by decide +kernel
theorem d_L_go_14 : decode b_L_go 14 = .ok (.ireturn, 1) := by decide +kernel
theorem d_L_go_15 : decode b_L_go 15 = .ok (.iconst 0, 1) := by decide +kernel
theorem d_L_go_16 : decode b_L_go 16 = .ok (.ireturn, 1) := by decide +kernel
theorem d_L_turn_0 : decode b_L_turn 0 = .ok (.aload_n 2, 1) := by decide +kernel
theorem d_L_turn_1 : decode b_L_turn 1 = .ok (.iconst 0, 1) := by decide +kernel
theorem d_L_turn_2 : decode b_L_turn 2 = .ok (.aload_n 0, 1) := by decide +kernel
theorem d_L_turn_3 : decode b_L_turn 3 = .ok (.iload_n 1, 1) := by decide +kernel
theorem d_L_turn_4 : decode b_L_turn 4 = .ok (.invokevirtual 52, 3) := by decide +kernel
theorem d_L_turn_7 : decode b_L_turn 7 = .ok (.ifCond .eq 7, 3) := by decide +kernel
theorem d_L_turn_10 : decode b_L_turn 10 = .ok (.lconst 1, 1) := by decide +kernel
theorem d_L_turn_11 : decode b_L_turn 11 = .ok (.goto 4, 3) := by decide +kernel
theorem d_L_turn_14 : decode b_L_turn 14 = .ok (.lconst 0, 1) := by decide +kernel
theorem d_L_turn_15 : decode b_L_turn 15 = .ok (.lastore, 1) := by decide +kernel
theorem d_L_turn_16 : decode b_L_turn 16 = .ok (.goto 6, 3) := by decide +kernel
theorem d_L_turn_19 : decode b_L_turn 19 = .ok (.astore_n 3, 1) := by decide +kernel
theorem d_L_turn_20 : decode b_L_turn 20 = .ok (.iconst 1, 1) := by decide +kernel
theorem d_L_turn_21 : decode b_L_turn 21 = .ok (.ireturn, 1) := by decide +kernel
theorem d_L_turn_22 : decode b_L_turn 22 = .ok (.iconst 0, 1) := by decide +kernel
theorem d_L_turn_23 : decode b_L_turn 23 = .ok (.ireturn, 1) := by decide +kernel
theorem d_L_cut_0 : decode b_L_cut 0 = .ok (.aload_n 2, 1) := by decide +kernel
theorem d_L_cut_1 : decode b_L_cut 1 = .ok (.iconst 0, 1) := by decide +kernel
theorem d_L_cut_2 : decode b_L_cut 2 = .ok (.aload_n 0, 1) := by decide +kernel
theorem d_L_cut_3 : decode b_L_cut 3 = .ok (.iload_n 1, 1) := by decide +kernel
theorem d_L_cut_4 : decode b_L_cut 4 = .ok (.invokevirtual 56, 3) := by decide +kernel
theorem d_L_cut_7 : decode b_L_cut 7 = .ok (.i2l, 1) := by decide +kernel
theorem d_L_cut_8 : decode b_L_cut 8 = .ok (.lastore, 1) := by decide +kernel
theorem d_L_cut_9 : decode b_L_cut 9 = .ok (.goto 6, 3) := by decide +kernel
theorem d_L_cut_12 : decode b_L_cut 12 = .ok (.astore_n 3, 1) := by decide +kernel
theorem d_L_cut_13 : decode b_L_cut 13 = .ok (.iconst 1, 1) := by decide +kernel
theorem d_L_cut_14 : decode b_L_cut 14 = .ok (.ireturn, 1) := by decide +kernel
theorem d_L_cut_15 : decode b_L_cut 15 = .ok (.iconst 0, 1) := by decide +kernel
theorem d_L_cut_16 : decode b_L_cut 16 = .ok (.ireturn, 1) := by decide +kernel
theorem d_L_count_0 : decode b_L_count 0 = .ok (.aload_n 2, 1) := by decide +kernel
theorem d_L_count_1 : decode b_L_count 1 = .ok (.iconst 0, 1) := by decide +kernel
theorem d_L_count_2 : decode b_L_count 2 = .ok (.aload_n 0, 1) := by decide +kernel
theorem d_L_count_3 : decode b_L_count 3 = .ok (.iload_n 1, 1) := by decide +kernel
theorem d_L_count_4 : decode b_L_count 4 = .ok (.invokevirtual 59, 3) := by decide +kernel
theorem d_L_count_7 : decode b_L_count 7 = .ok (.i2l, 1) := by decide +kernel
theorem d_L_count_8 : decode b_L_count 8 = .ok (.lastore, 1) := by decide +kernel
theorem d_L_count_9 : decode b_L_count 9 = .ok (.goto 6, 3) := by decide +kernel
theorem d_L_count_12 : decode b_L_count 12 = .ok (.astore_n 3, 1) := by decide +kernel
theorem d_L_count_13 : decode b_L_count 13 = .ok (.iconst 1, 1) := by decide +kernel
theorem d_L_count_14 : decode b_L_count 14 = .ok (.ireturn, 1) := by decide +kernel
theorem d_L_count_15 : decode b_L_count 15 = .ok (.iconst 0, 1) := by decide +kernel
theorem d_L_count_16 : decode b_L_count 16 = .ok (.ireturn, 1) := by decide +kernel
end
section
theorem d_L_law_0 : decode code 0 = .ok (.new 8, 3) := by decide +kernel
theorem d_L_law_3 : decode code 3 = .ok (.dup, 1) := by decide +kernel
theorem d_L_law_4 : decode code 4 = .ok (.invokespecial 62, 3) := by decide +kernel
theorem d_L_law_7 : decode code 7 = .ok (.astore_n 1, 1) := by decide +kernel
theorem d_L_law_8 : decode code 8 = .ok (.new 63, 3) := by decide +kernel
theorem d_L_law_11 : decode code 11 = .ok (.dup, 1) := by decide +kernel
theorem d_L_law_12 : decode code 12 = .ok (.invokespecial 65, 3) := by decide +kernel
theorem d_L_law_15 : decode code 15 = .ok (.astore_n 2, 1) := by decide +kernel
theorem d_L_law_16 : decode code 16 = .ok (.iconst 1, 1) := by decide +kernel
theorem d_L_law_17 : decode code 17 = .ok (.newarray .long, 2) := by decide +kernel
theorem d_L_law_19 : decode code 19 = .ok (.astore_n 3, 1) := by decide +kernel
theorem d_L_law_20 : decode code 20 = .ok (.iconst 0, 1) := by decide +kernel
theorem d_L_law_21 : decode code 21 = .ok (.istore 4, 2) := by decide +kernel
theorem d_L_law_23 : decode code 23 = .ok (.iload 4, 2) := by decide +kernel
theorem d_L_law_25 : decode code 25 = .ok (.aload_n 0, 1) := by decide +kernel
theorem d_L_law_26 : decode code 26 = .ok (.arraylength, 1) := by decide +kernel
theorem d_L_law_27 : decode code 27 = .ok (.bipush 7, 2) := by decide +kernel
theorem d_L_law_29 : decode code 29 = .ok (.isub, 1) := by decide +kernel
theorem d_L_law_30 : decode code 30 = .ok (.if_icmp .gt 1078, 3) := by decide +kernel
theorem d_L_law_33 : decode code 33 = .ok (.aload_n 0, 1) := by decide +kernel
theorem d_L_law_34 : decode code 34 = .ok (.iload 4, 2) := by decide +kernel
theorem d_L_law_36 : decode code 36 = .ok (.iaload, 1) := by decide +kernel
theorem d_L_law_37 : decode code 37 = .ok (.bipush 15, 2) := by decide +kernel
theorem d_L_law_39 : decode code 39 = .ok (.iand, 1) := by decide +kernel
theorem d_L_law_40 : decode code 40 = .ok (.tableswitch 1062 0 12 #[68, 168, 346, 402, 502, 546, 601, 732, 776, 831, 887, 950, 1006], 68) := by decide +kernel
theorem d_L_law_108 : decode code 108 = .ok (.aload_n 1, 1) := by decide +kernel
theorem d_L_law_109 : decode code 109 = .ok (.aload_n 0, 1) := by decide +kernel
theorem d_L_law_110 : decode code 110 = .ok (.iload 4, 2) := by decide +kernel
theorem d_L_law_112 : decode code 112 = .ok (.iconst 1, 1) := by decide +kernel
theorem d_L_law_113 : decode code 113 = .ok (.iadd, 1) := by decide +kernel
theorem d_L_law_114 : decode code 114 = .ok (.iaload, 1) := by decide +kernel
theorem d_L_law_115 : decode code 115 = .ok (.i2l, 1) := by decide +kernel
theorem d_L_law_116 : decode code 116 = .ok (.bipush 32, 2) := by decide +kernel
theorem d_L_law_118 : decode code 118 = .ok (.lshl, 1) := by decide +kernel
theorem d_L_law_119 : decode code 119 = .ok (.aload_n 0, 1) := by decide +kernel
theorem d_L_law_120 : decode code 120 = .ok (.iload 4, 2) := by decide +kernel
theorem d_L_law_122 : decode code 122 = .ok (.iconst 2, 1) := by decide +kernel
theorem d_L_law_123 : decode code 123 = .ok (.iadd, 1) := by decide +kernel
theorem d_L_law_124 : decode code 124 = .ok (.iaload, 1) := by decide +kernel
theorem d_L_law_125 : decode code 125 = .ok (.i2l, 1) := by decide +kernel
theorem d_L_law_126 : decode code 126 = .ok (.ldc2_w 66, 3) := by decide +kernel
theorem d_L_law_129 : decode code 129 = .ok (.land, 1) := by decide +kernel
theorem d_L_law_130 : decode code 130 = .ok (.lor, 1) := by decide +kernel
theorem d_L_law_131 : decode code 131 = .ok (.aload_n 0, 1) := by decide +kernel
theorem d_L_law_132 : decode code 132 = .ok (.iload 4, 2) := by decide +kernel
theorem d_L_law_134 : decode code 134 = .ok (.iconst 3, 1) := by decide +kernel
theorem d_L_law_135 : decode code 135 = .ok (.iadd, 1) := by decide +kernel
theorem d_L_law_136 : decode code 136 = .ok (.iaload, 1) := by decide +kernel
theorem d_L_law_137 : decode code 137 = .ok (.aload_n 3, 1) := by decide +kernel
theorem d_L_law_138 : decode code 138 = .ok (.invokestatic 68, 3) := by decide +kernel
theorem d_L_law_141 : decode code 141 = .ok (.istore 5, 2) := by decide +kernel
theorem d_L_law_143 : decode code 143 = .ok (.aload_n 2, 1) := by decide +kernel
theorem d_L_law_144 : decode code 144 = .ok (.aload_n 0, 1) := by decide +kernel
theorem d_L_law_145 : decode code 145 = .ok (.iload 4, 2) := by decide +kernel
theorem d_L_law_147 : decode code 147 = .ok (.iconst 1, 1) := by decide +kernel
theorem d_L_law_148 : decode code 148 = .ok (.iadd, 1) := by decide +kernel
theorem d_L_law_149 : decode code 149 = .ok (.iaload, 1) := by decide +kernel
theorem d_L_law_150 : decode code 150 = .ok (.i2l, 1) := by decide +kernel
theorem d_L_law_151 : decode code 151 = .ok (.bipush 32, 2) := by decide +kernel
theorem d_L_law_153 : decode code 153 = .ok (.lshl, 1) := by decide +kernel
end
section
theorem d_L_law_154 : decode code 154 = .ok (.aload_n 0, 1) := by decide +kernel
theorem d_L_law_155 : decode code 155 = .ok (.iload 4, 2) := by decide +kernel
theorem d_L_law_157 : decode code 157 = .ok (.iconst 2, 1) := by decide +kernel
theorem d_L_law_158 : decode code 158 = .ok (.iadd, 1) := by decide +kernel
theorem d_L_law_159 : decode code 159 = .ok (.iaload, 1) := by decide +kernel
theorem d_L_law_160 : decode code 160 = .ok (.i2l, 1) := by decide +kernel
theorem d_L_law_161 : decode code 161 = .ok (.ldc2_w 66, 3) := by decide +kernel
theorem d_L_law_164 : decode code 164 = .ok (.land, 1) := by decide +kernel
theorem d_L_law_165 : decode code 165 = .ok (.lor, 1) := by decide +kernel
theorem d_L_law_166 : decode code 166 = .ok (.aload_n 0, 1) := by decide +kernel
theorem d_L_law_167 : decode code 167 = .ok (.iload 4, 2) := by decide +kernel
theorem d_L_law_169 : decode code 169 = .ok (.iconst 3, 1) := by decide +kernel
theorem d_L_law_170 : decode code 170 = .ok (.iadd, 1) := by decide +kernel
theorem d_L_law_171 : decode code 171 = .ok (.iaload, 1) := by decide +kernel
theorem d_L_law_172 : decode code 172 = .ok (.invokevirtual 73, 3) := by decide +kernel
theorem d_L_law_175 : decode code 175 = .ok (.istore 6, 2) := by decide +kernel
theorem d_L_law_177 : decode code 177 = .ok (.aload_n 2, 1) := by decide +kernel
theorem d_L_law_178 : decode code 178 = .ok (.invokevirtual 74, 3) := by decide +kernel
theorem d_L_law_181 : decode code 181 = .ok (.iload 5, 2) := by decide +kernel
theorem d_L_law_183 : decode code 183 = .ok (.if_icmp .eq 5, 3) := by decide +kernel
theorem d_L_law_186 : decode code 186 = .ok (.iconst 0, 1) := by decide +kernel
theorem d_L_law_187 : decode code 187 = .ok (.ireturn, 1) := by decide +kernel
theorem d_L_law_188 : decode code 188 = .ok (.iload 5, 2) := by decide +kernel
theorem d_L_law_190 : decode code 190 = .ok (.ifCond .ne 15, 3) := by decide +kernel
theorem d_L_law_193 : decode code 193 = .ok (.aload_n 3, 1) := by decide +kernel
theorem d_L_law_194 : decode code 194 = .ok (.iconst 0, 1) := by decide +kernel
theorem d_L_law_195 : decode code 195 = .ok (.laload, 1) := by decide +kernel
theorem d_L_law_196 : decode code 196 = .ok (.iload 6, 2) := by decide +kernel
theorem d_L_law_198 : decode code 198 = .ok (.i2l, 1) := by decide +kernel
theorem d_L_law_199 : decode code 199 = .ok (.lcmp, 1) := by decide +kernel
theorem d_L_law_200 : decode code 200 = .ok (.ifCond .eq 5, 3) := by decide +kernel
theorem d_L_law_203 : decode code 203 = .ok (.iconst 0, 1) := by decide +kernel
theorem d_L_law_204 : decode code 204 = .ok (.ireturn, 1) := by decide +kernel
theorem d_L_law_205 : decode code 205 = .ok (.goto 897, 3) := by decide +kernel
theorem d_L_law_208 : decode code 208 = .ok (.aload_n 1, 1) := by decide +kernel
theorem d_L_law_209 : decode code 209 = .ok (.aload_n 0, 1) := by decide +kernel
theorem d_L_law_210 : decode code 210 = .ok (.iload 4, 2) := by decide +kernel
theorem d_L_law_212 : decode code 212 = .ok (.iconst 1, 1) := by decide +kernel
theorem d_L_law_213 : decode code 213 = .ok (.iadd, 1) := by decide +kernel
theorem d_L_law_214 : decode code 214 = .ok (.iaload, 1) := by decide +kernel
theorem d_L_law_215 : decode code 215 = .ok (.i2l, 1) := by decide +kernel
theorem d_L_law_216 : decode code 216 = .ok (.bipush 32, 2) := by decide +kernel
theorem d_L_law_218 : decode code 218 = .ok (.lshl, 1) := by decide +kernel
theorem d_L_law_219 : decode code 219 = .ok (.aload_n 0, 1) := by decide +kernel
theorem d_L_law_220 : decode code 220 = .ok (.iload 4, 2) := by decide +kernel
theorem d_L_law_222 : decode code 222 = .ok (.iconst 2, 1) := by decide +kernel
theorem d_L_law_223 : decode code 223 = .ok (.iadd, 1) := by decide +kernel
theorem d_L_law_224 : decode code 224 = .ok (.iaload, 1) := by decide +kernel
theorem d_L_law_225 : decode code 225 = .ok (.i2l, 1) := by decide +kernel
theorem d_L_law_226 : decode code 226 = .ok (.ldc2_w 66, 3) := by decide +kernel
theorem d_L_law_229 : decode code 229 = .ok (.land, 1) := by decide +kernel
theorem d_L_law_230 : decode code 230 = .ok (.lor, 1) := by decide +kernel
theorem d_L_law_231 : decode code 231 = .ok (.aload_n 0, 1) := by decide +kernel
theorem d_L_law_232 : decode code 232 = .ok (.iload 4, 2) := by decide +kernel
theorem d_L_law_234 : decode code 234 = .ok (.iconst 3, 1) := by decide +kernel
theorem d_L_law_235 : decode code 235 = .ok (.iadd, 1) := by decide +kernel
theorem d_L_law_236 : decode code 236 = .ok (.iaload, 1) := by decide +kernel
theorem d_L_law_237 : decode code 237 = .ok (.i2l, 1) := by decide +kernel
theorem d_L_law_238 : decode code 238 = .ok (.bipush 32, 2) := by decide +kernel
theorem d_L_law_240 : decode code 240 = .ok (.lshl, 1) := by decide +kernel
end
section
theorem d_L_law_241 : decode code 241 = .ok (.aload_n 0, 1) := by decide +kernel
theorem d_L_law_242 : decode code 242 = .ok (.iload 4, 2) := by decide +kernel
theorem d_L_law_244 : decode code 244 = .ok (.iconst 4, 1) := by decide +kernel
theorem d_L_law_245 : decode code 245 = .ok (.iadd, 1) := by decide +kernel
theorem d_L_law_246 : decode code 246 = .ok (.iaload, 1) := by decide +kernel
theorem d_L_law_247 : decode code 247 = .ok (.i2l, 1) := by decide +kernel
theorem d_L_law_248 : decode code 248 = .ok (.ldc2_w 66, 3) := by decide +kernel
theorem d_L_law_251 : decode code 251 = .ok (.land, 1) := by decide +kernel
theorem d_L_law_252 : decode code 252 = .ok (.lor, 1) := by decide +kernel
theorem d_L_law_253 : decode code 253 = .ok (.aload_n 0, 1) := by decide +kernel
theorem d_L_law_254 : decode code 254 = .ok (.iload 4, 2) := by decide +kernel
theorem d_L_law_256 : decode code 256 = .ok (.iconst 5, 1) := by decide +kernel
theorem d_L_law_257 : decode code 257 = .ok (.iadd, 1) := by decide +kernel
theorem d_L_law_258 : decode code 258 = .ok (.iaload, 1) := by decide +kernel
theorem d_L_law_259 : decode code 259 = .ok (.i2l, 1) := by decide +kernel
theorem d_L_law_260 : decode code 260 = .ok (.bipush 32, 2) := by decide +kernel
theorem d_L_law_262 : decode code 262 = .ok (.lshl, 1) := by decide +kernel
theorem d_L_law_263 : decode code 263 = .ok (.aload_n 0, 1) := by decide +kernel
theorem d_L_law_264 : decode code 264 = .ok (.iload 4, 2) := by decide +kernel
theorem d_L_law_266 : decode code 266 = .ok (.bipush 6, 2) := by decide +kernel
theorem d_L_law_268 : decode code 268 = .ok (.iadd, 1) := by decide +kernel
theorem d_L_law_269 : decode code 269 = .ok (.iaload, 1) := by decide +kernel
theorem d_L_law_270 : decode code 270 = .ok (.i2l, 1) := by decide +kernel
theorem d_L_law_271 : decode code 271 = .ok (.ldc2_w 66, 3) := by decide +kernel
theorem d_L_law_274 : decode code 274 = .ok (.land, 1) := by decide +kernel
theorem d_L_law_275 : decode code 275 = .ok (.lor, 1) := by decide +kernel
theorem d_L_law_276 : decode code 276 = .ok (.aload_n 3, 1) := by decide +kernel
theorem d_L_law_277 : decode code 277 = .ok (.invokestatic 77, 3) := by decide +kernel
theorem d_L_law_280 : decode code 280 = .ok (.istore 5, 2) := by decide +kernel
theorem d_L_law_282 : decode code 282 = .ok (.aload_n 2, 1) := by decide +kernel
theorem d_L_law_283 : decode code 283 = .ok (.aload_n 0, 1) := by decide +kernel
theorem d_L_law_284 : decode code 284 = .ok (.iload 4, 2) := by decide +kernel
theorem d_L_law_286 : decode code 286 = .ok (.iconst 1, 1) := by decide +kernel
theorem d_L_law_287 : decode code 287 = .ok (.iadd, 1) := by decide +kernel
theorem d_L_law_288 : decode code 288 = .ok (.iaload, 1) := by decide +kernel
theorem d_L_law_289 : decode code 289 = .ok (.i2l, 1) := by decide +kernel
theorem d_L_law_290 : decode code 290 = .ok (.bipush 32, 2) := by decide +kernel
theorem d_L_law_292 : decode code 292 = .ok (.lshl, 1) := by decide +kernel
theorem d_L_law_293 : decode code 293 = .ok (.aload_n 0, 1) := by decide +kernel
theorem d_L_law_294 : decode code 294 = .ok (.iload 4, 2) := by decide +kernel
theorem d_L_law_296 : decode code 296 = .ok (.iconst 2, 1) := by decide +kernel
theorem d_L_law_297 : decode code 297 = .ok (.iadd, 1) := by decide +kernel
theorem d_L_law_298 : decode code 298 = .ok (.iaload, 1) := by decide +kernel
theorem d_L_law_299 : decode code 299 = .ok (.i2l, 1) := by decide +kernel
theorem d_L_law_300 : decode code 300 = .ok (.ldc2_w 66, 3) := by decide +kernel
theorem d_L_law_303 : decode code 303 = .ok (.land, 1) := by decide +kernel
theorem d_L_law_304 : decode code 304 = .ok (.lor, 1) := by decide +kernel
theorem d_L_law_305 : decode code 305 = .ok (.aload_n 0, 1) := by decide +kernel
theorem d_L_law_306 : decode code 306 = .ok (.iload 4, 2) := by decide +kernel
theorem d_L_law_308 : decode code 308 = .ok (.iconst 3, 1) := by decide +kernel
theorem d_L_law_309 : decode code 309 = .ok (.iadd, 1) := by decide +kernel
theorem d_L_law_310 : decode code 310 = .ok (.iaload, 1) := by decide +kernel
theorem d_L_law_311 : decode code 311 = .ok (.i2l, 1) := by decide +kernel
theorem d_L_law_312 : decode code 312 = .ok (.bipush 32, 2) := by decide +kernel
theorem d_L_law_314 : decode code 314 = .ok (.lshl, 1) := by decide +kernel
theorem d_L_law_315 : decode code 315 = .ok (.aload_n 0, 1) := by decide +kernel
theorem d_L_law_316 : decode code 316 = .ok (.iload 4, 2) := by decide +kernel
theorem d_L_law_318 : decode code 318 = .ok (.iconst 4, 1) := by decide +kernel
theorem d_L_law_319 : decode code 319 = .ok (.iadd, 1) := by decide +kernel
theorem d_L_law_320 : decode code 320 = .ok (.iaload, 1) := by decide +kernel
end
section
theorem d_L_law_321 : decode code 321 = .ok (.i2l, 1) := by decide +kernel
theorem d_L_law_322 : decode code 322 = .ok (.ldc2_w 66, 3) := by decide +kernel
theorem d_L_law_325 : decode code 325 = .ok (.land, 1) := by decide +kernel
theorem d_L_law_326 : decode code 326 = .ok (.lor, 1) := by decide +kernel
theorem d_L_law_327 : decode code 327 = .ok (.aload_n 0, 1) := by decide +kernel
theorem d_L_law_328 : decode code 328 = .ok (.iload 4, 2) := by decide +kernel
theorem d_L_law_330 : decode code 330 = .ok (.iconst 5, 1) := by decide +kernel
theorem d_L_law_331 : decode code 331 = .ok (.iadd, 1) := by decide +kernel
theorem d_L_law_332 : decode code 332 = .ok (.iaload, 1) := by decide +kernel
theorem d_L_law_333 : decode code 333 = .ok (.i2l, 1) := by decide +kernel
theorem d_L_law_334 : decode code 334 = .ok (.bipush 32, 2) := by decide +kernel
theorem d_L_law_336 : decode code 336 = .ok (.lshl, 1) := by decide +kernel
theorem d_L_law_337 : decode code 337 = .ok (.aload_n 0, 1) := by decide +kernel
theorem d_L_law_338 : decode code 338 = .ok (.iload 4, 2) := by decide +kernel
theorem d_L_law_340 : decode code 340 = .ok (.bipush 6, 2) := by decide +kernel
theorem d_L_law_342 : decode code 342 = .ok (.iadd, 1) := by decide +kernel
theorem d_L_law_343 : decode code 343 = .ok (.iaload, 1) := by decide +kernel
theorem d_L_law_344 : decode code 344 = .ok (.i2l, 1) := by decide +kernel
theorem d_L_law_345 : decode code 345 = .ok (.ldc2_w 66, 3) := by decide +kernel
theorem d_L_law_348 : decode code 348 = .ok (.land, 1) := by decide +kernel
theorem d_L_law_349 : decode code 349 = .ok (.lor, 1) := by decide +kernel
theorem d_L_law_350 : decode code 350 = .ok (.invokevirtual 80, 3) := by decide +kernel
theorem d_L_law_353 : decode code 353 = .ok (.istore 6, 2) := by decide +kernel
theorem d_L_law_355 : decode code 355 = .ok (.aload_n 2, 1) := by decide +kernel
theorem d_L_law_356 : decode code 356 = .ok (.invokevirtual 74, 3) := by decide +kernel
theorem d_L_law_359 : decode code 359 = .ok (.iload 5, 2) := by decide +kernel
theorem d_L_law_361 : decode code 361 = .ok (.if_icmp .eq 5, 3) := by decide +kernel
theorem d_L_law_364 : decode code 364 = .ok (.iconst 0, 1) := by decide +kernel
theorem d_L_law_365 : decode code 365 = .ok (.ireturn, 1) := by decide +kernel
theorem d_L_law_366 : decode code 366 = .ok (.iload 5, 2) := by decide +kernel
theorem d_L_law_368 : decode code 368 = .ok (.ifCond .ne 15, 3) := by decide +kernel
theorem d_L_law_371 : decode code 371 = .ok (.aload_n 3, 1) := by decide +kernel
theorem d_L_law_372 : decode code 372 = .ok (.iconst 0, 1) := by decide +kernel
theorem d_L_law_373 : decode code 373 = .ok (.laload, 1) := by decide +kernel
theorem d_L_law_374 : decode code 374 = .ok (.iload 6, 2) := by decide +kernel
theorem d_L_law_376 : decode code 376 = .ok (.i2l, 1) := by decide +kernel
theorem d_L_law_377 : decode code 377 = .ok (.lcmp, 1) := by decide +kernel
theorem d_L_law_378 : decode code 378 = .ok (.ifCond .eq 5, 3) := by decide +kernel
theorem d_L_law_381 : decode code 381 = .ok (.iconst 0, 1) := by decide +kernel
theorem d_L_law_382 : decode code 382 = .ok (.ireturn, 1) := by decide +kernel
theorem d_L_law_383 : decode code 383 = .ok (.goto 719, 3) := by decide +kernel
theorem d_L_law_386 : decode code 386 = .ok (.aload_n 1, 1) := by decide +kernel
theorem d_L_law_387 : decode code 387 = .ok (.aload_n 0, 1) := by decide +kernel
theorem d_L_law_388 : decode code 388 = .ok (.iload 4, 2) := by decide +kernel
theorem d_L_law_390 : decode code 390 = .ok (.iconst 1, 1) := by decide +kernel
theorem d_L_law_391 : decode code 391 = .ok (.iadd, 1) := by decide +kernel
theorem d_L_law_392 : decode code 392 = .ok (.iaload, 1) := by decide +kernel
theorem d_L_law_393 : decode code 393 = .ok (.aload_n 3, 1) := by decide +kernel
theorem d_L_law_394 : decode code 394 = .ok (.invokestatic 81, 3) := by decide +kernel
theorem d_L_law_397 : decode code 397 = .ok (.istore 5, 2) := by decide +kernel
theorem d_L_law_399 : decode code 399 = .ok (.aload_n 2, 1) := by decide +kernel
theorem d_L_law_400 : decode code 400 = .ok (.aload_n 0, 1) := by decide +kernel
theorem d_L_law_401 : decode code 401 = .ok (.iload 4, 2) := by decide +kernel
theorem d_L_law_403 : decode code 403 = .ok (.iconst 1, 1) := by decide +kernel
theorem d_L_law_404 : decode code 404 = .ok (.iadd, 1) := by decide +kernel
theorem d_L_law_405 : decode code 405 = .ok (.iaload, 1) := by decide +kernel
theorem d_L_law_406 : decode code 406 = .ok (.invokevirtual 84, 3) := by decide +kernel
theorem d_L_law_409 : decode code 409 = .ok (.istore 6, 2) := by decide +kernel
theorem d_L_law_411 : decode code 411 = .ok (.aload_n 2, 1) := by decide +kernel
theorem d_L_law_412 : decode code 412 = .ok (.invokevirtual 74, 3) := by decide +kernel
end
section
theorem d_L_law_415 : decode code 415 = .ok (.iload 5, 2) := by decide +kernel
theorem d_L_law_417 : decode code 417 = .ok (.if_icmp .eq 5, 3) := by decide +kernel
theorem d_L_law_420 : decode code 420 = .ok (.iconst 0, 1) := by decide +kernel
theorem d_L_law_421 : decode code 421 = .ok (.ireturn, 1) := by decide +kernel
theorem d_L_law_422 : decode code 422 = .ok (.iload 5, 2) := by decide +kernel
theorem d_L_law_424 : decode code 424 = .ok (.ifCond .ne 15, 3) := by decide +kernel
theorem d_L_law_427 : decode code 427 = .ok (.aload_n 3, 1) := by decide +kernel
theorem d_L_law_428 : decode code 428 = .ok (.iconst 0, 1) := by decide +kernel
theorem d_L_law_429 : decode code 429 = .ok (.laload, 1) := by decide +kernel
theorem d_L_law_430 : decode code 430 = .ok (.iload 6, 2) := by decide +kernel
theorem d_L_law_432 : decode code 432 = .ok (.i2l, 1) := by decide +kernel
theorem d_L_law_433 : decode code 433 = .ok (.lcmp, 1) := by decide +kernel
theorem d_L_law_434 : decode code 434 = .ok (.ifCond .eq 5, 3) := by decide +kernel
theorem d_L_law_437 : decode code 437 = .ok (.iconst 0, 1) := by decide +kernel
theorem d_L_law_438 : decode code 438 = .ok (.ireturn, 1) := by decide +kernel
theorem d_L_law_439 : decode code 439 = .ok (.goto 663, 3) := by decide +kernel
theorem d_L_law_442 : decode code 442 = .ok (.aload_n 1, 1) := by decide +kernel
theorem d_L_law_443 : decode code 443 = .ok (.aload_n 0, 1) := by decide +kernel
theorem d_L_law_444 : decode code 444 = .ok (.iload 4, 2) := by decide +kernel
theorem d_L_law_446 : decode code 446 = .ok (.iconst 1, 1) := by decide +kernel
theorem d_L_law_447 : decode code 447 = .ok (.iadd, 1) := by decide +kernel
theorem d_L_law_448 : decode code 448 = .ok (.iaload, 1) := by decide +kernel
theorem d_L_law_449 : decode code 449 = .ok (.aload_n 0, 1) := by decide +kernel
theorem d_L_law_450 : decode code 450 = .ok (.iload 4, 2) := by decide +kernel
theorem d_L_law_452 : decode code 452 = .ok (.iconst 2, 1) := by decide +kernel
theorem d_L_law_453 : decode code 453 = .ok (.iadd, 1) := by decide +kernel
theorem d_L_law_454 : decode code 454 = .ok (.iaload, 1) := by decide +kernel
theorem d_L_law_455 : decode code 455 = .ok (.i2l, 1) := by decide +kernel
theorem d_L_law_456 : decode code 456 = .ok (.bipush 32, 2) := by decide +kernel
theorem d_L_law_458 : decode code 458 = .ok (.lshl, 1) := by decide +kernel
theorem d_L_law_459 : decode code 459 = .ok (.aload_n 0, 1) := by decide +kernel
theorem d_L_law_460 : decode code 460 = .ok (.iload 4, 2) := by decide +kernel
theorem d_L_law_462 : decode code 462 = .ok (.iconst 3, 1) := by decide +kernel
theorem d_L_law_463 : decode code 463 = .ok (.iadd, 1) := by decide +kernel
theorem d_L_law_464 : decode code 464 = .ok (.iaload, 1) := by decide +kernel
theorem d_L_law_465 : decode code 465 = .ok (.i2l, 1) := by decide +kernel
theorem d_L_law_466 : decode code 466 = .ok (.ldc2_w 66, 3) := by decide +kernel
theorem d_L_law_469 : decode code 469 = .ok (.land, 1) := by decide +kernel
theorem d_L_law_470 : decode code 470 = .ok (.lor, 1) := by decide +kernel
theorem d_L_law_471 : decode code 471 = .ok (.aload_n 3, 1) := by decide +kernel
theorem d_L_law_472 : decode code 472 = .ok (.invokestatic 85, 3) := by decide +kernel
theorem d_L_law_475 : decode code 475 = .ok (.istore 5, 2) := by decide +kernel
theorem d_L_law_477 : decode code 477 = .ok (.aload_n 2, 1) := by decide +kernel
theorem d_L_law_478 : decode code 478 = .ok (.aload_n 0, 1) := by decide +kernel
theorem d_L_law_479 : decode code 479 = .ok (.iload 4, 2) := by decide +kernel
theorem d_L_law_481 : decode code 481 = .ok (.iconst 1, 1) := by decide +kernel
theorem d_L_law_482 : decode code 482 = .ok (.iadd, 1) := by decide +kernel
theorem d_L_law_483 : decode code 483 = .ok (.iaload, 1) := by decide +kernel
theorem d_L_law_484 : decode code 484 = .ok (.aload_n 0, 1) := by decide +kernel
theorem d_L_law_485 : decode code 485 = .ok (.iload 4, 2) := by decide +kernel
theorem d_L_law_487 : decode code 487 = .ok (.iconst 2, 1) := by decide +kernel
theorem d_L_law_488 : decode code 488 = .ok (.iadd, 1) := by decide +kernel
theorem d_L_law_489 : decode code 489 = .ok (.iaload, 1) := by decide +kernel
theorem d_L_law_490 : decode code 490 = .ok (.i2l, 1) := by decide +kernel
theorem d_L_law_491 : decode code 491 = .ok (.bipush 32, 2) := by decide +kernel
theorem d_L_law_493 : decode code 493 = .ok (.lshl, 1) := by decide +kernel
theorem d_L_law_494 : decode code 494 = .ok (.aload_n 0, 1) := by decide +kernel
theorem d_L_law_495 : decode code 495 = .ok (.iload 4, 2) := by decide +kernel
theorem d_L_law_497 : decode code 497 = .ok (.iconst 3, 1) := by decide +kernel
theorem d_L_law_498 : decode code 498 = .ok (.iadd, 1) := by decide +kernel
end
section
theorem d_L_law_499 : decode code 499 = .ok (.iaload, 1) := by decide +kernel
theorem d_L_law_500 : decode code 500 = .ok (.i2l, 1) := by decide +kernel
theorem d_L_law_501 : decode code 501 = .ok (.ldc2_w 66, 3) := by decide +kernel
theorem d_L_law_504 : decode code 504 = .ok (.land, 1) := by decide +kernel
theorem d_L_law_505 : decode code 505 = .ok (.lor, 1) := by decide +kernel
theorem d_L_law_506 : decode code 506 = .ok (.invokevirtual 88, 3) := by decide +kernel
theorem d_L_law_509 : decode code 509 = .ok (.istore 6, 2) := by decide +kernel
theorem d_L_law_511 : decode code 511 = .ok (.aload_n 2, 1) := by decide +kernel
theorem d_L_law_512 : decode code 512 = .ok (.invokevirtual 74, 3) := by decide +kernel
theorem d_L_law_515 : decode code 515 = .ok (.iload 5, 2) := by decide +kernel
theorem d_L_law_517 : decode code 517 = .ok (.if_icmp .eq 5, 3) := by decide +kernel
theorem d_L_law_520 : decode code 520 = .ok (.iconst 0, 1) := by decide +kernel
theorem d_L_law_521 : decode code 521 = .ok (.ireturn, 1) := by decide +kernel
theorem d_L_law_522 : decode code 522 = .ok (.iload 5, 2) := by decide +kernel
theorem d_L_law_524 : decode code 524 = .ok (.ifCond .ne 15, 3) := by decide +kernel
theorem d_L_law_527 : decode code 527 = .ok (.aload_n 3, 1) := by decide +kernel
theorem d_L_law_528 : decode code 528 = .ok (.iconst 0, 1) := by decide +kernel
theorem d_L_law_529 : decode code 529 = .ok (.laload, 1) := by decide +kernel
theorem d_L_law_530 : decode code 530 = .ok (.iload 6, 2) := by decide +kernel
theorem d_L_law_532 : decode code 532 = .ok (.i2l, 1) := by decide +kernel
theorem d_L_law_533 : decode code 533 = .ok (.lcmp, 1) := by decide +kernel
theorem d_L_law_534 : decode code 534 = .ok (.ifCond .eq 5, 3) := by decide +kernel
theorem d_L_law_537 : decode code 537 = .ok (.iconst 0, 1) := by decide +kernel
theorem d_L_law_538 : decode code 538 = .ok (.ireturn, 1) := by decide +kernel
theorem d_L_law_539 : decode code 539 = .ok (.goto 563, 3) := by decide +kernel
theorem d_L_law_542 : decode code 542 = .ok (.aload_n 1, 1) := by decide +kernel
theorem d_L_law_543 : decode code 543 = .ok (.aload_n 3, 1) := by decide +kernel
theorem d_L_law_544 : decode code 544 = .ok (.invokestatic 89, 3) := by decide +kernel
theorem d_L_law_547 : decode code 547 = .ok (.istore 5, 2) := by decide +kernel
theorem d_L_law_549 : decode code 549 = .ok (.aload_n 2, 1) := by decide +kernel
theorem d_L_law_550 : decode code 550 = .ok (.invokevirtual 92, 3) := by decide +kernel
theorem d_L_law_553 : decode code 553 = .ok (.istore 6, 2) := by decide +kernel
theorem d_L_law_555 : decode code 555 = .ok (.aload_n 2, 1) := by decide +kernel
theorem d_L_law_556 : decode code 556 = .ok (.invokevirtual 74, 3) := by decide +kernel
theorem d_L_law_559 : decode code 559 = .ok (.iload 5, 2) := by decide +kernel
theorem d_L_law_561 : decode code 561 = .ok (.if_icmp .eq 5, 3) := by decide +kernel
theorem d_L_law_564 : decode code 564 = .ok (.iconst 0, 1) := by decide +kernel
theorem d_L_law_565 : decode code 565 = .ok (.ireturn, 1) := by decide +kernel
theorem d_L_law_566 : decode code 566 = .ok (.iload 5, 2) := by decide +kernel
theorem d_L_law_568 : decode code 568 = .ok (.ifCond .ne 15, 3) := by decide +kernel
theorem d_L_law_571 : decode code 571 = .ok (.aload_n 3, 1) := by decide +kernel
theorem d_L_law_572 : decode code 572 = .ok (.iconst 0, 1) := by decide +kernel
theorem d_L_law_573 : decode code 573 = .ok (.laload, 1) := by decide +kernel
theorem d_L_law_574 : decode code 574 = .ok (.iload 6, 2) := by decide +kernel
theorem d_L_law_576 : decode code 576 = .ok (.i2l, 1) := by decide +kernel
theorem d_L_law_577 : decode code 577 = .ok (.lcmp, 1) := by decide +kernel
theorem d_L_law_578 : decode code 578 = .ok (.ifCond .eq 5, 3) := by decide +kernel
theorem d_L_law_581 : decode code 581 = .ok (.iconst 0, 1) := by decide +kernel
theorem d_L_law_582 : decode code 582 = .ok (.ireturn, 1) := by decide +kernel
theorem d_L_law_583 : decode code 583 = .ok (.goto 519, 3) := by decide +kernel
theorem d_L_law_586 : decode code 586 = .ok (.aload_n 1, 1) := by decide +kernel
theorem d_L_law_587 : decode code 587 = .ok (.aload_n 0, 1) := by decide +kernel
theorem d_L_law_588 : decode code 588 = .ok (.iload 4, 2) := by decide +kernel
theorem d_L_law_590 : decode code 590 = .ok (.iconst 1, 1) := by decide +kernel
theorem d_L_law_591 : decode code 591 = .ok (.iadd, 1) := by decide +kernel
theorem d_L_law_592 : decode code 592 = .ok (.iaload, 1) := by decide +kernel
theorem d_L_law_593 : decode code 593 = .ok (.aload_n 3, 1) := by decide +kernel
theorem d_L_law_594 : decode code 594 = .ok (.invokestatic 93, 3) := by decide +kernel
theorem d_L_law_597 : decode code 597 = .ok (.istore 5, 2) := by decide +kernel
theorem d_L_law_599 : decode code 599 = .ok (.aload_n 2, 1) := by decide +kernel
end
section
theorem d_L_law_600 : decode code 600 = .ok (.aload_n 0, 1) := by decide +kernel
theorem d_L_law_601 : decode code 601 = .ok (.iload 4, 2) := by decide +kernel
theorem d_L_law_603 : decode code 603 = .ok (.iconst 1, 1) := by decide +kernel
theorem d_L_law_604 : decode code 604 = .ok (.iadd, 1) := by decide +kernel
theorem d_L_law_605 : decode code 605 = .ok (.iaload, 1) := by decide +kernel
theorem d_L_law_606 : decode code 606 = .ok (.invokevirtual 95, 3) := by decide +kernel
theorem d_L_law_609 : decode code 609 = .ok (.lstore 6, 2) := by decide +kernel
theorem d_L_law_611 : decode code 611 = .ok (.aload_n 2, 1) := by decide +kernel
theorem d_L_law_612 : decode code 612 = .ok (.invokevirtual 74, 3) := by decide +kernel
theorem d_L_law_615 : decode code 615 = .ok (.iload 5, 2) := by decide +kernel
theorem d_L_law_617 : decode code 617 = .ok (.if_icmp .eq 5, 3) := by decide +kernel
theorem d_L_law_620 : decode code 620 = .ok (.iconst 0, 1) := by decide +kernel
theorem d_L_law_621 : decode code 621 = .ok (.ireturn, 1) := by decide +kernel
theorem d_L_law_622 : decode code 622 = .ok (.iload 5, 2) := by decide +kernel
theorem d_L_law_624 : decode code 624 = .ok (.ifCond .ne 14, 3) := by decide +kernel
theorem d_L_law_627 : decode code 627 = .ok (.aload_n 3, 1) := by decide +kernel
theorem d_L_law_628 : decode code 628 = .ok (.iconst 0, 1) := by decide +kernel
theorem d_L_law_629 : decode code 629 = .ok (.laload, 1) := by decide +kernel
theorem d_L_law_630 : decode code 630 = .ok (.lload 6, 2) := by decide +kernel
theorem d_L_law_632 : decode code 632 = .ok (.lcmp, 1) := by decide +kernel
theorem d_L_law_633 : decode code 633 = .ok (.ifCond .eq 5, 3) := by decide +kernel
theorem d_L_law_636 : decode code 636 = .ok (.iconst 0, 1) := by decide +kernel
theorem d_L_law_637 : decode code 637 = .ok (.ireturn, 1) := by decide +kernel
theorem d_L_law_638 : decode code 638 = .ok (.goto 464, 3) := by decide +kernel
theorem d_L_law_641 : decode code 641 = .ok (.aload_n 1, 1) := by decide +kernel
theorem d_L_law_642 : decode code 642 = .ok (.aload_n 0, 1) := by decide +kernel
theorem d_L_law_643 : decode code 643 = .ok (.iload 4, 2) := by decide +kernel
theorem d_L_law_645 : decode code 645 = .ok (.iconst 1, 1) := by decide +kernel
theorem d_L_law_646 : decode code 646 = .ok (.iadd, 1) := by decide +kernel
theorem d_L_law_647 : decode code 647 = .ok (.iaload, 1) := by decide +kernel
theorem d_L_law_648 : decode code 648 = .ok (.i2l, 1) := by decide +kernel
theorem d_L_law_649 : decode code 649 = .ok (.bipush 32, 2) := by decide +kernel
theorem d_L_law_651 : decode code 651 = .ok (.lshl, 1) := by decide +kernel
theorem d_L_law_652 : decode code 652 = .ok (.aload_n 0, 1) := by decide +kernel
theorem d_L_law_653 : decode code 653 = .ok (.iload 4, 2) := by decide +kernel
theorem d_L_law_655 : decode code 655 = .ok (.iconst 2, 1) := by decide +kernel
theorem d_L_law_656 : decode code 656 = .ok (.iadd, 1) := by decide +kernel
theorem d_L_law_657 : decode code 657 = .ok (.iaload, 1) := by decide +kernel
theorem d_L_law_658 : decode code 658 = .ok (.i2l, 1) := by decide +kernel
theorem d_L_law_659 : decode code 659 = .ok (.ldc2_w 66, 3) := by decide +kernel
theorem d_L_law_662 : decode code 662 = .ok (.land, 1) := by decide +kernel
theorem d_L_law_663 : decode code 663 = .ok (.lor, 1) := by decide +kernel
theorem d_L_law_664 : decode code 664 = .ok (.aload_n 0, 1) := by decide +kernel
theorem d_L_law_665 : decode code 665 = .ok (.iload 4, 2) := by decide +kernel
theorem d_L_law_667 : decode code 667 = .ok (.iconst 3, 1) := by decide +kernel
theorem d_L_law_668 : decode code 668 = .ok (.iadd, 1) := by decide +kernel
theorem d_L_law_669 : decode code 669 = .ok (.iaload, 1) := by decide +kernel
theorem d_L_law_670 : decode code 670 = .ok (.i2l, 1) := by decide +kernel
theorem d_L_law_671 : decode code 671 = .ok (.bipush 32, 2) := by decide +kernel
theorem d_L_law_673 : decode code 673 = .ok (.lshl, 1) := by decide +kernel
theorem d_L_law_674 : decode code 674 = .ok (.aload_n 0, 1) := by decide +kernel
theorem d_L_law_675 : decode code 675 = .ok (.iload 4, 2) := by decide +kernel
theorem d_L_law_677 : decode code 677 = .ok (.iconst 4, 1) := by decide +kernel
theorem d_L_law_678 : decode code 678 = .ok (.iadd, 1) := by decide +kernel
theorem d_L_law_679 : decode code 679 = .ok (.iaload, 1) := by decide +kernel
theorem d_L_law_680 : decode code 680 = .ok (.i2l, 1) := by decide +kernel
theorem d_L_law_681 : decode code 681 = .ok (.ldc2_w 66, 3) := by decide +kernel
theorem d_L_law_684 : decode code 684 = .ok (.land, 1) := by decide +kernel
theorem d_L_law_685 : decode code 685 = .ok (.lor, 1) := by decide +kernel
theorem d_L_law_686 : decode code 686 = .ok (.aload_n 3, 1) := by decide +kernel
end
section
theorem d_L_law_687 : decode code 687 = .ok (.invokestatic 96, 3) := by decide +kernel
theorem d_L_law_690 : decode code 690 = .ok (.istore 5, 2) := by decide +kernel
theorem d_L_law_692 : decode code 692 = .ok (.aload_n 2, 1) := by decide +kernel
theorem d_L_law_693 : decode code 693 = .ok (.aload_n 0, 1) := by decide +kernel
theorem d_L_law_694 : decode code 694 = .ok (.iload 4, 2) := by decide +kernel
theorem d_L_law_696 : decode code 696 = .ok (.iconst 1, 1) := by decide +kernel
theorem d_L_law_697 : decode code 697 = .ok (.iadd, 1) := by decide +kernel
theorem d_L_law_698 : decode code 698 = .ok (.iaload, 1) := by decide +kernel
theorem d_L_law_699 : decode code 699 = .ok (.i2l, 1) := by decide +kernel
theorem d_L_law_700 : decode code 700 = .ok (.bipush 32, 2) := by decide +kernel
theorem d_L_law_702 : decode code 702 = .ok (.lshl, 1) := by decide +kernel
theorem d_L_law_703 : decode code 703 = .ok (.aload_n 0, 1) := by decide +kernel
theorem d_L_law_704 : decode code 704 = .ok (.iload 4, 2) := by decide +kernel
theorem d_L_law_706 : decode code 706 = .ok (.iconst 2, 1) := by decide +kernel
theorem d_L_law_707 : decode code 707 = .ok (.iadd, 1) := by decide +kernel
theorem d_L_law_708 : decode code 708 = .ok (.iaload, 1) := by decide +kernel
theorem d_L_law_709 : decode code 709 = .ok (.i2l, 1) := by decide +kernel
theorem d_L_law_710 : decode code 710 = .ok (.ldc2_w 66, 3) := by decide +kernel
theorem d_L_law_713 : decode code 713 = .ok (.land, 1) := by decide +kernel
theorem d_L_law_714 : decode code 714 = .ok (.lor, 1) := by decide +kernel
theorem d_L_law_715 : decode code 715 = .ok (.aload_n 0, 1) := by decide +kernel
theorem d_L_law_716 : decode code 716 = .ok (.iload 4, 2) := by decide +kernel
theorem d_L_law_718 : decode code 718 = .ok (.iconst 3, 1) := by decide +kernel
theorem d_L_law_719 : decode code 719 = .ok (.iadd, 1) := by decide +kernel
theorem d_L_law_720 : decode code 720 = .ok (.iaload, 1) := by decide +kernel
theorem d_L_law_721 : decode code 721 = .ok (.i2l, 1) := by decide +kernel
theorem d_L_law_722 : decode code 722 = .ok (.bipush 32, 2) := by decide +kernel
theorem d_L_law_724 : decode code 724 = .ok (.lshl, 1) := by decide +kernel
theorem d_L_law_725 : decode code 725 = .ok (.aload_n 0, 1) := by decide +kernel
theorem d_L_law_726 : decode code 726 = .ok (.iload 4, 2) := by decide +kernel
theorem d_L_law_728 : decode code 728 = .ok (.iconst 4, 1) := by decide +kernel
theorem d_L_law_729 : decode code 729 = .ok (.iadd, 1) := by decide +kernel
theorem d_L_law_730 : decode code 730 = .ok (.iaload, 1) := by decide +kernel
theorem d_L_law_731 : decode code 731 = .ok (.i2l, 1) := by decide +kernel
theorem d_L_law_732 : decode code 732 = .ok (.ldc2_w 66, 3) := by decide +kernel
theorem d_L_law_735 : decode code 735 = .ok (.land, 1) := by decide +kernel
theorem d_L_law_736 : decode code 736 = .ok (.lor, 1) := by decide +kernel
theorem d_L_law_737 : decode code 737 = .ok (.invokevirtual 99, 3) := by decide +kernel
theorem d_L_law_740 : decode code 740 = .ok (.lstore 6, 2) := by decide +kernel
theorem d_L_law_742 : decode code 742 = .ok (.aload_n 2, 1) := by decide +kernel
theorem d_L_law_743 : decode code 743 = .ok (.invokevirtual 74, 3) := by decide +kernel
theorem d_L_law_746 : decode code 746 = .ok (.iload 5, 2) := by decide +kernel
theorem d_L_law_748 : decode code 748 = .ok (.if_icmp .eq 5, 3) := by decide +kernel
theorem d_L_law_751 : decode code 751 = .ok (.iconst 0, 1) := by decide +kernel
theorem d_L_law_752 : decode code 752 = .ok (.ireturn, 1) := by decide +kernel
theorem d_L_law_753 : decode code 753 = .ok (.iload 5, 2) := by decide +kernel
theorem d_L_law_755 : decode code 755 = .ok (.ifCond .ne 14, 3) := by decide +kernel
theorem d_L_law_758 : decode code 758 = .ok (.aload_n 3, 1) := by decide +kernel
theorem d_L_law_759 : decode code 759 = .ok (.iconst 0, 1) := by decide +kernel
theorem d_L_law_760 : decode code 760 = .ok (.laload, 1) := by decide +kernel
theorem d_L_law_761 : decode code 761 = .ok (.lload 6, 2) := by decide +kernel
theorem d_L_law_763 : decode code 763 = .ok (.lcmp, 1) := by decide +kernel
theorem d_L_law_764 : decode code 764 = .ok (.ifCond .eq 5, 3) := by decide +kernel
theorem d_L_law_767 : decode code 767 = .ok (.iconst 0, 1) := by decide +kernel
theorem d_L_law_768 : decode code 768 = .ok (.ireturn, 1) := by decide +kernel
theorem d_L_law_769 : decode code 769 = .ok (.goto 333, 3) := by decide +kernel
theorem d_L_law_772 : decode code 772 = .ok (.aload_n 1, 1) := by decide +kernel
theorem d_L_law_773 : decode code 773 = .ok (.aload_n 3, 1) := by decide +kernel
theorem d_L_law_774 : decode code 774 = .ok (.invokestatic 100, 3) := by decide +kernel
theorem d_L_law_777 : decode code 777 = .ok (.istore 5, 2) := by decide +kernel
end
section
theorem d_L_law_779 : decode code 779 = .ok (.aload_n 2, 1) := by decide +kernel
theorem d_L_law_780 : decode code 780 = .ok (.invokevirtual 102, 3) := by decide +kernel
theorem d_L_law_783 : decode code 783 = .ok (.istore 6, 2) := by decide +kernel
theorem d_L_law_785 : decode code 785 = .ok (.aload_n 2, 1) := by decide +kernel
theorem d_L_law_786 : decode code 786 = .ok (.invokevirtual 74, 3) := by decide +kernel
theorem d_L_law_789 : decode code 789 = .ok (.iload 5, 2) := by decide +kernel
theorem d_L_law_791 : decode code 791 = .ok (.if_icmp .eq 5, 3) := by decide +kernel
theorem d_L_law_794 : decode code 794 = .ok (.iconst 0, 1) := by decide +kernel
theorem d_L_law_795 : decode code 795 = .ok (.ireturn, 1) := by decide +kernel
theorem d_L_law_796 : decode code 796 = .ok (.iload 5, 2) := by decide +kernel
theorem d_L_law_798 : decode code 798 = .ok (.ifCond .ne 15, 3) := by decide +kernel
theorem d_L_law_801 : decode code 801 = .ok (.aload_n 3, 1) := by decide +kernel
theorem d_L_law_802 : decode code 802 = .ok (.iconst 0, 1) := by decide +kernel
theorem d_L_law_803 : decode code 803 = .ok (.laload, 1) := by decide +kernel
theorem d_L_law_804 : decode code 804 = .ok (.iload 6, 2) := by decide +kernel
theorem d_L_law_806 : decode code 806 = .ok (.i2l, 1) := by decide +kernel
theorem d_L_law_807 : decode code 807 = .ok (.lcmp, 1) := by decide +kernel
theorem d_L_law_808 : decode code 808 = .ok (.ifCond .eq 5, 3) := by decide +kernel
theorem d_L_law_811 : decode code 811 = .ok (.iconst 0, 1) := by decide +kernel
theorem d_L_law_812 : decode code 812 = .ok (.ireturn, 1) := by decide +kernel
theorem d_L_law_813 : decode code 813 = .ok (.goto 289, 3) := by decide +kernel
theorem d_L_law_816 : decode code 816 = .ok (.aload_n 1, 1) := by decide +kernel
theorem d_L_law_817 : decode code 817 = .ok (.aload_n 0, 1) := by decide +kernel
theorem d_L_law_818 : decode code 818 = .ok (.iload 4, 2) := by decide +kernel
theorem d_L_law_820 : decode code 820 = .ok (.iconst 1, 1) := by decide +kernel
theorem d_L_law_821 : decode code 821 = .ok (.iadd, 1) := by decide +kernel
theorem d_L_law_822 : decode code 822 = .ok (.iaload, 1) := by decide +kernel
theorem d_L_law_823 : decode code 823 = .ok (.aload_n 3, 1) := by decide +kernel
theorem d_L_law_824 : decode code 824 = .ok (.invokestatic 103, 3) := by decide +kernel
theorem d_L_law_827 : decode code 827 = .ok (.istore 5, 2) := by decide +kernel
theorem d_L_law_829 : decode code 829 = .ok (.aload_n 2, 1) := by decide +kernel
theorem d_L_law_830 : decode code 830 = .ok (.aload_n 0, 1) := by decide +kernel
theorem d_L_law_831 : decode code 831 = .ok (.iload 4, 2) := by decide +kernel
theorem d_L_law_833 : decode code 833 = .ok (.iconst 1, 1) := by decide +kernel
theorem d_L_law_834 : decode code 834 = .ok (.iadd, 1) := by decide +kernel
theorem d_L_law_835 : decode code 835 = .ok (.iaload, 1) := by decide +kernel
theorem d_L_law_836 : decode code 836 = .ok (.invokevirtual 105, 3) := by decide +kernel
theorem d_L_law_839 : decode code 839 = .ok (.lstore 6, 2) := by decide +kernel
theorem d_L_law_841 : decode code 841 = .ok (.aload_n 2, 1) := by decide +kernel
theorem d_L_law_842 : decode code 842 = .ok (.invokevirtual 74, 3) := by decide +kernel
theorem d_L_law_845 : decode code 845 = .ok (.iload 5, 2) := by decide +kernel
theorem d_L_law_847 : decode code 847 = .ok (.if_icmp .eq 5, 3) := by decide +kernel
theorem d_L_law_850 : decode code 850 = .ok (.iconst 0, 1) := by decide +kernel
theorem d_L_law_851 : decode code 851 = .ok (.ireturn, 1) := by decide +kernel
theorem d_L_law_852 : decode code 852 = .ok (.iload 5, 2) := by decide +kernel
theorem d_L_law_854 : decode code 854 = .ok (.ifCond .ne 14, 3) := by decide +kernel
theorem d_L_law_857 : decode code 857 = .ok (.aload_n 3, 1) := by decide +kernel
theorem d_L_law_858 : decode code 858 = .ok (.iconst 0, 1) := by decide +kernel
theorem d_L_law_859 : decode code 859 = .ok (.laload, 1) := by decide +kernel
theorem d_L_law_860 : decode code 860 = .ok (.lload 6, 2) := by decide +kernel
theorem d_L_law_862 : decode code 862 = .ok (.lcmp, 1) := by decide +kernel
theorem d_L_law_863 : decode code 863 = .ok (.ifCond .eq 5, 3) := by decide +kernel
theorem d_L_law_866 : decode code 866 = .ok (.iconst 0, 1) := by decide +kernel
theorem d_L_law_867 : decode code 867 = .ok (.ireturn, 1) := by decide +kernel
theorem d_L_law_868 : decode code 868 = .ok (.goto 234, 3) := by decide +kernel
theorem d_L_law_871 : decode code 871 = .ok (.aload_n 1, 1) := by decide +kernel
theorem d_L_law_872 : decode code 872 = .ok (.aload_n 0, 1) := by decide +kernel
theorem d_L_law_873 : decode code 873 = .ok (.iload 4, 2) := by decide +kernel
theorem d_L_law_875 : decode code 875 = .ok (.iconst 1, 1) := by decide +kernel
theorem d_L_law_876 : decode code 876 = .ok (.iadd, 1) := by decide +kernel
end
section
theorem d_L_law_877 : decode code 877 = .ok (.iaload, 1) := by decide +kernel
theorem d_L_law_878 : decode code 878 = .ok (.aload_n 3, 1) := by decide +kernel
theorem d_L_law_879 : decode code 879 = .ok (.invokestatic 106, 3) := by decide +kernel
theorem d_L_law_882 : decode code 882 = .ok (.istore 5, 2) := by decide +kernel
theorem d_L_law_884 : decode code 884 = .ok (.aload_n 2, 1) := by decide +kernel
theorem d_L_law_885 : decode code 885 = .ok (.aload_n 0, 1) := by decide +kernel
theorem d_L_law_886 : decode code 886 = .ok (.iload 4, 2) := by decide +kernel
theorem d_L_law_888 : decode code 888 = .ok (.iconst 1, 1) := by decide +kernel
theorem d_L_law_889 : decode code 889 = .ok (.iadd, 1) := by decide +kernel
theorem d_L_law_890 : decode code 890 = .ok (.iaload, 1) := by decide +kernel
theorem d_L_law_891 : decode code 891 = .ok (.invokevirtual 108, 3) := by decide +kernel
theorem d_L_law_894 : decode code 894 = .ok (.istore 6, 2) := by decide +kernel
theorem d_L_law_896 : decode code 896 = .ok (.aload_n 2, 1) := by decide +kernel
theorem d_L_law_897 : decode code 897 = .ok (.invokevirtual 74, 3) := by decide +kernel
theorem d_L_law_900 : decode code 900 = .ok (.iload 5, 2) := by decide +kernel
theorem d_L_law_902 : decode code 902 = .ok (.if_icmp .eq 5, 3) := by decide +kernel
theorem d_L_law_905 : decode code 905 = .ok (.iconst 0, 1) := by decide +kernel
theorem d_L_law_906 : decode code 906 = .ok (.ireturn, 1) := by decide +kernel
theorem d_L_law_907 : decode code 907 = .ok (.iload 5, 2) := by decide +kernel
theorem d_L_law_909 : decode code 909 = .ok (.ifCond .ne 15, 3) := by decide +kernel
theorem d_L_law_912 : decode code 912 = .ok (.aload_n 3, 1) := by decide +kernel
theorem d_L_law_913 : decode code 913 = .ok (.iconst 0, 1) := by decide +kernel
theorem d_L_law_914 : decode code 914 = .ok (.laload, 1) := by decide +kernel
theorem d_L_law_915 : decode code 915 = .ok (.iload 6, 2) := by decide +kernel
theorem d_L_law_917 : decode code 917 = .ok (.i2l, 1) := by decide +kernel
theorem d_L_law_918 : decode code 918 = .ok (.lcmp, 1) := by decide +kernel
theorem d_L_law_919 : decode code 919 = .ok (.ifCond .eq 5, 3) := by decide +kernel
theorem d_L_law_922 : decode code 922 = .ok (.iconst 0, 1) := by decide +kernel
theorem d_L_law_923 : decode code 923 = .ok (.ireturn, 1) := by decide +kernel
theorem d_L_law_924 : decode code 924 = .ok (.goto 178, 3) := by decide +kernel
theorem d_L_law_927 : decode code 927 = .ok (.aload_n 1, 1) := by decide +kernel
theorem d_L_law_928 : decode code 928 = .ok (.aload_n 0, 1) := by decide +kernel
theorem d_L_law_929 : decode code 929 = .ok (.iload 4, 2) := by decide +kernel
theorem d_L_law_931 : decode code 931 = .ok (.iconst 1, 1) := by decide +kernel
theorem d_L_law_932 : decode code 932 = .ok (.iadd, 1) := by decide +kernel
theorem d_L_law_933 : decode code 933 = .ok (.iaload, 1) := by decide +kernel
theorem d_L_law_934 : decode code 934 = .ok (.aload_n 3, 1) := by decide +kernel
theorem d_L_law_935 : decode code 935 = .ok (.invokestatic 109, 3) := by decide +kernel
theorem d_L_law_938 : decode code 938 = .ok (.istore 5, 2) := by decide +kernel
theorem d_L_law_940 : decode code 940 = .ok (.aload_n 2, 1) := by decide +kernel
theorem d_L_law_941 : decode code 941 = .ok (.aload_n 0, 1) := by decide +kernel
theorem d_L_law_942 : decode code 942 = .ok (.iload 4, 2) := by decide +kernel
theorem d_L_law_944 : decode code 944 = .ok (.iconst 1, 1) := by decide +kernel
theorem d_L_law_945 : decode code 945 = .ok (.iadd, 1) := by decide +kernel
theorem d_L_law_946 : decode code 946 = .ok (.iaload, 1) := by decide +kernel
theorem d_L_law_947 : decode code 947 = .ok (.invokevirtual 111, 3) := by decide +kernel
theorem d_L_law_950 : decode code 950 = .ok (.istore 6, 2) := by decide +kernel
theorem d_L_law_952 : decode code 952 = .ok (.aload_n 2, 1) := by decide +kernel
theorem d_L_law_953 : decode code 953 = .ok (.invokevirtual 74, 3) := by decide +kernel
theorem d_L_law_956 : decode code 956 = .ok (.iload 5, 2) := by decide +kernel
theorem d_L_law_958 : decode code 958 = .ok (.if_icmp .eq 5, 3) := by decide +kernel
theorem d_L_law_961 : decode code 961 = .ok (.iconst 0, 1) := by decide +kernel
theorem d_L_law_962 : decode code 962 = .ok (.ireturn, 1) := by decide +kernel
theorem d_L_law_963 : decode code 963 = .ok (.iload 5, 2) := by decide +kernel
theorem d_L_law_965 : decode code 965 = .ok (.ifCond .ne 22, 3) := by decide +kernel
theorem d_L_law_968 : decode code 968 = .ok (.aload_n 3, 1) := by decide +kernel
theorem d_L_law_969 : decode code 969 = .ok (.iconst 0, 1) := by decide +kernel
theorem d_L_law_970 : decode code 970 = .ok (.laload, 1) := by decide +kernel
theorem d_L_law_971 : decode code 971 = .ok (.iload 6, 2) := by decide +kernel
theorem d_L_law_973 : decode code 973 = .ok (.ifCond .eq 7, 3) := by decide +kernel
end
section
theorem d_L_law_976 : decode code 976 = .ok (.lconst 1, 1) := by decide +kernel
theorem d_L_law_977 : decode code 977 = .ok (.goto 4, 3) := by decide +kernel
theorem d_L_law_980 : decode code 980 = .ok (.lconst 0, 1) := by decide +kernel
theorem d_L_law_981 : decode code 981 = .ok (.lcmp, 1) := by decide +kernel
theorem d_L_law_982 : decode code 982 = .ok (.ifCond .eq 5, 3) := by decide +kernel
theorem d_L_law_985 : decode code 985 = .ok (.iconst 0, 1) := by decide +kernel
theorem d_L_law_986 : decode code 986 = .ok (.ireturn, 1) := by decide +kernel
theorem d_L_law_987 : decode code 987 = .ok (.goto 115, 3) := by decide +kernel
theorem d_L_law_990 : decode code 990 = .ok (.aload_n 1, 1) := by decide +kernel
theorem d_L_law_991 : decode code 991 = .ok (.aload_n 0, 1) := by decide +kernel
theorem d_L_law_992 : decode code 992 = .ok (.iload 4, 2) := by decide +kernel
theorem d_L_law_994 : decode code 994 = .ok (.iconst 1, 1) := by decide +kernel
theorem d_L_law_995 : decode code 995 = .ok (.iadd, 1) := by decide +kernel
theorem d_L_law_996 : decode code 996 = .ok (.iaload, 1) := by decide +kernel
theorem d_L_law_997 : decode code 997 = .ok (.aload_n 3, 1) := by decide +kernel
theorem d_L_law_998 : decode code 998 = .ok (.invokestatic 112, 3) := by decide +kernel
theorem d_L_law_1001 : decode code 1001 = .ok (.istore 5, 2) := by decide +kernel
theorem d_L_law_1003 : decode code 1003 = .ok (.aload_n 2, 1) := by decide +kernel
theorem d_L_law_1004 : decode code 1004 = .ok (.aload_n 0, 1) := by decide +kernel
theorem d_L_law_1005 : decode code 1005 = .ok (.iload 4, 2) := by decide +kernel
theorem d_L_law_1007 : decode code 1007 = .ok (.iconst 1, 1) := by decide +kernel
theorem d_L_law_1008 : decode code 1008 = .ok (.iadd, 1) := by decide +kernel
theorem d_L_law_1009 : decode code 1009 = .ok (.iaload, 1) := by decide +kernel
theorem d_L_law_1010 : decode code 1010 = .ok (.invokevirtual 114, 3) := by decide +kernel
theorem d_L_law_1013 : decode code 1013 = .ok (.istore 6, 2) := by decide +kernel
theorem d_L_law_1015 : decode code 1015 = .ok (.aload_n 2, 1) := by decide +kernel
theorem d_L_law_1016 : decode code 1016 = .ok (.invokevirtual 74, 3) := by decide +kernel
theorem d_L_law_1019 : decode code 1019 = .ok (.iload 5, 2) := by decide +kernel
theorem d_L_law_1021 : decode code 1021 = .ok (.if_icmp .eq 5, 3) := by decide +kernel
theorem d_L_law_1024 : decode code 1024 = .ok (.iconst 0, 1) := by decide +kernel
theorem d_L_law_1025 : decode code 1025 = .ok (.ireturn, 1) := by decide +kernel
theorem d_L_law_1026 : decode code 1026 = .ok (.iload 5, 2) := by decide +kernel
theorem d_L_law_1028 : decode code 1028 = .ok (.ifCond .ne 15, 3) := by decide +kernel
theorem d_L_law_1031 : decode code 1031 = .ok (.aload_n 3, 1) := by decide +kernel
theorem d_L_law_1032 : decode code 1032 = .ok (.iconst 0, 1) := by decide +kernel
theorem d_L_law_1033 : decode code 1033 = .ok (.laload, 1) := by decide +kernel
theorem d_L_law_1034 : decode code 1034 = .ok (.iload 6, 2) := by decide +kernel
theorem d_L_law_1036 : decode code 1036 = .ok (.i2l, 1) := by decide +kernel
theorem d_L_law_1037 : decode code 1037 = .ok (.lcmp, 1) := by decide +kernel
theorem d_L_law_1038 : decode code 1038 = .ok (.ifCond .eq 5, 3) := by decide +kernel
theorem d_L_law_1041 : decode code 1041 = .ok (.iconst 0, 1) := by decide +kernel
theorem d_L_law_1042 : decode code 1042 = .ok (.ireturn, 1) := by decide +kernel
theorem d_L_law_1043 : decode code 1043 = .ok (.goto 59, 3) := by decide +kernel
theorem d_L_law_1046 : decode code 1046 = .ok (.aload_n 1, 1) := by decide +kernel
theorem d_L_law_1047 : decode code 1047 = .ok (.aload_n 0, 1) := by decide +kernel
theorem d_L_law_1048 : decode code 1048 = .ok (.iload 4, 2) := by decide +kernel
theorem d_L_law_1050 : decode code 1050 = .ok (.iconst 1, 1) := by decide +kernel
theorem d_L_law_1051 : decode code 1051 = .ok (.iadd, 1) := by decide +kernel
theorem d_L_law_1052 : decode code 1052 = .ok (.iaload, 1) := by decide +kernel
theorem d_L_law_1053 : decode code 1053 = .ok (.aload_n 3, 1) := by decide +kernel
theorem d_L_law_1054 : decode code 1054 = .ok (.invokestatic 115, 3) := by decide +kernel
theorem d_L_law_1057 : decode code 1057 = .ok (.istore 5, 2) := by decide +kernel
theorem d_L_law_1059 : decode code 1059 = .ok (.aload_n 2, 1) := by decide +kernel
theorem d_L_law_1060 : decode code 1060 = .ok (.aload_n 0, 1) := by decide +kernel
theorem d_L_law_1061 : decode code 1061 = .ok (.iload 4, 2) := by decide +kernel
theorem d_L_law_1063 : decode code 1063 = .ok (.iconst 1, 1) := by decide +kernel
theorem d_L_law_1064 : decode code 1064 = .ok (.iadd, 1) := by decide +kernel
theorem d_L_law_1065 : decode code 1065 = .ok (.iaload, 1) := by decide +kernel
theorem d_L_law_1066 : decode code 1066 = .ok (.invokevirtual 117, 3) := by decide +kernel
theorem d_L_law_1069 : decode code 1069 = .ok (.istore 6, 2) := by decide +kernel
end
section
theorem d_L_law_1071 : decode code 1071 = .ok (.aload_n 2, 1) := by decide +kernel
theorem d_L_law_1072 : decode code 1072 = .ok (.invokevirtual 74, 3) := by decide +kernel
theorem d_L_law_1075 : decode code 1075 = .ok (.iload 5, 2) := by decide +kernel
theorem d_L_law_1077 : decode code 1077 = .ok (.if_icmp .eq 5, 3) := by decide +kernel
theorem d_L_law_1080 : decode code 1080 = .ok (.iconst 0, 1) := by decide +kernel
theorem d_L_law_1081 : decode code 1081 = .ok (.ireturn, 1) := by decide +kernel
theorem d_L_law_1082 : decode code 1082 = .ok (.iload 5, 2) := by decide +kernel
theorem d_L_law_1084 : decode code 1084 = .ok (.ifCond .ne 15, 3) := by decide +kernel
theorem d_L_law_1087 : decode code 1087 = .ok (.aload_n 3, 1) := by decide +kernel
theorem d_L_law_1088 : decode code 1088 = .ok (.iconst 0, 1) := by decide +kernel
theorem d_L_law_1089 : decode code 1089 = .ok (.laload, 1) := by decide +kernel
theorem d_L_law_1090 : decode code 1090 = .ok (.iload 6, 2) := by decide +kernel
theorem d_L_law_1092 : decode code 1092 = .ok (.i2l, 1) := by decide +kernel
theorem d_L_law_1093 : decode code 1093 = .ok (.lcmp, 1) := by decide +kernel
theorem d_L_law_1094 : decode code 1094 = .ok (.ifCond .eq 5, 3) := by decide +kernel
theorem d_L_law_1097 : decode code 1097 = .ok (.iconst 0, 1) := by decide +kernel
theorem d_L_law_1098 : decode code 1098 = .ok (.ireturn, 1) := by decide +kernel
theorem d_L_law_1099 : decode code 1099 = .ok (.goto 3, 3) := by decide +kernel
theorem d_L_law_1102 : decode code 1102 = .ok (.iinc 4 7, 3) := by decide +kernel
theorem d_L_law_1105 : decode code 1105 = .ok (.goto (-1082), 3) := by decide +kernel
theorem d_L_law_1108 : decode code 1108 = .ok (.iconst 1, 1) := by decide +kernel
theorem d_L_law_1109 : decode code 1109 = .ok (.ireturn, 1) := by decide +kernel
end
section
/-! The law's own methods around the class's: out[0] holds the answer, the code says which throw was caught. -/
section XWR
/-- the law's row of one long -/
def xOut (D : va_G) (o : Nat) (cJ : ClassId) (f : Nat → Int64) (H : Heap) : Prop := va_P D xcl [(o, .inl (cJ, 1, .inr (.inl f)))] H
theorem xOut.kept {D : va_G} {o : Nat} {cJ : ClassId} {f : Nat → Int64} {H H1 : Heap} (h : xOut D o cJ f H) (ho : H1[o]? = H[o]?) : xOut D o cJ f H1 := by
  refine va_P.kept h (fun k z hk => ?_)
  match k with
  | 0 => cases Option.some.inj hk; exact ho
  | k + 1 => cases hk
theorem xOut.lt {D : va_G} {o : Nat} {cJ : ClassId} {f : Nat → Int64} {H : Heap} (h : xOut D o cJ f H) : o < H.size := (h 0 _ rfl).lt
theorem xOut.ge {D : va_G} {o : Nat} {cJ : ClassId} {f : Nat → Int64} {H H1 : Heap} (h : xOut D o cJ f H) (hk : ∀ (z : Nat) (cell : Cell), H[z]? = some cell → H1[z]? = some cell) : xOut D o cJ f H1 := by
  have hlt := h.lt
  exact h.kept (by rw [hk o _ (Array.getElem?_eq_getElem hlt), Array.getElem?_eq_getElem hlt])
/-- what the handlers' order stands on -/
def xNc (U : State) : Prop := va_Nc E_IO E_IA U ∧ va_Nc E_UO E_IA U
/-- the world of a method of the law -/
def wL (D : va_G) (a w o : Nat) (cJ cZ : ClassId) (β : Nat → Bool) (n q : Nat) (f : Nat → Int64) (U : State) : Prop := wXt D a w cJ cZ β n q U ∧ xOut D o cJ f U.heap ∧ xNc U
theorem wL.call {D : va_G} {a w o : Nat} {cJ cZ : ClassId} {β : Nat → Bool} {n q : Nat} {f : Nat → Int64} {s : State} {H : Heap} (hP : PX D a w cJ β n q H) (hK : va_K D xcl (xty cJ cZ) s) (hQ : ∀ U : State, U.heap = H → s.WarmedH U.vm → xq U) (hO : xOut D o cJ f H) (hN : xNc s) :
    (∀ U : State, U.heap = H → s.WarmedH U.vm → wL D a w o cJ cZ β n q f U) ∧ ∀ (U : State) (g : JFrame) (mk : MethodId) (z : Array Value), wL D a w o cJ cZ β n q f U → wL D a w o cJ cZ β n q f (U.calling g mk z) :=
  ⟨fun U hU hW => ⟨⟨(wX.call hP hK).1 U hU hW, hQ U hU hW⟩, by rw [hU]; exact hO, va_Nc.moved hW.alike hN.1, va_Nc.moved hW.alike hN.2⟩,
   fun U g mk z h => ⟨⟨(wX.call hP hK).2 U g mk z h.1.1, (xQc h.1.2).2 U g mk z h.1.2⟩, h.2.1, va_Nc.moved (u := U) (U := U.calling g mk z) (Vm.Alike.refl U.vm) h.2.2.1, va_Nc.moved (u := U) (U := U.calling g mk z) (Vm.Alike.refl U.vm) h.2.2.2⟩⟩
def xA3 (a w o : Nat) : Nat → Prop := fun q => xA2 a w q ∨ q = o
theorem xD3 {a w o : Nat} (h1 : a ≠ w) (h2 : o ≠ a) (h3 : o ≠ w) {e1 e2 e3 : va_E} : va_D (xA3 a w o) [(a, e1), (w, e2), (o, e3)] := by
  refine ⟨fun i j p q hi hj hpq => ?_, fun k q hk => ?_⟩
  · match i, j with
    | 0, 0 => rfl
    | 1, 1 => rfl
    | 2, 2 => rfl
    | 0, 1 => cases Option.some.inj hi; cases Option.some.inj hj; exact absurd hpq h1
    | 1, 0 => cases Option.some.inj hi; cases Option.some.inj hj; exact absurd hpq.symm h1
    | 0, 2 => cases Option.some.inj hi; cases Option.some.inj hj; exact absurd hpq.symm h2
    | 2, 0 => cases Option.some.inj hi; cases Option.some.inj hj; exact absurd hpq h2
    | 1, 2 => cases Option.some.inj hi; cases Option.some.inj hj; exact absurd hpq.symm h3
    | 2, 1 => cases Option.some.inj hi; cases Option.some.inj hj; exact absurd hpq h3
    | i + 3, _ => cases hi
    | 0, j + 3 => cases hj
    | 1, j + 3 => cases hj
    | 2, j + 3 => cases hj
  · match k with
    | 0 => cases Option.some.inj hk; exact Or.inl (Or.inl rfl)
    | 1 => cases Option.some.inj hk; exact Or.inl (Or.inr rfl)
    | 2 => cases Option.some.inj hk; exact Or.inr rfl
    | k + 3 => cases hk
/-- the end of a method of the law -/
def xWe (r : Nat × Int64 × xS) (D : va_G) (a w o : Nat) (cJ : ClassId) : Option Value → State → State → Prop := fun v _ t => v = some (.int (nI r.1)) ∧ PX D a w cJ r.2.2.1 r.2.2.2.1 r.2.2.2.2 t.heap ∧ ∃ f, xOut D o cJ f t.heap ∧ (r.1 = 0 → f 0 = r.2.1)
abbrev xWr (l : Launch) (y : MethodName) (ws : List Cond) (rm : Room) (As : List Value) (D : va_G) (a w o : Nat) (cJ cZ : ClassId) (β : Nat → Bool) (n q : Nat) (f : Nat → Int64) (r : Nat × Int64 × xS) : Prop :=
  xl_Met l y ws rm (va_Pc As (wL D a w o cJ cZ β n q f)) (xl_Q (xA3 a w o) (xWe r D a w o cJ) (fun _ _ _ => False)) (fun _ => 1) (fun _ => 6) (xA3 a w o)
def xEntry (h : Nat × Nat × Nat × Nat) : ExceptionTableEntry := ⟨h.1, h.2.1, h.2.2.1, h.2.2.2⟩
theorem xWr.of {l : Launch} {y : MethodName} {rm : Room} {As : List Value} {D : va_G} {a w o : Nat} {cJ cZ : ClassId} {β : Nat → Bool} {n q : Nat} {f : Nat → Int64} {r : Nat × Int64 × xS} {cc : ByteArray} {maxL : Nat} {hs : List (Nat × Nat × Nat × Nat)} (hy : plainName y.cls = true)
    (body : ∀ (p : Program) (e : Env) (s : State) (m : MethodId) (args : Array Value) (below : List Frame) (meth : Method) (c : Code), args = As.toArray → CallFix p m c cc maxL s args XT y.cls → meth.sig.returnType = some .int → meth.locks = false → c.exceptionTable.toList = hs.map xEntry → wL D a w o cJ cZ β n q f s →
      W p l e rm s m args below meth c s.heap [] 0 0 (xl_MQ below (xl_Q (xA3 a w o) (xWe r D a w o cJ) (fun _ _ _ => False)) args s (fun _ => 1) (fun _ => 6) (xA3 a w o)) (entryFrame m args maxL)) :
    xWr l y (Cond.codeWith y cc maxL (some .int) hs :: XT) rm As D a w o cJ cZ β n q f r := by
  refine xl_ofW (cc := cc) (maxL := maxL) (ret := some .int) hy (xl_isH rfl) ?_
  intro p e s m args below meth c s₁ B0 hml hv
  obtain ⟨hav, hB⟩ := hv
  have hts := atoms_spec (ws := Cond.codeWith y cc maxL (some .int) hs :: XT) B0.pre
  have htab : c.exceptionTable.toList = hs.map xEntry := by
    obtain ⟨m', meth', c', g0, g1, g2, -, -, g5, -, -, -⟩ := Cond.codeWith_spec (hts _ List.mem_cons_self)
    cases B0.named.symm.trans g0
    cases B0.method.symm.trans g1
    cases (Stand.of_body B0).code.symm.trans g2
    rw [← g5, List.map_map]
    exact (List.map_id' _).symm
  exact body p e s m args below meth c hav ⟨B0.exec, B0.bytes, hml, findClass_of_methodNamed B0.named, fun w hw => hts w (List.mem_cons_of_mem _ hw)⟩ B0.returns B0.notSynchronized htab hB
variable {p : Program} {l : Launch} {e : Env} {R : Room} {s : State} {m : MethodId} {args : Array Value} {below : List Frame} {meth : Method} {c : Code} {H : Heap} {locs : List Loc} {cells slots : Nat} {Q : State → Prop}
variable {cc : ByteArray} {nL : Nat} {own : String} {A : Nat → Prop} {Rt : Option Value → State → State → Prop} {Th : Addr → State → State → Prop} {pc : Nat} {ls : Array Slot} {rest : List Value}
theorem xw_ret {v : Int32} (E : CallFix p m c cc nL s args XT own) (hr : meth.sig.returnType = some .int) (hk : meth.locks = false) (hS : va_S A s.heap H locs) (hc : cells ≤ 1) (hs : slots ≤ 6) (h : ∀ t : State, t.heap = H → s.WarmedH t.vm → Rt (some (.int v)) s t) (hdg : decode cc pc = .ok (.ireturn, 1)) :
    W p l e R s m args below meth c H locs cells slots (xl_MQ below (xl_Q A Rt Th) args s (fun _ => 1) (fun _ => 6) A) (F0 m pc ls [.int v]) :=
  W.widen (k := 1) (n := 6) hc hs (xl_iret E.1 E.2.1 hr hk (fun _ => rfl) (fun _ => rfl) (fun t ht hW => xq_ret (hS.F ht) (h t ht hW)) hS.2.2 hdg)
variable {D : va_G} {a w o : Nat} {cJ cZ : ClassId} {β : Nat → Bool} {n q : Nat} {f : Nat → Int64}
/-- out[0] = x -/
theorem sl_out {x : Int64} (E : CallFix p m c cc nL s args XT own) (hK : va_K D xcl (xty cJ cZ) s) (hP : PX D a w cJ β n q H) (hO : xOut D o cJ f H) (h1 : a ≠ w) (h2 : o ≠ a) (h3 : o ≠ w) (hS : va_S (xA3 a w o) s.heap H locs) (hdg : decode cc pc = .ok (.lastore, 1))
    (kk : ∀ (H1 : Heap) (locs1 : List Loc) (f1 : Nat → Int64), f1 0 = x → PX D a w cJ β n q H1 → xOut D o cJ f1 H1 → va_S (xA3 a w o) s.heap H1 locs1 → W p l e R s m args below meth c H1 locs1 cells slots Q (F0 m (pc + 1) ls rest)) : W p l e R s m args below meth c H locs cells slots Q (F0 m pc ls (.long x :: .int 0 :: .ref o :: rest)) := by
  obtain ⟨g, hg, hP⟩ := hP
  have hP3 : va_P D xcl [(a, .inr (0, [.ref w, .int (nI n), .int (nI q)])), (w, .inl (cJ, 1024, .inr (.inl g))), (o, .inl (cJ, 1, .inr (.inl f)))] H := va_P.app hP hO
  refine va_last E.1 E.2.1 hK hP3 (xD3 h1 h2 h3) hS 2 0 rfl rfl (vp_in_nI (n := 0) (N := 1) (by decide) (by decide)) hdg (fun H1 locs1 hP1 _ hS1 => ?_)
  have hP1 : va_P D xcl [(a, .inr (0, [.ref w, .int (nI n), .int (nI q)])), (w, .inl (cJ, 1024, .inr (.inl g))), (o, .inl (cJ, 1, .inr (.inl (vp_updL f (0 : Int32).toNatClampNeg x))))] H1 := hP1
  exact kk H1 locs1 (vp_updL f (0 : Int32).toNatClampNeg x) (if_pos rfl) ⟨g, hg, hP1.sub [0, 1] rfl⟩ (hP1.sub [2] rfl) hS1
/-- the class threw, and the method of the law catches it: code r.1; nothing is lost -/
theorem xw_catch {r : Nat × Int64 × xS} {E' name : String} {x : Addr} {st t0 : State} (E : CallFix p m c cc nL s args XT R_L) (hal : s.vm.Alike t0.vm) (hst : st.heap = s.heap) (hT : xl_T E' x st.heap t0.heap t0.vm) (hP : PX D a w cJ β n q s.heap) (hO : xOut D o cJ f s.heap) (hr2 : r.2.2 = (β, n, q)) (hr1 : r.1 ≠ 0)
    (pre : List ExceptionTableEntry) (z : ExceptionTableEntry) (suf : List ExceptionTableEntry) (hsplit : c.exceptionTable.toList = pre ++ z :: suf) (hpass : ∀ y ∈ pre, xl_pass R_L E' pc args s y) (hz : covers z pc = true) (h0 : z.catchType ≠ 0) (hlink : Cond.classLink R_L z.catchType name ∈ XT) (hcast : Cond.castable E' name ∈ XT)
    (kk : (∀ (t : State), t.heap = t0.heap → ∀ v : Option Value, v = some (.int (nI r.1)) → xWe r D a w o cJ v s t) → W p l e R s m args below meth c t0.heap locs cells slots Q (F0 m z.handlerPc ls [.ref x])) :
    xl_W p l e R s m args below meth c t0.heap locs cells slots Q (F0 m pc ls rest) x := by
  obtain ⟨h1, h2, ce, h3, h4, h5⟩ := hT
  rw [hst] at h2
  refine xl_catch E.2.2.2.1 pre z suf hsplit hpass hz h0 (E.2.2.2.2 _ hlink) (E.2.2.2.2 _ hcast) h3 h5 (by rw [← hal.findClass]; exact h4) (kk (fun t ht v hv => ⟨hv, ?_, f, ?_, fun z => absurd z hr1⟩))
  · rw [hr2, ht]
    exact hP.ge h2
  · rw [ht]
    exact hO.ge h2
/-- a throw of the law's calls that came back as it should -/
theorem sk_write (σ : xS) (x : Int64) (k cd : Nat) : (sp_write σ x k cd).1 ≠ 0 → (sp_write σ x k cd).2.2 = σ := by
  unfold sp_write
  split <;> simp
theorem sk_put (σ : xS) (x : Int64) (k : Int32) : (sp_put σ x k).1 ≠ 0 → (sp_put σ x k).2.2 = σ := by
  unfold sp_put
  split
  · simp
  · exact sk_write σ _ _ _
theorem sk_putRange (σ : xS) (lo hi x : Int64) : (sp_putRange σ lo hi x).1 ≠ 0 → (sp_putRange σ lo hi x).2.2 = σ := by
  unfold sp_putRange
  split
  · simp
  · exact sk_write σ _ _ _
theorem sk_putLength (σ : xS) (k : Int32) : (sp_putLength σ k).1 ≠ 0 → (sp_putLength σ k).2.2 = σ := by
  unfold sp_putLength
  split
  · simp
  · dsimp only
    split <;> simp
theorem sk_putNumber (σ : xS) (kind : Int32) (x : Int64) : (sp_putNumber σ kind x).1 ≠ 0 → (sp_putNumber σ kind x).2.2 = σ := by
  unfold sp_putNumber
  split
  · simp
  · split
    · exact sk_write σ _ _ _
    · split <;> simp
theorem sk_fill (σ : xS) : (sp_fill σ).1 ≠ 0 → (sp_fill σ).2.2 = σ := sk_write σ _ _ _
theorem sk_take (σ : xS) (k : Int32) : (sp_take σ k).1 ≠ 0 → (sp_take σ k).2.2 = σ := by
  unfold sp_take
  split
  · simp
  · split <;> simp
theorem sk_takeRange (σ : xS) (lo hi : Int64) : (sp_takeRange σ lo hi).1 ≠ 0 → (sp_takeRange σ lo hi).2.2 = σ := by
  unfold sp_takeRange
  split
  · simp
  · split <;> simp
theorem sk_takeLength (σ : xS) : (sp_takeLength σ).1 ≠ 0 → (sp_takeLength σ).2.2 = σ := by
  unfold sp_takeLength
  split <;> simp
theorem sk_takeNumber (σ : xS) (kind : Int32) : (sp_takeNumber σ kind).1 ≠ 0 → (sp_takeNumber σ kind).2.2 = σ := by
  unfold sp_takeNumber
  split
  · simp
  · split <;> simp
theorem sk_go (σ : xS) (k : Int32) : (sp_go σ k).1 ≠ 0 → (sp_go σ k).2.2 = σ := by
  unfold sp_go
  split <;> simp
theorem sk_turn (σ : xS) (k : Int32) : (sp_turn σ k).1 ≠ 0 → (sp_turn σ k).2.2 = σ := by
  unfold sp_turn
  split <;> simp
theorem sk_cut (σ : xS) (k : Int32) : (sp_cut σ k).1 ≠ 0 → (sp_cut σ k).2.2 = σ := by
  unfold sp_cut
  split <;> simp
theorem sk_count (σ : xS) (k : Int32) : (sp_count σ k).1 ≠ 0 → (sp_count σ k).2.2 = σ := by
  unfold sp_count
  split
  · simp
  · split <;> simp
end XWR
section XWS
theorem sn_fill (σ : xS) : (sp_fill σ).1 ≠ 2 := by
  unfold sp_fill sp_write
  split <;> simp
theorem sn_takeLength (σ : xS) : (sp_takeLength σ).1 ≠ 2 := by
  unfold sp_takeLength
  split <;> simp
theorem sn_go (σ : xS) (k : Int32) : (sp_go σ k).1 ≠ 2 := by
  unfold sp_go
  split <;> simp
theorem sn_turn (σ : xS) (k : Int32) : (sp_turn σ k).1 ≠ 2 := by
  unfold sp_turn
  split <;> simp
theorem sn_cut (σ : xS) (k : Int32) : (sp_cut σ k).1 ≠ 2 := by
  unfold sp_cut
  split <;> simp
theorem sn_count (σ : xS) (k : Int32) : (sp_count σ k).1 ≠ 2 := by
  unfold sp_count
  split
  · simp
  · split <;> simp
/-- a turned bit is 0 or 1 -/
theorem sb_turn (σ : xS) (k : Int32) : (sp_turn σ k).2.1 = 0 ∨ (sp_turn σ k).2.1 = 1 := by
  unfold sp_turn
  split
  · exact Or.inl rfl
  · cases σ.1 k.toNatClampNeg
    · exact Or.inr rfl
    · exact Or.inl rfl
theorem xz_bool {σ : xS} {k z : Int32} (hz : z.toInt64 = (sp_turn σ k).2.1) (h : ¬ z = 0) : (1 : Int64) = (sp_turn σ k).2.1 := by
  rcases sb_turn σ k with g | g
  · rw [g] at hz
    refine absurd ?_ h
    rw [← Int32.toInt_inj]
    have h1 := congrArg Int64.toInt hz
    rw [Int32.toInt_toInt64] at h1
    exact h1
  · exact g.symm
end XWS
end
section
/-! The law's own thirteen methods. -/
section XL31
set_option maxHeartbeats 4000000 in
set_option maxRecDepth 100000 in
theorem l_put (l : Launch) (hL : l.stackTraces = false) (D : va_G) (a w o : Nat) (cJ cZ : ClassId) (β : Nat → Bool) (n q : Nat) (f : Nat → Int64) (hn : n ≤ 65536) (hq : q ≤ n) (hne : a ≠ w) (ho1 : o ≠ a) (ho2 : o ≠ w) (x : Int64) (k : Int32) : xWr l y_L_put w_L_put (xrm 7) [.ref a, .long x, .int k, .ref o] D a w o cJ cZ β n q f (sp_put (β, n, q) x k) := by
  refine xWr.of (by decide) ?_
  intro p e s m args below meth c hav E hr hk htab hwL
  subst hav
  obtain ⟨⟨⟨hP, hK⟩, hQ⟩, hO, hN⟩ := hwL
  have hS : va_S (xA3 a w o) s.heap s.heap [] := va_S.rf
  have hol := hO.lt
  have hsk := sk_put (β, n, q) x k
  refine xl_entry _ (Nat.le_of_ble_eq_true rfl) (fun ls hl => ?_)
  have hl : lv_has ls 6 [(0, .ref a), (1, .long x), (3, .int k), (4, .ref o)] := hl
  refine lv_aload E.1 E.2.1 d_L_put_0 (lv_at hl 3 rfl) ?_
  refine lv_iconst (v := 0) E.1 E.2.1 d_L_put_2 (by decide) ?_
  refine lv_aload_n E.1 E.2.1 d_L_put_3 rfl (lv_at hl 0 rfl) ?_
  refine lv_lload_n E.1 E.2.1 d_L_put_4 rfl (lv_at hl 1 rfl) ?_
  refine lv_iload_n E.1 E.2.1 d_L_put_5 rfl (lv_at hl 2 rfl) ?_
  refine xg_goes (xc_V E xGT (c_put l hL D a w cJ cZ β n q hn hne x k) vw_L_X_put (by decide) (wXt.call hP hK hQ) (PX.recv hP hK) rfl hl.1 rfl (Nat.le_of_ble_eq_true rfl) d_L_put_6) hS (fun q _ h => Or.inl h) (fun q h => Or.inl h) (fun v st t locs1 h0 hal hrt hS1 hz hkp => ?_) (fun xc st t locs1 h0 hal hth hS1 hz hkp => ?_)
  · obtain ⟨hr1, ⟨z, rfl, hzv⟩, hP1⟩ := hrt
    have hO1 : xOut D o cJ f t.heap := hO.kept (hkp o hol (fun z => z.elim ho1 ho2))
    generalize t.heap = H1 at hP1 hS1 hz hkp hO1 ⊢
    refine W.eq (g2 := F0 m 9 ls [.int z, .int 0, .ref o]) rfl ?_
    refine lv_i2l (v := z.toInt64) E.1 E.2.1 d_L_put_9 rfl ?_
    refine sl_out E hK hP1 hO1 hne ho1 ho2 hS1 d_L_put_10 (fun H2 locs2 f2 hf2 hP2 hO2 hS2 => ?_)
    refine lv_goto (tgt := 22) E.1 E.2.1 d_L_put_11 (by decide) ?_
    refine lv_iconst (v := 0) E.1 E.2.1 d_L_put_22 (by decide) ?_
    exact xw_ret E hr hk hS2 (by decide) (by decide) (fun t ht _ => ⟨by rw [hr1]; rfl, by rw [ht]; exact hP2, f2, by rw [ht]; exact hO2, fun _ => hf2.trans hzv⟩) d_L_put_23
  · skip
    generalize hsp : sp_put (β, n, q) x k = r at hth hsk ⊢
    rcases hth with ⟨hr1, hT⟩ | ⟨hr1, hT⟩
    · refine xw_catch (r := r) E hal h0 hT hP hO (hsk (by rw [hr1]; decide)) (by rw [hr1]; decide) [] ⟨0, 11, 14, 13⟩ [⟨0, 11, 18, 15⟩] htab (fun y hy => by cases hy) (by decide) (by decide) cl_L_IA ca_IA (fun hfin => ?_)
      refine lv_astore E.1 E.2.1 d_L_put_14 hl (by decide) rfl (fun ls hl => ?_)
      have hl : lv_has ls 6 [(5, .ref xc), (0, .ref a), (1, .long x), (3, .int k), (4, .ref o)] := hl
      refine lv_iconst (v := 1) E.1 E.2.1 d_L_put_16 (by decide) ?_
      exact xw_ret E hr hk hS1 (by decide) (by decide) (fun t ht _ => hfin t ht _ (by rw [hr1]; rfl)) d_L_put_17
    · refine xw_catch (r := r) E hal h0 hT hP hO (hsk (by rw [hr1]; decide)) (by rw [hr1]; decide) [⟨0, 11, 14, 13⟩] ⟨0, 11, 18, 15⟩ [] htab (fun y hy => by cases List.mem_singleton.mp hy; exact Or.inr ⟨by decide, E_IA, E.2.2.2.2 _ cl_L_IA, hN.1⟩) (by decide) (by decide) cl_L_IO ca_IO (fun hfin => ?_)
      refine lv_astore E.1 E.2.1 d_L_put_18 hl (by decide) rfl (fun ls hl => ?_)
      have hl : lv_has ls 6 [(5, .ref xc), (0, .ref a), (1, .long x), (3, .int k), (4, .ref o)] := hl
      refine lv_iconst (v := 2) E.1 E.2.1 d_L_put_20 (by decide) ?_
      exact xw_ret E hr hk hS1 (by decide) (by decide) (fun t ht _ => hfin t ht _ (by rw [hr1]; rfl)) d_L_put_21
set_option maxHeartbeats 4000000 in
set_option maxRecDepth 100000 in
theorem l_putRange (l : Launch) (hL : l.stackTraces = false) (D : va_G) (a w o : Nat) (cJ cZ : ClassId) (β : Nat → Bool) (n q : Nat) (f : Nat → Int64) (hn : n ≤ 65536) (hq : q ≤ n) (hne : a ≠ w) (ho1 : o ≠ a) (ho2 : o ≠ w) (lo : Int64) (hi : Int64) (x : Int64) : xWr l y_L_putRange w_L_putRange (xrm 7) [.ref a, .long lo, .long hi, .long x, .ref o] D a w o cJ cZ β n q f (sp_putRange (β, n, q) lo hi x) := by
  refine xWr.of (by decide) ?_
  intro p e s m args below meth c hav E hr hk htab hwL
  subst hav
  obtain ⟨⟨⟨hP, hK⟩, hQ⟩, hO, hN⟩ := hwL
  have hS : va_S (xA3 a w o) s.heap s.heap [] := va_S.rf
  have hol := hO.lt
  have hsk := sk_putRange (β, n, q) lo hi x
  refine xl_entry _ (Nat.le_of_ble_eq_true rfl) (fun ls hl => ?_)
  have hl : lv_has ls 9 [(0, .ref a), (1, .long lo), (3, .long hi), (5, .long x), (7, .ref o)] := hl
  refine lv_aload E.1 E.2.1 d_L_putRange_0 (lv_at hl 4 rfl) ?_
  refine lv_iconst (v := 0) E.1 E.2.1 d_L_putRange_2 (by decide) ?_
  refine lv_aload_n E.1 E.2.1 d_L_putRange_3 rfl (lv_at hl 0 rfl) ?_
  refine lv_lload_n E.1 E.2.1 d_L_putRange_4 rfl (lv_at hl 1 rfl) ?_
  refine lv_lload_n E.1 E.2.1 d_L_putRange_5 rfl (lv_at hl 2 rfl) ?_
  refine lv_lload E.1 E.2.1 d_L_putRange_6 (lv_at hl 3 rfl) ?_
  refine xg_goes (xc_V E xGT (c_putRange l hL D a w cJ cZ β n q hn hne lo hi x) vw_L_X_putRange (by decide) (wXt.call hP hK hQ) (PX.recv hP hK) rfl hl.1 rfl (Nat.le_of_ble_eq_true rfl) d_L_putRange_8) hS (fun q _ h => Or.inl h) (fun q h => Or.inl h) (fun v st t locs1 h0 hal hrt hS1 hz hkp => ?_) (fun xc st t locs1 h0 hal hth hS1 hz hkp => ?_)
  · obtain ⟨hr1, ⟨z, rfl, hzv⟩, hP1⟩ := hrt
    have hO1 : xOut D o cJ f t.heap := hO.kept (hkp o hol (fun z => z.elim ho1 ho2))
    generalize t.heap = H1 at hP1 hS1 hz hkp hO1 ⊢
    refine W.eq (g2 := F0 m 11 ls [.int z, .int 0, .ref o]) rfl ?_
    refine lv_i2l (v := z.toInt64) E.1 E.2.1 d_L_putRange_11 rfl ?_
    refine sl_out E hK hP1 hO1 hne ho1 ho2 hS1 d_L_putRange_12 (fun H2 locs2 f2 hf2 hP2 hO2 hS2 => ?_)
    refine lv_goto (tgt := 24) E.1 E.2.1 d_L_putRange_13 (by decide) ?_
    refine lv_iconst (v := 0) E.1 E.2.1 d_L_putRange_24 (by decide) ?_
    exact xw_ret E hr hk hS2 (by decide) (by decide) (fun t ht _ => ⟨by rw [hr1]; rfl, by rw [ht]; exact hP2, f2, by rw [ht]; exact hO2, fun _ => hf2.trans hzv⟩) d_L_putRange_25
  · skip
    generalize hsp : sp_putRange (β, n, q) lo hi x = r at hth hsk ⊢
    rcases hth with ⟨hr1, hT⟩ | ⟨hr1, hT⟩
    · refine xw_catch (r := r) E hal h0 hT hP hO (hsk (by rw [hr1]; decide)) (by rw [hr1]; decide) [] ⟨0, 13, 16, 13⟩ [⟨0, 13, 20, 15⟩] htab (fun y hy => by cases hy) (by decide) (by decide) cl_L_IA ca_IA (fun hfin => ?_)
      refine lv_astore E.1 E.2.1 d_L_putRange_16 hl (by decide) rfl (fun ls hl => ?_)
      have hl : lv_has ls 9 [(8, .ref xc), (0, .ref a), (1, .long lo), (3, .long hi), (5, .long x), (7, .ref o)] := hl
      refine lv_iconst (v := 1) E.1 E.2.1 d_L_putRange_18 (by decide) ?_
      exact xw_ret E hr hk hS1 (by decide) (by decide) (fun t ht _ => hfin t ht _ (by rw [hr1]; rfl)) d_L_putRange_19
    · refine xw_catch (r := r) E hal h0 hT hP hO (hsk (by rw [hr1]; decide)) (by rw [hr1]; decide) [⟨0, 13, 16, 13⟩] ⟨0, 13, 20, 15⟩ [] htab (fun y hy => by cases List.mem_singleton.mp hy; exact Or.inr ⟨by decide, E_IA, E.2.2.2.2 _ cl_L_IA, hN.1⟩) (by decide) (by decide) cl_L_IO ca_IO (fun hfin => ?_)
      refine lv_astore E.1 E.2.1 d_L_putRange_20 hl (by decide) rfl (fun ls hl => ?_)
      have hl : lv_has ls 9 [(8, .ref xc), (0, .ref a), (1, .long lo), (3, .long hi), (5, .long x), (7, .ref o)] := hl
      refine lv_iconst (v := 2) E.1 E.2.1 d_L_putRange_22 (by decide) ?_
      exact xw_ret E hr hk hS1 (by decide) (by decide) (fun t ht _ => hfin t ht _ (by rw [hr1]; rfl)) d_L_putRange_23
set_option maxHeartbeats 4000000 in
set_option maxRecDepth 100000 in
theorem l_putLength (l : Launch) (hL : l.stackTraces = false) (D : va_G) (a w o : Nat) (cJ cZ : ClassId) (β : Nat → Bool) (n q : Nat) (f : Nat → Int64) (hn : n ≤ 65536) (hq : q ≤ n) (hne : a ≠ w) (ho1 : o ≠ a) (ho2 : o ≠ w) (k : Int32) : xWr l y_L_putLength w_L_putLength (xrm 7) [.ref a, .int k, .ref o] D a w o cJ cZ β n q f (sp_putLength (β, n, q) k) := by
  refine xWr.of (by decide) ?_
  intro p e s m args below meth c hav E hr hk htab hwL
  subst hav
  obtain ⟨⟨⟨hP, hK⟩, hQ⟩, hO, hN⟩ := hwL
  have hS : va_S (xA3 a w o) s.heap s.heap [] := va_S.rf
  have hol := hO.lt
  have hsk := sk_putLength (β, n, q) k
  refine xl_entry _ (Nat.le_of_ble_eq_true rfl) (fun ls hl => ?_)
  have hl : lv_has ls 4 [(0, .ref a), (1, .int k), (2, .ref o)] := hl
  refine lv_aload_n E.1 E.2.1 d_L_putLength_0 rfl (lv_at hl 2 rfl) ?_
  refine lv_iconst (v := 0) E.1 E.2.1 d_L_putLength_1 (by decide) ?_
  refine lv_aload_n E.1 E.2.1 d_L_putLength_2 rfl (lv_at hl 0 rfl) ?_
  refine lv_iload_n E.1 E.2.1 d_L_putLength_3 rfl (lv_at hl 1 rfl) ?_
  refine xg_goes (xc_V E xGT (c_putLength l hL D a w cJ cZ β n q hn hne k) vw_L_X_putLength (by decide) (wXt.call hP hK hQ) (PX.recv hP hK) rfl hl.1 rfl (Nat.le_of_ble_eq_true rfl) d_L_putLength_4) hS (fun q _ h => Or.inl h) (fun q h => Or.inl h) (fun v st t locs1 h0 hal hrt hS1 hz hkp => ?_) (fun xc st t locs1 h0 hal hth hS1 hz hkp => ?_)
  · obtain ⟨hr1, ⟨z, rfl, hzv⟩, hP1⟩ := hrt
    have hO1 : xOut D o cJ f t.heap := hO.kept (hkp o hol (fun z => z.elim ho1 ho2))
    generalize t.heap = H1 at hP1 hS1 hz hkp hO1 ⊢
    refine W.eq (g2 := F0 m 7 ls [.int z, .int 0, .ref o]) rfl ?_
    refine lv_i2l (v := z.toInt64) E.1 E.2.1 d_L_putLength_7 rfl ?_
    refine sl_out E hK hP1 hO1 hne ho1 ho2 hS1 d_L_putLength_8 (fun H2 locs2 f2 hf2 hP2 hO2 hS2 => ?_)
    refine lv_goto (tgt := 18) E.1 E.2.1 d_L_putLength_9 (by decide) ?_
    refine lv_iconst (v := 0) E.1 E.2.1 d_L_putLength_18 (by decide) ?_
    exact xw_ret E hr hk hS2 (by decide) (by decide) (fun t ht _ => ⟨by rw [hr1]; rfl, by rw [ht]; exact hP2, f2, by rw [ht]; exact hO2, fun _ => hf2.trans hzv⟩) d_L_putLength_19
  · skip
    generalize hsp : sp_putLength (β, n, q) k = r at hth hsk ⊢
    rcases hth with ⟨hr1, hT⟩ | ⟨hr1, hT⟩
    · refine xw_catch (r := r) E hal h0 hT hP hO (hsk (by rw [hr1]; decide)) (by rw [hr1]; decide) [] ⟨0, 9, 12, 13⟩ [⟨0, 9, 15, 15⟩] htab (fun y hy => by cases hy) (by decide) (by decide) cl_L_IA ca_IA (fun hfin => ?_)
      refine lv_astore_n E.1 E.2.1 d_L_putLength_12 rfl hl (by decide) rfl (fun ls hl => ?_)
      have hl : lv_has ls 4 [(3, .ref xc), (0, .ref a), (1, .int k), (2, .ref o)] := hl
      refine lv_iconst (v := 1) E.1 E.2.1 d_L_putLength_13 (by decide) ?_
      exact xw_ret E hr hk hS1 (by decide) (by decide) (fun t ht _ => hfin t ht _ (by rw [hr1]; rfl)) d_L_putLength_14
    · refine xw_catch (r := r) E hal h0 hT hP hO (hsk (by rw [hr1]; decide)) (by rw [hr1]; decide) [⟨0, 9, 12, 13⟩] ⟨0, 9, 15, 15⟩ [] htab (fun y hy => by cases List.mem_singleton.mp hy; exact Or.inr ⟨by decide, E_IA, E.2.2.2.2 _ cl_L_IA, hN.1⟩) (by decide) (by decide) cl_L_IO ca_IO (fun hfin => ?_)
      refine lv_astore_n E.1 E.2.1 d_L_putLength_15 rfl hl (by decide) rfl (fun ls hl => ?_)
      have hl : lv_has ls 4 [(3, .ref xc), (0, .ref a), (1, .int k), (2, .ref o)] := hl
      refine lv_iconst (v := 2) E.1 E.2.1 d_L_putLength_16 (by decide) ?_
      exact xw_ret E hr hk hS1 (by decide) (by decide) (fun t ht _ => hfin t ht _ (by rw [hr1]; rfl)) d_L_putLength_17
set_option maxHeartbeats 4000000 in
set_option maxRecDepth 100000 in
theorem l_putNumber (l : Launch) (hL : l.stackTraces = false) (D : va_G) (a w o : Nat) (cJ cZ : ClassId) (β : Nat → Bool) (n q : Nat) (f : Nat → Int64) (hn : n ≤ 65536) (hq : q ≤ n) (hne : a ≠ w) (ho1 : o ≠ a) (ho2 : o ≠ w) (kind : Int32) (x : Int64) : xWr l y_L_putNumber w_L_putNumber (xrm 7) [.ref a, .int kind, .long x, .ref o] D a w o cJ cZ β n q f (sp_putNumber (β, n, q) kind x) := by
  refine xWr.of (by decide) ?_
  intro p e s m args below meth c hav E hr hk htab hwL
  subst hav
  obtain ⟨⟨⟨hP, hK⟩, hQ⟩, hO, hN⟩ := hwL
  have hS : va_S (xA3 a w o) s.heap s.heap [] := va_S.rf
  have hol := hO.lt
  have hsk := sk_putNumber (β, n, q) kind x
  refine xl_entry _ (Nat.le_of_ble_eq_true rfl) (fun ls hl => ?_)
  have hl : lv_has ls 6 [(0, .ref a), (1, .int kind), (2, .long x), (4, .ref o)] := hl
  refine lv_aload E.1 E.2.1 d_L_putNumber_0 (lv_at hl 3 rfl) ?_
  refine lv_iconst (v := 0) E.1 E.2.1 d_L_putNumber_2 (by decide) ?_
  refine lv_aload_n E.1 E.2.1 d_L_putNumber_3 rfl (lv_at hl 0 rfl) ?_
  refine lv_iload_n E.1 E.2.1 d_L_putNumber_4 rfl (lv_at hl 1 rfl) ?_
  refine lv_lload_n E.1 E.2.1 d_L_putNumber_5 rfl (lv_at hl 2 rfl) ?_
  refine xg_goes (xc_V E xGT (c_putNumber l hL D a w cJ cZ β n q hn hne kind x) vw_L_X_putNumber (by decide) (wXt.call hP hK hQ) (PX.recv hP hK) rfl hl.1 rfl (Nat.le_of_ble_eq_true rfl) d_L_putNumber_6) hS (fun q _ h => Or.inl h) (fun q h => Or.inl h) (fun v st t locs1 h0 hal hrt hS1 hz hkp => ?_) (fun xc st t locs1 h0 hal hth hS1 hz hkp => ?_)
  · obtain ⟨hr1, ⟨z, rfl, hzv⟩, hP1⟩ := hrt
    have hO1 : xOut D o cJ f t.heap := hO.kept (hkp o hol (fun z => z.elim ho1 ho2))
    generalize t.heap = H1 at hP1 hS1 hz hkp hO1 ⊢
    refine W.eq (g2 := F0 m 9 ls [.int z, .int 0, .ref o]) rfl ?_
    refine lv_i2l (v := z.toInt64) E.1 E.2.1 d_L_putNumber_9 rfl ?_
    refine sl_out E hK hP1 hO1 hne ho1 ho2 hS1 d_L_putNumber_10 (fun H2 locs2 f2 hf2 hP2 hO2 hS2 => ?_)
    refine lv_goto (tgt := 22) E.1 E.2.1 d_L_putNumber_11 (by decide) ?_
    refine lv_iconst (v := 0) E.1 E.2.1 d_L_putNumber_22 (by decide) ?_
    exact xw_ret E hr hk hS2 (by decide) (by decide) (fun t ht _ => ⟨by rw [hr1]; rfl, by rw [ht]; exact hP2, f2, by rw [ht]; exact hO2, fun _ => hf2.trans hzv⟩) d_L_putNumber_23
  · skip
    generalize hsp : sp_putNumber (β, n, q) kind x = r at hth hsk ⊢
    rcases hth with ⟨hr1, hT⟩ | ⟨hr1, hT⟩
    · refine xw_catch (r := r) E hal h0 hT hP hO (hsk (by rw [hr1]; decide)) (by rw [hr1]; decide) [] ⟨0, 11, 14, 13⟩ [⟨0, 11, 18, 15⟩] htab (fun y hy => by cases hy) (by decide) (by decide) cl_L_IA ca_IA (fun hfin => ?_)
      refine lv_astore E.1 E.2.1 d_L_putNumber_14 hl (by decide) rfl (fun ls hl => ?_)
      have hl : lv_has ls 6 [(5, .ref xc), (0, .ref a), (1, .int kind), (2, .long x), (4, .ref o)] := hl
      refine lv_iconst (v := 1) E.1 E.2.1 d_L_putNumber_16 (by decide) ?_
      exact xw_ret E hr hk hS1 (by decide) (by decide) (fun t ht _ => hfin t ht _ (by rw [hr1]; rfl)) d_L_putNumber_17
    · refine xw_catch (r := r) E hal h0 hT hP hO (hsk (by rw [hr1]; decide)) (by rw [hr1]; decide) [⟨0, 11, 14, 13⟩] ⟨0, 11, 18, 15⟩ [] htab (fun y hy => by cases List.mem_singleton.mp hy; exact Or.inr ⟨by decide, E_IA, E.2.2.2.2 _ cl_L_IA, hN.1⟩) (by decide) (by decide) cl_L_IO ca_IO (fun hfin => ?_)
      refine lv_astore E.1 E.2.1 d_L_putNumber_18 hl (by decide) rfl (fun ls hl => ?_)
      have hl : lv_has ls 6 [(5, .ref xc), (0, .ref a), (1, .int kind), (2, .long x), (4, .ref o)] := hl
      refine lv_iconst (v := 2) E.1 E.2.1 d_L_putNumber_20 (by decide) ?_
      exact xw_ret E hr hk hS1 (by decide) (by decide) (fun t ht _ => hfin t ht _ (by rw [hr1]; rfl)) d_L_putNumber_21
set_option maxHeartbeats 4000000 in
set_option maxRecDepth 100000 in
theorem l_fill (l : Launch) (hL : l.stackTraces = false) (D : va_G) (a w o : Nat) (cJ cZ : ClassId) (β : Nat → Bool) (n q : Nat) (f : Nat → Int64) (hn : n ≤ 65536) (hq : q ≤ n) (hne : a ≠ w) (ho1 : o ≠ a) (ho2 : o ≠ w) : xWr l y_L_fill w_L_fill (xrm 7) [.ref a, .ref o] D a w o cJ cZ β n q f (sp_fill (β, n, q)) := by
  refine xWr.of (by decide) ?_
  intro p e s m args below meth c hav E hr hk htab hwL
  subst hav
  obtain ⟨⟨⟨hP, hK⟩, hQ⟩, hO, hN⟩ := hwL
  have hS : va_S (xA3 a w o) s.heap s.heap [] := va_S.rf
  have hol := hO.lt
  have hsk := sk_fill (β, n, q)
  refine xl_entry _ (Nat.le_of_ble_eq_true rfl) (fun ls hl => ?_)
  have hl : lv_has ls 3 [(0, .ref a), (1, .ref o)] := hl
  refine lv_aload_n E.1 E.2.1 d_L_fill_0 rfl (lv_at hl 1 rfl) ?_
  refine lv_iconst (v := 0) E.1 E.2.1 d_L_fill_1 (by decide) ?_
  refine lv_aload_n E.1 E.2.1 d_L_fill_2 rfl (lv_at hl 0 rfl) ?_
  refine xg_goes (xc_V E xGT (c_fill l hL D a w cJ cZ β n q hn hne) vw_L_X_fill (by decide) (wXt.call hP hK hQ) (PX.recv hP hK) rfl hl.1 rfl (Nat.le_of_ble_eq_true rfl) d_L_fill_3) hS (fun q _ h => Or.inl h) (fun q h => Or.inl h) (fun v st t locs1 h0 hal hrt hS1 hz hkp => ?_) (fun xc st t locs1 h0 hal hth hS1 hz hkp => ?_)
  · obtain ⟨hr1, ⟨z, rfl, hzv⟩, hP1⟩ := hrt
    have hO1 : xOut D o cJ f t.heap := hO.kept (hkp o hol (fun z => z.elim ho1 ho2))
    generalize t.heap = H1 at hP1 hS1 hz hkp hO1 ⊢
    refine W.eq (g2 := F0 m 6 ls [.int z, .int 0, .ref o]) rfl ?_
    refine lv_i2l (v := z.toInt64) E.1 E.2.1 d_L_fill_6 rfl ?_
    refine sl_out E hK hP1 hO1 hne ho1 ho2 hS1 d_L_fill_7 (fun H2 locs2 f2 hf2 hP2 hO2 hS2 => ?_)
    refine lv_goto (tgt := 14) E.1 E.2.1 d_L_fill_8 (by decide) ?_
    refine lv_iconst (v := 0) E.1 E.2.1 d_L_fill_14 (by decide) ?_
    exact xw_ret E hr hk hS2 (by decide) (by decide) (fun t ht _ => ⟨by rw [hr1]; rfl, by rw [ht]; exact hP2, f2, by rw [ht]; exact hO2, fun _ => hf2.trans hzv⟩) d_L_fill_15
  · skip
    generalize hsp : sp_fill (β, n, q) = r at hth hsk ⊢
    rcases hth with ⟨hr1, hT⟩ | ⟨hr1, hT⟩
    · refine xw_catch (r := r) E hal h0 hT hP hO (hsk (by rw [hr1]; decide)) (by rw [hr1]; decide) [] ⟨0, 8, 11, 15⟩ [] htab (fun y hy => by cases hy) (by decide) (by decide) cl_L_IO ca_IO (fun hfin => ?_)
      refine lv_astore_n E.1 E.2.1 d_L_fill_11 rfl hl (by decide) rfl (fun ls hl => ?_)
      have hl : lv_has ls 3 [(2, .ref xc), (0, .ref a), (1, .ref o)] := hl
      refine lv_iconst (v := 1) E.1 E.2.1 d_L_fill_12 (by decide) ?_
      exact xw_ret E hr hk hS1 (by decide) (by decide) (fun t ht _ => hfin t ht _ (by rw [hr1]; rfl)) d_L_fill_13
    · exact absurd hr1 (by rw [← hsp]; exact sn_fill (β, n, q))
set_option maxHeartbeats 4000000 in
set_option maxRecDepth 100000 in
theorem l_take (l : Launch) (hL : l.stackTraces = false) (D : va_G) (a w o : Nat) (cJ cZ : ClassId) (β : Nat → Bool) (n q : Nat) (f : Nat → Int64) (hn : n ≤ 65536) (hq : q ≤ n) (hne : a ≠ w) (ho1 : o ≠ a) (ho2 : o ≠ w) (k : Int32) : xWr l y_L_take w_L_take (xrm 7) [.ref a, .int k, .ref o] D a w o cJ cZ β n q f (sp_take (β, n, q) k) := by
  refine xWr.of (by decide) ?_
  intro p e s m args below meth c hav E hr hk htab hwL
  subst hav
  obtain ⟨⟨⟨hP, hK⟩, hQ⟩, hO, hN⟩ := hwL
  have hS : va_S (xA3 a w o) s.heap s.heap [] := va_S.rf
  have hol := hO.lt
  have hsk := sk_take (β, n, q) k
  refine xl_entry _ (Nat.le_of_ble_eq_true rfl) (fun ls hl => ?_)
  have hl : lv_has ls 4 [(0, .ref a), (1, .int k), (2, .ref o)] := hl
  refine lv_aload_n E.1 E.2.1 d_L_take_0 rfl (lv_at hl 2 rfl) ?_
  refine lv_iconst (v := 0) E.1 E.2.1 d_L_take_1 (by decide) ?_
  refine lv_aload_n E.1 E.2.1 d_L_take_2 rfl (lv_at hl 0 rfl) ?_
  refine lv_iload_n E.1 E.2.1 d_L_take_3 rfl (lv_at hl 1 rfl) ?_
  refine xg_goes (xc_V E xGT (c_take l hL D a w cJ cZ β n q hn hq hne k) vw_L_X_take (by decide) (wXt.call hP hK hQ) (PX.recv hP hK) rfl hl.1 rfl (Nat.le_of_ble_eq_true rfl) d_L_take_4) hS (fun q _ h => Or.inl h) (fun q h => Or.inl h) (fun v st t locs1 h0 hal hrt hS1 hz hkp => ?_) (fun xc st t locs1 h0 hal hth hS1 hz hkp => ?_)
  · obtain ⟨hr1, rfl, hP1⟩ := hrt
    have hO1 : xOut D o cJ f t.heap := hO.kept (hkp o hol (fun z => z.elim ho1 ho2))
    generalize t.heap = H1 at hP1 hS1 hz hkp hO1 ⊢
    refine W.eq (g2 := F0 m 7 ls [.long (sp_take (β, n, q) k).2.1, .int 0, .ref o]) rfl ?_
    refine sl_out E hK hP1 hO1 hne ho1 ho2 hS1 d_L_take_7 (fun H2 locs2 f2 hf2 hP2 hO2 hS2 => ?_)
    refine lv_goto (tgt := 17) E.1 E.2.1 d_L_take_8 (by decide) ?_
    refine lv_iconst (v := 0) E.1 E.2.1 d_L_take_17 (by decide) ?_
    exact xw_ret E hr hk hS2 (by decide) (by decide) (fun t ht _ => ⟨by rw [hr1]; rfl, by rw [ht]; exact hP2, f2, by rw [ht]; exact hO2, fun _ => hf2⟩) d_L_take_18
  · skip
    generalize hsp : sp_take (β, n, q) k = r at hth hsk ⊢
    rcases hth with ⟨hr1, hT⟩ | ⟨hr1, hT⟩
    · refine xw_catch (r := r) E hal h0 hT hP hO (hsk (by rw [hr1]; decide)) (by rw [hr1]; decide) [] ⟨0, 8, 11, 13⟩ [⟨0, 8, 14, 37⟩] htab (fun y hy => by cases hy) (by decide) (by decide) cl_L_IA ca_IA (fun hfin => ?_)
      refine lv_astore_n E.1 E.2.1 d_L_take_11 rfl hl (by decide) rfl (fun ls hl => ?_)
      have hl : lv_has ls 4 [(3, .ref xc), (0, .ref a), (1, .int k), (2, .ref o)] := hl
      refine lv_iconst (v := 1) E.1 E.2.1 d_L_take_12 (by decide) ?_
      exact xw_ret E hr hk hS1 (by decide) (by decide) (fun t ht _ => hfin t ht _ (by rw [hr1]; rfl)) d_L_take_13
    · refine xw_catch (r := r) E hal h0 hT hP hO (hsk (by rw [hr1]; decide)) (by rw [hr1]; decide) [⟨0, 8, 11, 13⟩] ⟨0, 8, 14, 37⟩ [] htab (fun y hy => by cases List.mem_singleton.mp hy; exact Or.inr ⟨by decide, E_IA, E.2.2.2.2 _ cl_L_IA, hN.2⟩) (by decide) (by decide) cl_L_UO ca_UO (fun hfin => ?_)
      refine lv_astore_n E.1 E.2.1 d_L_take_14 rfl hl (by decide) rfl (fun ls hl => ?_)
      have hl : lv_has ls 4 [(3, .ref xc), (0, .ref a), (1, .int k), (2, .ref o)] := hl
      refine lv_iconst (v := 2) E.1 E.2.1 d_L_take_15 (by decide) ?_
      exact xw_ret E hr hk hS1 (by decide) (by decide) (fun t ht _ => hfin t ht _ (by rw [hr1]; rfl)) d_L_take_16
set_option maxHeartbeats 4000000 in
set_option maxRecDepth 100000 in
theorem l_takeRange (l : Launch) (hL : l.stackTraces = false) (D : va_G) (a w o : Nat) (cJ cZ : ClassId) (β : Nat → Bool) (n q : Nat) (f : Nat → Int64) (hn : n ≤ 65536) (hq : q ≤ n) (hne : a ≠ w) (ho1 : o ≠ a) (ho2 : o ≠ w) (lo : Int64) (hi : Int64) : xWr l y_L_takeRange w_L_takeRange (xrm 7) [.ref a, .long lo, .long hi, .ref o] D a w o cJ cZ β n q f (sp_takeRange (β, n, q) lo hi) := by
  refine xWr.of (by decide) ?_
  intro p e s m args below meth c hav E hr hk htab hwL
  subst hav
  obtain ⟨⟨⟨hP, hK⟩, hQ⟩, hO, hN⟩ := hwL
  have hS : va_S (xA3 a w o) s.heap s.heap [] := va_S.rf
  have hol := hO.lt
  have hsk := sk_takeRange (β, n, q) lo hi
  refine xl_entry _ (Nat.le_of_ble_eq_true rfl) (fun ls hl => ?_)
  have hl : lv_has ls 7 [(0, .ref a), (1, .long lo), (3, .long hi), (5, .ref o)] := hl
  refine lv_aload E.1 E.2.1 d_L_takeRange_0 (lv_at hl 3 rfl) ?_
  refine lv_iconst (v := 0) E.1 E.2.1 d_L_takeRange_2 (by decide) ?_
  refine lv_aload_n E.1 E.2.1 d_L_takeRange_3 rfl (lv_at hl 0 rfl) ?_
  refine lv_lload_n E.1 E.2.1 d_L_takeRange_4 rfl (lv_at hl 1 rfl) ?_
  refine lv_lload_n E.1 E.2.1 d_L_takeRange_5 rfl (lv_at hl 2 rfl) ?_
  refine xg_goes (xc_V E xGT (c_takeRange l hL D a w cJ cZ β n q hn hq hne lo hi) vw_L_X_takeRange (by decide) (wXt.call hP hK hQ) (PX.recv hP hK) rfl hl.1 rfl (Nat.le_of_ble_eq_true rfl) d_L_takeRange_6) hS (fun q _ h => Or.inl h) (fun q h => Or.inl h) (fun v st t locs1 h0 hal hrt hS1 hz hkp => ?_) (fun xc st t locs1 h0 hal hth hS1 hz hkp => ?_)
  · obtain ⟨hr1, rfl, hP1⟩ := hrt
    have hO1 : xOut D o cJ f t.heap := hO.kept (hkp o hol (fun z => z.elim ho1 ho2))
    generalize t.heap = H1 at hP1 hS1 hz hkp hO1 ⊢
    refine W.eq (g2 := F0 m 9 ls [.long (sp_takeRange (β, n, q) lo hi).2.1, .int 0, .ref o]) rfl ?_
    refine sl_out E hK hP1 hO1 hne ho1 ho2 hS1 d_L_takeRange_9 (fun H2 locs2 f2 hf2 hP2 hO2 hS2 => ?_)
    refine lv_goto (tgt := 21) E.1 E.2.1 d_L_takeRange_10 (by decide) ?_
    refine lv_iconst (v := 0) E.1 E.2.1 d_L_takeRange_21 (by decide) ?_
    exact xw_ret E hr hk hS2 (by decide) (by decide) (fun t ht _ => ⟨by rw [hr1]; rfl, by rw [ht]; exact hP2, f2, by rw [ht]; exact hO2, fun _ => hf2⟩) d_L_takeRange_22
  · skip
    generalize hsp : sp_takeRange (β, n, q) lo hi = r at hth hsk ⊢
    rcases hth with ⟨hr1, hT⟩ | ⟨hr1, hT⟩
    · refine xw_catch (r := r) E hal h0 hT hP hO (hsk (by rw [hr1]; decide)) (by rw [hr1]; decide) [] ⟨0, 10, 13, 13⟩ [⟨0, 10, 17, 37⟩] htab (fun y hy => by cases hy) (by decide) (by decide) cl_L_IA ca_IA (fun hfin => ?_)
      refine lv_astore E.1 E.2.1 d_L_takeRange_13 hl (by decide) rfl (fun ls hl => ?_)
      have hl : lv_has ls 7 [(6, .ref xc), (0, .ref a), (1, .long lo), (3, .long hi), (5, .ref o)] := hl
      refine lv_iconst (v := 1) E.1 E.2.1 d_L_takeRange_15 (by decide) ?_
      exact xw_ret E hr hk hS1 (by decide) (by decide) (fun t ht _ => hfin t ht _ (by rw [hr1]; rfl)) d_L_takeRange_16
    · refine xw_catch (r := r) E hal h0 hT hP hO (hsk (by rw [hr1]; decide)) (by rw [hr1]; decide) [⟨0, 10, 13, 13⟩] ⟨0, 10, 17, 37⟩ [] htab (fun y hy => by cases List.mem_singleton.mp hy; exact Or.inr ⟨by decide, E_IA, E.2.2.2.2 _ cl_L_IA, hN.2⟩) (by decide) (by decide) cl_L_UO ca_UO (fun hfin => ?_)
      refine lv_astore E.1 E.2.1 d_L_takeRange_17 hl (by decide) rfl (fun ls hl => ?_)
      have hl : lv_has ls 7 [(6, .ref xc), (0, .ref a), (1, .long lo), (3, .long hi), (5, .ref o)] := hl
      refine lv_iconst (v := 2) E.1 E.2.1 d_L_takeRange_19 (by decide) ?_
      exact xw_ret E hr hk hS1 (by decide) (by decide) (fun t ht _ => hfin t ht _ (by rw [hr1]; rfl)) d_L_takeRange_20
set_option maxHeartbeats 4000000 in
set_option maxRecDepth 100000 in
theorem l_takeLength (l : Launch) (hL : l.stackTraces = false) (D : va_G) (a w o : Nat) (cJ cZ : ClassId) (β : Nat → Bool) (n q : Nat) (f : Nat → Int64) (hn : n ≤ 65536) (hq : q ≤ n) (hne : a ≠ w) (ho1 : o ≠ a) (ho2 : o ≠ w) : xWr l y_L_takeLength w_L_takeLength (xrm 7) [.ref a, .ref o] D a w o cJ cZ β n q f (sp_takeLength (β, n, q)) := by
  refine xWr.of (by decide) ?_
  intro p e s m args below meth c hav E hr hk htab hwL
  subst hav
  obtain ⟨⟨⟨hP, hK⟩, hQ⟩, hO, hN⟩ := hwL
  have hS : va_S (xA3 a w o) s.heap s.heap [] := va_S.rf
  have hol := hO.lt
  have hsk := sk_takeLength (β, n, q)
  refine xl_entry _ (Nat.le_of_ble_eq_true rfl) (fun ls hl => ?_)
  have hl : lv_has ls 3 [(0, .ref a), (1, .ref o)] := hl
  refine lv_aload_n E.1 E.2.1 d_L_takeLength_0 rfl (lv_at hl 1 rfl) ?_
  refine lv_iconst (v := 0) E.1 E.2.1 d_L_takeLength_1 (by decide) ?_
  refine lv_aload_n E.1 E.2.1 d_L_takeLength_2 rfl (lv_at hl 0 rfl) ?_
  refine xg_goes (xc_V E xGT (c_takeLength l hL D a w cJ cZ β n q hn hq hne) vw_L_X_takeLength (by decide) (wXt.call hP hK hQ) (PX.recv hP hK) rfl hl.1 rfl (Nat.le_of_ble_eq_true rfl) d_L_takeLength_3) hS (fun q _ h => Or.inl h) (fun q h => Or.inl h) (fun v st t locs1 h0 hal hrt hS1 hz hkp => ?_) (fun xc st t locs1 h0 hal hth hS1 hz hkp => ?_)
  · obtain ⟨hr1, ⟨z, rfl, hzv⟩, hP1⟩ := hrt
    have hO1 : xOut D o cJ f t.heap := hO.kept (hkp o hol (fun z => z.elim ho1 ho2))
    generalize t.heap = H1 at hP1 hS1 hz hkp hO1 ⊢
    refine W.eq (g2 := F0 m 6 ls [.int z, .int 0, .ref o]) rfl ?_
    refine lv_i2l (v := z.toInt64) E.1 E.2.1 d_L_takeLength_6 rfl ?_
    refine sl_out E hK hP1 hO1 hne ho1 ho2 hS1 d_L_takeLength_7 (fun H2 locs2 f2 hf2 hP2 hO2 hS2 => ?_)
    refine lv_goto (tgt := 14) E.1 E.2.1 d_L_takeLength_8 (by decide) ?_
    refine lv_iconst (v := 0) E.1 E.2.1 d_L_takeLength_14 (by decide) ?_
    exact xw_ret E hr hk hS2 (by decide) (by decide) (fun t ht _ => ⟨by rw [hr1]; rfl, by rw [ht]; exact hP2, f2, by rw [ht]; exact hO2, fun _ => hf2.trans hzv⟩) d_L_takeLength_15
  · skip
    generalize hsp : sp_takeLength (β, n, q) = r at hth hsk ⊢
    rcases hth with ⟨hr1, hT⟩ | ⟨hr1, hT⟩
    · refine xw_catch (r := r) E hal h0 hT hP hO (hsk (by rw [hr1]; decide)) (by rw [hr1]; decide) [] ⟨0, 8, 11, 37⟩ [] htab (fun y hy => by cases hy) (by decide) (by decide) cl_L_UO ca_UO (fun hfin => ?_)
      refine lv_astore_n E.1 E.2.1 d_L_takeLength_11 rfl hl (by decide) rfl (fun ls hl => ?_)
      have hl : lv_has ls 3 [(2, .ref xc), (0, .ref a), (1, .ref o)] := hl
      refine lv_iconst (v := 1) E.1 E.2.1 d_L_takeLength_12 (by decide) ?_
      exact xw_ret E hr hk hS1 (by decide) (by decide) (fun t ht _ => hfin t ht _ (by rw [hr1]; rfl)) d_L_takeLength_13
    · exact absurd hr1 (by rw [← hsp]; exact sn_takeLength (β, n, q))
set_option maxHeartbeats 4000000 in
set_option maxRecDepth 100000 in
theorem l_takeNumber (l : Launch) (hL : l.stackTraces = false) (D : va_G) (a w o : Nat) (cJ cZ : ClassId) (β : Nat → Bool) (n q : Nat) (f : Nat → Int64) (hn : n ≤ 65536) (hq : q ≤ n) (hne : a ≠ w) (ho1 : o ≠ a) (ho2 : o ≠ w) (kind : Int32) : xWr l y_L_takeNumber w_L_takeNumber (xrm 7) [.ref a, .int kind, .ref o] D a w o cJ cZ β n q f (sp_takeNumber (β, n, q) kind) := by
  refine xWr.of (by decide) ?_
  intro p e s m args below meth c hav E hr hk htab hwL
  subst hav
  obtain ⟨⟨⟨hP, hK⟩, hQ⟩, hO, hN⟩ := hwL
  have hS : va_S (xA3 a w o) s.heap s.heap [] := va_S.rf
  have hol := hO.lt
  have hsk := sk_takeNumber (β, n, q) kind
  refine xl_entry _ (Nat.le_of_ble_eq_true rfl) (fun ls hl => ?_)
  have hl : lv_has ls 4 [(0, .ref a), (1, .int kind), (2, .ref o)] := hl
  refine lv_aload_n E.1 E.2.1 d_L_takeNumber_0 rfl (lv_at hl 2 rfl) ?_
  refine lv_iconst (v := 0) E.1 E.2.1 d_L_takeNumber_1 (by decide) ?_
  refine lv_aload_n E.1 E.2.1 d_L_takeNumber_2 rfl (lv_at hl 0 rfl) ?_
  refine lv_iload_n E.1 E.2.1 d_L_takeNumber_3 rfl (lv_at hl 1 rfl) ?_
  refine xg_goes (xc_V E xGT (c_takeNumber l hL D a w cJ cZ β n q hn hq hne kind) vw_L_X_takeNumber (by decide) (wXt.call hP hK hQ) (PX.recv hP hK) rfl hl.1 rfl (Nat.le_of_ble_eq_true rfl) d_L_takeNumber_4) hS (fun q _ h => Or.inl h) (fun q h => Or.inl h) (fun v st t locs1 h0 hal hrt hS1 hz hkp => ?_) (fun xc st t locs1 h0 hal hth hS1 hz hkp => ?_)
  · obtain ⟨hr1, rfl, hP1⟩ := hrt
    have hO1 : xOut D o cJ f t.heap := hO.kept (hkp o hol (fun z => z.elim ho1 ho2))
    generalize t.heap = H1 at hP1 hS1 hz hkp hO1 ⊢
    refine W.eq (g2 := F0 m 7 ls [.long (sp_takeNumber (β, n, q) kind).2.1, .int 0, .ref o]) rfl ?_
    refine sl_out E hK hP1 hO1 hne ho1 ho2 hS1 d_L_takeNumber_7 (fun H2 locs2 f2 hf2 hP2 hO2 hS2 => ?_)
    refine lv_goto (tgt := 17) E.1 E.2.1 d_L_takeNumber_8 (by decide) ?_
    refine lv_iconst (v := 0) E.1 E.2.1 d_L_takeNumber_17 (by decide) ?_
    exact xw_ret E hr hk hS2 (by decide) (by decide) (fun t ht _ => ⟨by rw [hr1]; rfl, by rw [ht]; exact hP2, f2, by rw [ht]; exact hO2, fun _ => hf2⟩) d_L_takeNumber_18
  · skip
    generalize hsp : sp_takeNumber (β, n, q) kind = r at hth hsk ⊢
    rcases hth with ⟨hr1, hT⟩ | ⟨hr1, hT⟩
    · refine xw_catch (r := r) E hal h0 hT hP hO (hsk (by rw [hr1]; decide)) (by rw [hr1]; decide) [] ⟨0, 8, 11, 13⟩ [⟨0, 8, 14, 37⟩] htab (fun y hy => by cases hy) (by decide) (by decide) cl_L_IA ca_IA (fun hfin => ?_)
      refine lv_astore_n E.1 E.2.1 d_L_takeNumber_11 rfl hl (by decide) rfl (fun ls hl => ?_)
      have hl : lv_has ls 4 [(3, .ref xc), (0, .ref a), (1, .int kind), (2, .ref o)] := hl
      refine lv_iconst (v := 1) E.1 E.2.1 d_L_takeNumber_12 (by decide) ?_
      exact xw_ret E hr hk hS1 (by decide) (by decide) (fun t ht _ => hfin t ht _ (by rw [hr1]; rfl)) d_L_takeNumber_13
    · refine xw_catch (r := r) E hal h0 hT hP hO (hsk (by rw [hr1]; decide)) (by rw [hr1]; decide) [⟨0, 8, 11, 13⟩] ⟨0, 8, 14, 37⟩ [] htab (fun y hy => by cases List.mem_singleton.mp hy; exact Or.inr ⟨by decide, E_IA, E.2.2.2.2 _ cl_L_IA, hN.2⟩) (by decide) (by decide) cl_L_UO ca_UO (fun hfin => ?_)
      refine lv_astore_n E.1 E.2.1 d_L_takeNumber_14 rfl hl (by decide) rfl (fun ls hl => ?_)
      have hl : lv_has ls 4 [(3, .ref xc), (0, .ref a), (1, .int kind), (2, .ref o)] := hl
      refine lv_iconst (v := 2) E.1 E.2.1 d_L_takeNumber_15 (by decide) ?_
      exact xw_ret E hr hk hS1 (by decide) (by decide) (fun t ht _ => hfin t ht _ (by rw [hr1]; rfl)) d_L_takeNumber_16
set_option maxHeartbeats 4000000 in
set_option maxRecDepth 100000 in
theorem l_go (l : Launch) (hL : l.stackTraces = false) (D : va_G) (a w o : Nat) (cJ cZ : ClassId) (β : Nat → Bool) (n q : Nat) (f : Nat → Int64) (hn : n ≤ 65536) (hq : q ≤ n) (hne : a ≠ w) (ho1 : o ≠ a) (ho2 : o ≠ w) (k : Int32) : xWr l y_L_go w_L_go (xrm 7) [.ref a, .int k, .ref o] D a w o cJ cZ β n q f (sp_go (β, n, q) k) := by
  refine xWr.of (by decide) ?_
  intro p e s m args below meth c hav E hr hk htab hwL
  subst hav
  obtain ⟨⟨⟨hP, hK⟩, hQ⟩, hO, hN⟩ := hwL
  have hS : va_S (xA3 a w o) s.heap s.heap [] := va_S.rf
  have hol := hO.lt
  have hsk := sk_go (β, n, q) k
  refine xl_entry _ (Nat.le_of_ble_eq_true rfl) (fun ls hl => ?_)
  have hl : lv_has ls 4 [(0, .ref a), (1, .int k), (2, .ref o)] := hl
  refine lv_aload_n E.1 E.2.1 d_L_go_0 rfl (lv_at hl 2 rfl) ?_
  refine lv_iconst (v := 0) E.1 E.2.1 d_L_go_1 (by decide) ?_
  refine lv_aload_n E.1 E.2.1 d_L_go_2 rfl (lv_at hl 0 rfl) ?_
  refine lv_iload_n E.1 E.2.1 d_L_go_3 rfl (lv_at hl 1 rfl) ?_
  refine xg_goes (xc_V E xGT (c_go l hL D a w cJ cZ β n q hn hq hne k) vw_L_X_go (by decide) (wXt.call hP hK hQ) (PX.recv hP hK) rfl hl.1 rfl (Nat.le_of_ble_eq_true rfl) d_L_go_4) hS (fun q _ h => Or.inl h) (fun q h => Or.inl h) (fun v st t locs1 h0 hal hrt hS1 hz hkp => ?_) (fun xc st t locs1 h0 hal hth hS1 hz hkp => ?_)
  · obtain ⟨hr1, ⟨z, rfl, hzv⟩, hP1⟩ := hrt
    have hO1 : xOut D o cJ f t.heap := hO.kept (hkp o hol (fun z => z.elim ho1 ho2))
    generalize t.heap = H1 at hP1 hS1 hz hkp hO1 ⊢
    refine W.eq (g2 := F0 m 7 ls [.int z, .int 0, .ref o]) rfl ?_
    refine lv_i2l (v := z.toInt64) E.1 E.2.1 d_L_go_7 rfl ?_
    refine sl_out E hK hP1 hO1 hne ho1 ho2 hS1 d_L_go_8 (fun H2 locs2 f2 hf2 hP2 hO2 hS2 => ?_)
    refine lv_goto (tgt := 15) E.1 E.2.1 d_L_go_9 (by decide) ?_
    refine lv_iconst (v := 0) E.1 E.2.1 d_L_go_15 (by decide) ?_
    exact xw_ret E hr hk hS2 (by decide) (by decide) (fun t ht _ => ⟨by rw [hr1]; rfl, by rw [ht]; exact hP2, f2, by rw [ht]; exact hO2, fun _ => hf2.trans hzv⟩) d_L_go_16
  · skip
    generalize hsp : sp_go (β, n, q) k = r at hth hsk ⊢
    rcases hth with ⟨hr1, hT⟩ | ⟨hr1, hT⟩
    · refine xw_catch (r := r) E hal h0 hT hP hO (hsk (by rw [hr1]; decide)) (by rw [hr1]; decide) [] ⟨0, 9, 12, 13⟩ [] htab (fun y hy => by cases hy) (by decide) (by decide) cl_L_IA ca_IA (fun hfin => ?_)
      refine lv_astore_n E.1 E.2.1 d_L_go_12 rfl hl (by decide) rfl (fun ls hl => ?_)
      have hl : lv_has ls 4 [(3, .ref xc), (0, .ref a), (1, .int k), (2, .ref o)] := hl
      refine lv_iconst (v := 1) E.1 E.2.1 d_L_go_13 (by decide) ?_
      exact xw_ret E hr hk hS1 (by decide) (by decide) (fun t ht _ => hfin t ht _ (by rw [hr1]; rfl)) d_L_go_14
    · exact absurd hr1 (by rw [← hsp]; exact sn_go (β, n, q) k)
set_option maxHeartbeats 4000000 in
set_option maxRecDepth 100000 in
theorem l_turn (l : Launch) (hL : l.stackTraces = false) (D : va_G) (a w o : Nat) (cJ cZ : ClassId) (β : Nat → Bool) (n q : Nat) (f : Nat → Int64) (hn : n ≤ 65536) (hq : q ≤ n) (hne : a ≠ w) (ho1 : o ≠ a) (ho2 : o ≠ w) (k : Int32) : xWr l y_L_turn w_L_turn (xrm 7) [.ref a, .int k, .ref o] D a w o cJ cZ β n q f (sp_turn (β, n, q) k) := by
  refine xWr.of (by decide) ?_
  intro p e s m args below meth c hav E hr hk htab hwL
  subst hav
  obtain ⟨⟨⟨hP, hK⟩, hQ⟩, hO, hN⟩ := hwL
  have hS : va_S (xA3 a w o) s.heap s.heap [] := va_S.rf
  have hol := hO.lt
  have hsk := sk_turn (β, n, q) k
  refine xl_entry _ (Nat.le_of_ble_eq_true rfl) (fun ls hl => ?_)
  have hl : lv_has ls 4 [(0, .ref a), (1, .int k), (2, .ref o)] := hl
  refine lv_aload_n E.1 E.2.1 d_L_turn_0 rfl (lv_at hl 2 rfl) ?_
  refine lv_iconst (v := 0) E.1 E.2.1 d_L_turn_1 (by decide) ?_
  refine lv_aload_n E.1 E.2.1 d_L_turn_2 rfl (lv_at hl 0 rfl) ?_
  refine lv_iload_n E.1 E.2.1 d_L_turn_3 rfl (lv_at hl 1 rfl) ?_
  refine xg_goes (xc_V E xGT (c_turn l hL D a w cJ cZ β n q hn hq hne k) vw_L_X_turn (by decide) (wXt.call hP hK hQ) (PX.recv hP hK) rfl hl.1 rfl (Nat.le_of_ble_eq_true rfl) d_L_turn_4) hS (fun q _ h => Or.inl h) (fun q h => Or.inl h) (fun v st t locs1 h0 hal hrt hS1 hz hkp => ?_) (fun xc st t locs1 h0 hal hth hS1 hz hkp => ?_)
  · obtain ⟨hr1, ⟨z, rfl, hzv⟩, hP1⟩ := hrt
    have hO1 : xOut D o cJ f t.heap := hO.kept (hkp o hol (fun z => z.elim ho1 ho2))
    generalize t.heap = H1 at hP1 hS1 hz hkp hO1 ⊢
    refine W.eq (g2 := F0 m 7 ls [.int z, .int 0, .ref o]) rfl ?_
    have tail : ∀ v : Int64, v = (sp_turn (β, n, q) k).2.1 → W p l e (xrm 7) s m [Value.ref a, .int k, .ref o].toArray below meth c H1 locs1 0 0 (xl_MQ below (xl_Q (xA3 a w o) (xWe (sp_turn (β, n, q) k) D a w o cJ) (fun _ _ _ => False)) [Value.ref a, .int k, .ref o].toArray s (fun _ => 1) (fun _ => 6) (xA3 a w o)) (F0 m 15 ls [.long v, .int 0, .ref o]) := by
      intro v hv
      refine sl_out E hK hP1 hO1 hne ho1 ho2 hS1 d_L_turn_15 (fun H2 locs2 f2 hf2 hP2 hO2 hS2 => ?_)
      refine lv_goto (tgt := 22) E.1 E.2.1 d_L_turn_16 (by decide) ?_
      refine lv_iconst (v := 0) E.1 E.2.1 d_L_turn_22 (by decide) ?_
      exact xw_ret E hr hk hS2 (by decide) (by decide) (fun t ht _ => ⟨by rw [hr1]; rfl, by rw [ht]; exact hP2, f2, by rw [ht]; exact hO2, fun _ => hf2.trans hv⟩) d_L_turn_23
    refine lv_if_eq (tgt := 14) E.1 E.2.1 d_L_turn_7 (by decide) (fun h1 => ?_) (fun h1 => ?_)
    · skip
      refine lv_lconst (v := 0) E.1 E.2.1 d_L_turn_14 (by decide) ?_
      exact tail 0 (by rw [← hzv, h1]; rfl)
    · skip
      refine lv_lconst (v := 1) E.1 E.2.1 d_L_turn_10 (by decide) ?_
      refine lv_goto (tgt := 15) E.1 E.2.1 d_L_turn_11 (by decide) ?_
      refine tail 1 ?_
      exact xz_bool hzv h1
  · skip
    generalize hsp : sp_turn (β, n, q) k = r at hth hsk ⊢
    rcases hth with ⟨hr1, hT⟩ | ⟨hr1, hT⟩
    · refine xw_catch (r := r) E hal h0 hT hP hO (hsk (by rw [hr1]; decide)) (by rw [hr1]; decide) [] ⟨0, 16, 19, 13⟩ [] htab (fun y hy => by cases hy) (by decide) (by decide) cl_L_IA ca_IA (fun hfin => ?_)
      refine lv_astore_n E.1 E.2.1 d_L_turn_19 rfl hl (by decide) rfl (fun ls hl => ?_)
      have hl : lv_has ls 4 [(3, .ref xc), (0, .ref a), (1, .int k), (2, .ref o)] := hl
      refine lv_iconst (v := 1) E.1 E.2.1 d_L_turn_20 (by decide) ?_
      exact xw_ret E hr hk hS1 (by decide) (by decide) (fun t ht _ => hfin t ht _ (by rw [hr1]; rfl)) d_L_turn_21
    · exact absurd hr1 (by rw [← hsp]; exact sn_turn (β, n, q) k)
set_option maxHeartbeats 4000000 in
set_option maxRecDepth 100000 in
theorem l_cut (l : Launch) (hL : l.stackTraces = false) (D : va_G) (a w o : Nat) (cJ cZ : ClassId) (β : Nat → Bool) (n q : Nat) (f : Nat → Int64) (hn : n ≤ 65536) (hq : q ≤ n) (hne : a ≠ w) (ho1 : o ≠ a) (ho2 : o ≠ w) (k : Int32) : xWr l y_L_cut w_L_cut (xrm 7) [.ref a, .int k, .ref o] D a w o cJ cZ β n q f (sp_cut (β, n, q) k) := by
  refine xWr.of (by decide) ?_
  intro p e s m args below meth c hav E hr hk htab hwL
  subst hav
  obtain ⟨⟨⟨hP, hK⟩, hQ⟩, hO, hN⟩ := hwL
  have hS : va_S (xA3 a w o) s.heap s.heap [] := va_S.rf
  have hol := hO.lt
  have hsk := sk_cut (β, n, q) k
  refine xl_entry _ (Nat.le_of_ble_eq_true rfl) (fun ls hl => ?_)
  have hl : lv_has ls 4 [(0, .ref a), (1, .int k), (2, .ref o)] := hl
  refine lv_aload_n E.1 E.2.1 d_L_cut_0 rfl (lv_at hl 2 rfl) ?_
  refine lv_iconst (v := 0) E.1 E.2.1 d_L_cut_1 (by decide) ?_
  refine lv_aload_n E.1 E.2.1 d_L_cut_2 rfl (lv_at hl 0 rfl) ?_
  refine lv_iload_n E.1 E.2.1 d_L_cut_3 rfl (lv_at hl 1 rfl) ?_
  refine xg_goes (xc_V E xGT (c_cut l hL D a w cJ cZ β n q hn hq hne k) vw_L_X_cut (by decide) (wXt.call hP hK hQ) (PX.recv hP hK) rfl hl.1 rfl (Nat.le_of_ble_eq_true rfl) d_L_cut_4) hS (fun q _ h => Or.inl h) (fun q h => Or.inl h) (fun v st t locs1 h0 hal hrt hS1 hz hkp => ?_) (fun xc st t locs1 h0 hal hth hS1 hz hkp => ?_)
  · obtain ⟨hr1, ⟨z, rfl, hzv⟩, hP1⟩ := hrt
    have hO1 : xOut D o cJ f t.heap := hO.kept (hkp o hol (fun z => z.elim ho1 ho2))
    generalize t.heap = H1 at hP1 hS1 hz hkp hO1 ⊢
    refine W.eq (g2 := F0 m 7 ls [.int z, .int 0, .ref o]) rfl ?_
    refine lv_i2l (v := z.toInt64) E.1 E.2.1 d_L_cut_7 rfl ?_
    refine sl_out E hK hP1 hO1 hne ho1 ho2 hS1 d_L_cut_8 (fun H2 locs2 f2 hf2 hP2 hO2 hS2 => ?_)
    refine lv_goto (tgt := 15) E.1 E.2.1 d_L_cut_9 (by decide) ?_
    refine lv_iconst (v := 0) E.1 E.2.1 d_L_cut_15 (by decide) ?_
    exact xw_ret E hr hk hS2 (by decide) (by decide) (fun t ht _ => ⟨by rw [hr1]; rfl, by rw [ht]; exact hP2, f2, by rw [ht]; exact hO2, fun _ => hf2.trans hzv⟩) d_L_cut_16
  · skip
    generalize hsp : sp_cut (β, n, q) k = r at hth hsk ⊢
    rcases hth with ⟨hr1, hT⟩ | ⟨hr1, hT⟩
    · refine xw_catch (r := r) E hal h0 hT hP hO (hsk (by rw [hr1]; decide)) (by rw [hr1]; decide) [] ⟨0, 9, 12, 13⟩ [] htab (fun y hy => by cases hy) (by decide) (by decide) cl_L_IA ca_IA (fun hfin => ?_)
      refine lv_astore_n E.1 E.2.1 d_L_cut_12 rfl hl (by decide) rfl (fun ls hl => ?_)
      have hl : lv_has ls 4 [(3, .ref xc), (0, .ref a), (1, .int k), (2, .ref o)] := hl
      refine lv_iconst (v := 1) E.1 E.2.1 d_L_cut_13 (by decide) ?_
      exact xw_ret E hr hk hS1 (by decide) (by decide) (fun t ht _ => hfin t ht _ (by rw [hr1]; rfl)) d_L_cut_14
    · exact absurd hr1 (by rw [← hsp]; exact sn_cut (β, n, q) k)
set_option maxHeartbeats 4000000 in
set_option maxRecDepth 100000 in
theorem l_count (l : Launch) (hL : l.stackTraces = false) (D : va_G) (a w o : Nat) (cJ cZ : ClassId) (β : Nat → Bool) (n q : Nat) (f : Nat → Int64) (hn : n ≤ 65536) (hq : q ≤ n) (hne : a ≠ w) (ho1 : o ≠ a) (ho2 : o ≠ w) (k : Int32) : xWr l y_L_count w_L_count (xrm 7) [.ref a, .int k, .ref o] D a w o cJ cZ β n q f (sp_count (β, n, q) k) := by
  refine xWr.of (by decide) ?_
  intro p e s m args below meth c hav E hr hk htab hwL
  subst hav
  obtain ⟨⟨⟨hP, hK⟩, hQ⟩, hO, hN⟩ := hwL
  have hS : va_S (xA3 a w o) s.heap s.heap [] := va_S.rf
  have hol := hO.lt
  have hsk := sk_count (β, n, q) k
  refine xl_entry _ (Nat.le_of_ble_eq_true rfl) (fun ls hl => ?_)
  have hl : lv_has ls 4 [(0, .ref a), (1, .int k), (2, .ref o)] := hl
  refine lv_aload_n E.1 E.2.1 d_L_count_0 rfl (lv_at hl 2 rfl) ?_
  refine lv_iconst (v := 0) E.1 E.2.1 d_L_count_1 (by decide) ?_
  refine lv_aload_n E.1 E.2.1 d_L_count_2 rfl (lv_at hl 0 rfl) ?_
  refine lv_iload_n E.1 E.2.1 d_L_count_3 rfl (lv_at hl 1 rfl) ?_
  refine xg_goes (xc_V E xGT (c_count l hL D a w cJ cZ β n q hn hq hne k) vw_L_X_count (by decide) (wXt.call hP hK hQ) (PX.recv hP hK) rfl hl.1 rfl (Nat.le_of_ble_eq_true rfl) d_L_count_4) hS (fun q _ h => Or.inl h) (fun q h => Or.inl h) (fun v st t locs1 h0 hal hrt hS1 hz hkp => ?_) (fun xc st t locs1 h0 hal hth hS1 hz hkp => ?_)
  · obtain ⟨hr1, ⟨z, rfl, hzv⟩, hP1⟩ := hrt
    have hO1 : xOut D o cJ f t.heap := hO.kept (hkp o hol (fun z => z.elim ho1 ho2))
    generalize t.heap = H1 at hP1 hS1 hz hkp hO1 ⊢
    refine W.eq (g2 := F0 m 7 ls [.int z, .int 0, .ref o]) rfl ?_
    refine lv_i2l (v := z.toInt64) E.1 E.2.1 d_L_count_7 rfl ?_
    refine sl_out E hK hP1 hO1 hne ho1 ho2 hS1 d_L_count_8 (fun H2 locs2 f2 hf2 hP2 hO2 hS2 => ?_)
    refine lv_goto (tgt := 15) E.1 E.2.1 d_L_count_9 (by decide) ?_
    refine lv_iconst (v := 0) E.1 E.2.1 d_L_count_15 (by decide) ?_
    exact xw_ret E hr hk hS2 (by decide) (by decide) (fun t ht _ => ⟨by rw [hr1]; rfl, by rw [ht]; exact hP2, f2, by rw [ht]; exact hO2, fun _ => hf2.trans hzv⟩) d_L_count_16
  · skip
    generalize hsp : sp_count (β, n, q) k = r at hth hsk ⊢
    rcases hth with ⟨hr1, hT⟩ | ⟨hr1, hT⟩
    · refine xw_catch (r := r) E hal h0 hT hP hO (hsk (by rw [hr1]; decide)) (by rw [hr1]; decide) [] ⟨0, 9, 12, 13⟩ [] htab (fun y hy => by cases hy) (by decide) (by decide) cl_L_IA ca_IA (fun hfin => ?_)
      refine lv_astore_n E.1 E.2.1 d_L_count_12 rfl hl (by decide) rfl (fun ls hl => ?_)
      have hl : lv_has ls 4 [(3, .ref xc), (0, .ref a), (1, .int k), (2, .ref o)] := hl
      refine lv_iconst (v := 1) E.1 E.2.1 d_L_count_13 (by decide) ?_
      exact xw_ret E hr hk hS1 (by decide) (by decide) (fun t ht _ => hfin t ht _ (by rw [hr1]; rfl)) d_L_count_14
    · exact absurd hr1 (by rw [← hsp]; exact sn_count (β, n, q) k)
end XL31
end
section
/-! The two constructors. -/
section XL32
/-- an object and what comes -/
def xA1 (a sz : Nat) : Nat → Prop := fun q => q = a ∨ sz ≤ q
theorem xD1 {A : Nat → Prop} {a : Nat} {e1 : va_E} (h : A a) : va_D A [(a, e1)] := by
  refine ⟨fun i j p q hi hj hpq => ?_, fun k q hk => ?_⟩
  · match i, j with
    | 0, 0 => rfl
    | i + 1, _ => cases hi
    | 0, j + 1 => cases hj
  · match k with
    | 0 => cases Option.some.inj hk; exact h
    | k + 1 => cases hk
theorem xw_0 : xw (fun _ => 0) = fun _ => false := by
  funext j
  show ((0 : Int64).toBitVec).getLsbD (j % 64) = false
  exact BitVec.getLsbD_zero
theorem xnewL (N : Nat) (cA : ClassId) : vp_cell cA (N, .inr (.inl (fun _ => 0))) = arrV cA N (fun _ => defaultValue .long) := rfl
theorem xnewZ (N : Nat) (cA : ClassId) : vp_cell cA (N, .inl (fun _ => 0)) = arrV cA N (fun _ => defaultValue .boolean) := rfl
theorem xz_0 : xz (fun _ => false) = fun _ => 0 := rfl
set_option maxHeartbeats 4000000 in
set_option maxRecDepth 100000 in
theorem c_init (l : Launch) (D : va_G) (a sz : Nat) (cJ cZ : ClassId) : Met l y_X_init w_X_init { frames := 1, cells := 1, slots := 1024, locals := 20 } (va_Pc [.ref a] (fun U => U.heap.size = sz ∧ a < sz ∧ va_P D xcl [(a, .inr (0, [.null, .int 0, .int 0]))] U.heap ∧ va_K D xcl (xty cJ cZ) U)) (va_Qv (fun w : Nat => sz ≤ w) (fun w t => PX D a w cJ (fun _ => false) 0 0 t.heap) (xA1 a sz)) 1 1024 (xA1 a sz) := by
  refine Met.ofW (cc := b_X_init) (maxL := 1) (ret := none) (by decide) rfl ?_
  intro p e s m args below meth c s₁ B hml hv
  obtain ⟨rfl, rfl, hlt, hP, hK⟩ := hv
  have hts := atoms_spec (ws := w_X_init) B.pre
  have hr := B.returns
  have hin : meth.name = "<init>" := (name_of_methodNamed B.named B.method).1
  have E : CallFix p m c b_X_init 1 s [Value.ref a].toArray XT R_X := ⟨B.exec, B.bytes, hml, findClass_of_methodNamed B.named, fun w hw => hts w (List.mem_cons_of_mem _ hw)⟩
  have hS : va_S (xA1 a s.heap.size) s.heap s.heap [] := va_S.rf
  have hA : ∀ q : Nat, s.heap.size ≤ q → xA1 a s.heap.size q := fun q h => Or.inr h
  have hD : va_D (xA1 a s.heap.size) [(a, .inr (0, [.null, .int 0, .int 0]))] := xD1 (Or.inl rfl)
  refine xl_entry _ (Nat.le_of_ble_eq_true rfl) (fun ls hl => ?_)
  have hl : lv_has ls 1 [(0, .ref a)] := hl
  refine lv_aload_n E.1 E.2.1 d_X_init_0 rfl (lv_at hl 0 rfl) ?_
  refine W.objInit E.1 E.2.1 E.2.2.2.1 (E.2.2.2.2 _ ob_link_X) (E.2.2.2.2 _ ob_inst) (E.2.2.2.2 _ ob_code) rfl (by rw [hml]; exact hl.1) rfl d_X_init_1 (Nat.le_of_ble_eq_true rfl) (Nat.le_of_ble_eq_true rfl) ?_
  refine W.eq (g2 := F0 m 4 ls []) rfl ?_
  refine lv_aload_n E.1 E.2.1 d_X_init_4 rfl (lv_at hl 0 rfl) ?_
  refine lv_sipush (v := 1024) E.1 E.2.1 d_X_init_5 (by decide) ?_
  refine va_newa (atype := .long) (ty := .long) (a0 := (1024, .inr (.inl (fun _ => 0)))) (N' := 1024) E.1 E.2.1 (E.2.2.2.2 _ ar_long) rfl hK hP hD hS hA (xnewL 1024) (by decide) (nI_clamp (n := 1024) (by decide)) (Nat.le_of_ble_eq_true rfl) (Nat.le_of_ble_eq_true rfl) (Nat.le_of_ble_eq_true rfl) d_X_init_8 (fun w cA H1 hK1 hP1 hD1 hS1 => ?_)
  have hcA : cA = cJ := by
    have h0 : s.vm.findClass ("[" ++ FieldType.long.toString) = some cJ := (hK1.2 0 (cJ, .long) rfl).2
    have h2 : s.vm.findClass ("[" ++ FieldType.long.toString) = some cA := (hK1.2 2 (cA, .long) rfl).2
    exact Option.some.inj (h2.symm.trans h0)
  subst hcA
  have hP1 : va_P D xcl [(a, .inr (0, [.null, .int 0, .int 0])), (w, .inl (cA, 1024, .inr (.inl (fun _ => 0))))] H1 := hP1
  have hD1 : va_D (xA1 a s.heap.size) [(a, .inr (0, [.null, .int 0, .int 0])), (w, .inl (cA, 1024, .inr (.inl (fun _ => 0))))] := hD1
  have hwa : ¬ w = a := fun z => absurd (hD1.1 1 0 _ _ rfl rfl z) (by decide)
  have hw : s.heap.size ≤ w := (hD1.2 1 _ rfl).elim (fun z => absurd z hwa) id
  refine va_putF (D := D) (ci := 0) (v := .ref w) (ty := .array .long) (C := R_X) (T := F_X) (N := 3) E.1 E.2.1 E.2.2.2.2 in_X t_X t_X_ok n_X E.2.2.2.1 hK hP1 hD1 hS1 0 rfl rfl 0 (by decide) (E.2.2.2.2 _ fl_X_words) (fun _ h => h) rfl hin rfl (by decide +kernel) rfl rfl (Nat.le_of_ble_eq_true rfl) d_X_init_10 (fun H2 locs2 hP2 hD2 hS2 => ?_)
  refine lv_aload_n E.1 E.2.1 d_X_init_13 rfl (lv_at hl 0 rfl) ?_
  refine lv_iconst (v := 0) E.1 E.2.1 d_X_init_14 (by decide) ?_
  refine va_put (D := D) (ci := 0) (v := .int 0) (ty := .int) (C := R_X) (T := F_X) (N := 3) E.1 E.2.1 E.2.2.2.2 in_X t_X t_X_ok n_X E.2.2.2.1 hK hP2 hD2 hS2 0 rfl rfl 1 (by decide) (E.2.2.2.2 _ fl_X_size) (fun _ h => h) rfl (by decide +kernel) rfl rfl (Nat.le_of_ble_eq_true rfl) d_X_init_15 (fun H3 locs3 hP3 hD3 hS3 => ?_)
  refine lv_aload_n E.1 E.2.1 d_X_init_18 rfl (lv_at hl 0 rfl) ?_
  refine lv_iconst (v := 0) E.1 E.2.1 d_X_init_19 (by decide) ?_
  refine va_put (D := D) (ci := 0) (v := .int 0) (ty := .int) (C := R_X) (T := F_X) (N := 3) E.1 E.2.1 E.2.2.2.2 in_X t_X t_X_ok n_X E.2.2.2.1 hK hP3 hD3 hS3 0 rfl rfl 2 (by decide) (E.2.2.2.2 _ fl_X_place) (fun _ h => h) rfl (by decide +kernel) rfl rfl (Nat.le_of_ble_eq_true rfl) d_X_init_20 (fun H4 locs4 hP4 hD4 hS4 => ?_)
  have hP4 : va_P D xcl (xqX a w cA (fun _ => 0) 0 0) H4 := hP4
  exact W.vret E.1 E.2.1 hr (fun t ht hW => ⟨⟨w, rfl, hw, _, xw_0, by rw [ht]; exact hP4⟩, hS4.F ht⟩) hS4.2.2 d_X_init_23 B.notSynchronized
set_option maxHeartbeats 4000000 in
set_option maxRecDepth 100000 in
theorem m_init (l : Launch) (D : va_G) (b sz : Nat) (cJ cZ : ClassId) : Met l y_M_init w_M_init { frames := 1, cells := 1, slots := 65536, locals := 20 } (va_Pc [.ref b] (fun U => U.heap.size = sz ∧ b < sz ∧ va_P D xcl [(b, .inr (1, [.int 0, .null, .int 0, .int 0, .int 0, .int 0]))] U.heap ∧ va_K D xcl (xty cJ cZ) U)) (va_Qv (fun r : Nat => sz ≤ r) (fun r t => PM D b r cZ (fun _ => false) 0 0 0 0 false t.heap) (xA1 b sz)) 1 65536 (xA1 b sz) := by
  refine Met.ofW (cc := b_M_init) (maxL := 1) (ret := none) (by decide) rfl ?_
  intro p e s m args below meth c s₁ B hml hv
  obtain ⟨rfl, rfl, hlt, hP, hK⟩ := hv
  have hts := atoms_spec (ws := w_M_init) B.pre
  have hr := B.returns
  have hin : meth.name = "<init>" := (name_of_methodNamed B.named B.method).1
  have E : CallFix p m c b_M_init 1 s [Value.ref b].toArray XT R_M := ⟨B.exec, B.bytes, hml, findClass_of_methodNamed B.named, fun w hw => hts w (List.mem_cons_of_mem _ hw)⟩
  have hS : va_S (xA1 b s.heap.size) s.heap s.heap [] := va_S.rf
  have hA : ∀ q : Nat, s.heap.size ≤ q → xA1 b s.heap.size q := fun q h => Or.inr h
  have hD : va_D (xA1 b s.heap.size) [(b, .inr (1, [.int 0, .null, .int 0, .int 0, .int 0, .int 0]))] := xD1 (Or.inl rfl)
  refine xl_entry _ (Nat.le_of_ble_eq_true rfl) (fun ls hl => ?_)
  have hl : lv_has ls 1 [(0, .ref b)] := hl
  refine lv_aload_n E.1 E.2.1 d_M_init_0 rfl (lv_at hl 0 rfl) ?_
  refine W.objInit E.1 E.2.1 E.2.2.2.1 (E.2.2.2.2 _ ob_link_M) (E.2.2.2.2 _ ob_inst) (E.2.2.2.2 _ ob_code) rfl (by rw [hml]; exact hl.1) rfl d_M_init_1 (Nat.le_of_ble_eq_true rfl) (Nat.le_of_ble_eq_true rfl) ?_
  refine W.eq (g2 := F0 m 4 ls []) rfl ?_
  refine lv_aload_n E.1 E.2.1 d_M_init_4 rfl (lv_at hl 0 rfl) ?_
  refine lv_ldc (v := 65536) E.1 E.2.1 E.2.2.2.1 (E.2.2.2.2 _ co_M_7) d_M_init_5 ?_
  refine va_newa (atype := .boolean) (ty := .boolean) (a0 := (65536, .inl (fun _ => 0))) (N' := 65536) E.1 E.2.1 (E.2.2.2.2 _ ar_boolean) rfl hK hP hD hS hA (xnewZ 65536) (by decide) (nI_clamp (n := 65536) (by decide)) (Nat.le_of_ble_eq_true rfl) (Nat.le_of_ble_eq_true rfl) (Nat.le_of_ble_eq_true rfl) d_M_init_7 (fun r cA H1 hK1 hP1 hD1 hS1 => ?_)
  have hcA : cA = cZ := by
    have h0 : s.vm.findClass ("[" ++ FieldType.boolean.toString) = some cZ := (hK1.2 1 (cZ, .boolean) rfl).2
    have h2 : s.vm.findClass ("[" ++ FieldType.boolean.toString) = some cA := (hK1.2 2 (cA, .boolean) rfl).2
    exact Option.some.inj (h2.symm.trans h0)
  subst hcA
  have hP1 : va_P D xcl [(b, .inr (1, [.int 0, .null, .int 0, .int 0, .int 0, .int 0])), (r, .inl (cA, 65536, .inl (fun _ => 0)))] H1 := hP1
  have hD1 : va_D (xA1 b s.heap.size) [(b, .inr (1, [.int 0, .null, .int 0, .int 0, .int 0, .int 0])), (r, .inl (cA, 65536, .inl (fun _ => 0)))] := hD1
  have hwa : ¬ r = b := fun z => absurd (hD1.1 1 0 _ _ rfl rfl z) (by decide)
  have hw : s.heap.size ≤ r := (hD1.2 1 _ rfl).elim (fun z => absurd z hwa) id
  refine va_putF (D := D) (ci := 1) (v := .ref r) (ty := .array .boolean) (C := R_M) (T := F_M) (N := 6) E.1 E.2.1 E.2.2.2.2 in_M t_M t_M_ok n_M E.2.2.2.1 hK hP1 hD1 hS1 0 rfl rfl 1 (by decide) (E.2.2.2.2 _ fl_M_row) (fun _ h => h) rfl hin rfl (by decide +kernel) rfl rfl (Nat.le_of_ble_eq_true rfl) d_M_init_9 (fun H2 locs2 hP2 hD2 hS2 => ?_)
  have hP2 : va_P D xcl (xqM b r cA (fun _ => false) 0 0 0 0 false) H2 := hP2
  exact W.vret E.1 E.2.1 hr (fun t ht hW => ⟨⟨r, rfl, hw, by show PM D b r cA (fun _ => false) 0 0 0 0 false t.heap; rw [ht]; exact hP2⟩, hS2.F ht⟩) hS2.2.2 d_M_init_12 B.notSynchronized
end XL32
end
section
/-! The law's walk: what stays, what a call changes. -/
section XLO
theorem so_write {σ : xS} {x : Int64} {k cd : Nat} (h : xok σ) : xok (sp_write σ x k cd).2.2 := by
  unfold sp_write
  split
  · exact h
  · rename_i g
    obtain ⟨h1, h2⟩ := h
    exact ⟨Nat.not_lt.mp g, Nat.le_trans h2 (Nat.le_add_right _ _)⟩
theorem so_put {σ : xS} {x : Int64} {k : Int32} (h : xok σ) : xok (sp_put σ x k).2.2 := by
  unfold sp_put
  split
  · exact h
  · exact so_write h
theorem so_putRange {σ : xS} {lo hi x : Int64} (h : xok σ) : xok (sp_putRange σ lo hi x).2.2 := by
  unfold sp_putRange
  split
  · exact h
  · exact so_write h
theorem so_putLength {σ : xS} {k : Int32} (h : xok σ) : xok (sp_putLength σ k).2.2 := by
  unfold sp_putLength
  split
  · exact h
  · dsimp only
    split
    · exact h
    · rename_i g
      obtain ⟨h1, h2⟩ := h
      exact ⟨Nat.not_lt.mp g, Nat.le_trans h2 (Nat.le_add_right _ _)⟩
theorem so_putNumber {σ : xS} {kind : Int32} {x : Int64} (h : xok σ) : xok (sp_putNumber σ kind x).2.2 := by
  unfold sp_putNumber
  split
  · exact h
  · split
    · exact so_write h
    · split
      · exact h
      · rename_i g
        obtain ⟨h1, h2⟩ := h
        exact ⟨Nat.not_lt.mp g, Nat.le_trans h2 (Nat.le_add_right _ _)⟩
theorem so_fill {σ : xS} (h : xok σ) : xok (sp_fill σ).2.2 := so_write h
theorem so_take {σ : xS} {k : Int32} (h : xok σ) : xok (sp_take σ k).2.2 := by
  unfold sp_take
  split
  · exact h
  · split
    · exact h
    · rename_i g
      exact ⟨h.1, Nat.not_lt.mp g⟩
theorem so_takeRange {σ : xS} {lo hi : Int64} (h : xok σ) : xok (sp_takeRange σ lo hi).2.2 := by
  unfold sp_takeRange
  split
  · exact h
  · split
    · exact h
    · rename_i g
      exact ⟨h.1, Nat.not_lt.mp (fun z => g (Or.inl z))⟩
theorem so_takeLength {σ : xS} (h : xok σ) : xok (sp_takeLength σ).2.2 := by
  cases hx : xlen σ.1 σ.2.1 σ.2.2 with
  | none =>
    have e : sp_takeLength σ = (1, 0, σ) := by
      unfold sp_takeLength
      rw [hx]
    rw [e]
    exact h
  | some r =>
    obtain ⟨v, wd⟩ := r
    have e : sp_takeLength σ = (0, lN v, (σ.1, σ.2.1, σ.2.2 + wd)) := by
      unfold sp_takeLength
      rw [hx]
    rw [e]
    exact ⟨h.1, (xlen_ok hx).2.2⟩
theorem so_takeNumber {σ : xS} {kind : Int32} (h : xok σ) : xok (sp_takeNumber σ kind).2.2 := by
  unfold sp_takeNumber
  by_cases h1 : kind < 0 ∨ 2 < kind
  · rw [if_pos h1]
    exact h
  · rw [if_neg h1]
    by_cases h2 : kind = 2
    · rw [if_pos h2]
      cases hx : xsmallAt σ.1 σ.2.1 σ.2.2 with
      | none => exact h
      | some r => exact ⟨h.1, (xsmallAt_w hx).2⟩
    · rw [if_neg h2]
      cases hx : xnumAt σ.1 σ.2.1 kind σ.2.2 with
      | none => exact h
      | some r => exact ⟨h.1, (xnumAt_w hx).2⟩
theorem xcut_ok {n : Nat} {p : Int32} (hn : n ≤ 65536) (h : ¬ (p < 0 ∨ nI n < p)) : p.toNatClampNeg ≤ n := by
  obtain ⟨j, hj, rfl⟩ := nI_of (fun z => h (Or.inl z))
  rw [nI_clamp hj]
  exact Nat.not_lt.mp (fun z => h (Or.inr ((nI_ltI (by omega) hj).mpr z)))
theorem so_go {σ : xS} {k : Int32} (h : xok σ) : xok (sp_go σ k).2.2 := by
  unfold sp_go
  split
  · exact h
  · rename_i g
    exact ⟨h.1, xcut_ok h.1 g⟩
theorem so_turn {σ : xS} {k : Int32} (h : xok σ) : xok (sp_turn σ k).2.2 := by
  unfold sp_turn
  split
  · exact h
  · exact h
theorem so_cut {σ : xS} {k : Int32} (h : xok σ) : xok (sp_cut σ k).2.2 := by
  unfold sp_cut
  split
  · exact h
  · rename_i g
    exact ⟨Nat.le_trans (xcut_ok h.1 g) h.1, Nat.min_le_right _ _⟩
theorem so_count {σ : xS} {k : Int32} (h : xok σ) : xok (sp_count σ k).2.2 := by
  unfold sp_count
  split
  · exact h
  · split <;> exact h
theorem s2_write (σ : xS) (x : Int64) (k : Nat) {cd : Nat} (h : cd ≤ 2) : (sp_write σ x k cd).1 ≤ 2 := by
  unfold sp_write
  split
  · exact h
  · exact Nat.zero_le 2
theorem s2_put (σ : xS) (x : Int64) (k : Int32) : (sp_put σ x k).1 ≤ 2 := by
  unfold sp_put
  split
  · exact Nat.le_of_ble_eq_true rfl
  · exact s2_write _ _ _ (by decide)
theorem s2_putRange (σ : xS) (lo hi x : Int64) : (sp_putRange σ lo hi x).1 ≤ 2 := by
  unfold sp_putRange
  split
  · exact Nat.le_of_ble_eq_true rfl
  · exact s2_write _ _ _ (by decide)
theorem s2_putLength (σ : xS) (k : Int32) : (sp_putLength σ k).1 ≤ 2 := by
  unfold sp_putLength
  split
  · exact Nat.le_of_ble_eq_true rfl
  · dsimp only
    split <;> simp
theorem s2_putNumber (σ : xS) (kind : Int32) (x : Int64) : (sp_putNumber σ kind x).1 ≤ 2 := by
  unfold sp_putNumber
  split
  · exact Nat.le_of_ble_eq_true rfl
  · split
    · exact s2_write _ _ _ (by decide)
    · split <;> simp
theorem s2_fill (σ : xS) : (sp_fill σ).1 ≤ 2 := s2_write _ _ _ (by decide)
theorem s2_take (σ : xS) (k : Int32) : (sp_take σ k).1 ≤ 2 := by
  unfold sp_take
  split
  · exact Nat.le_of_ble_eq_true rfl
  · split <;> simp
theorem s2_takeRange (σ : xS) (lo hi : Int64) : (sp_takeRange σ lo hi).1 ≤ 2 := by
  unfold sp_takeRange
  split
  · exact Nat.le_of_ble_eq_true rfl
  · split <;> simp
theorem s2_takeLength (σ : xS) : (sp_takeLength σ).1 ≤ 2 := by
  unfold sp_takeLength
  split <;> simp
theorem s2_takeNumber (σ : xS) (kind : Int32) : (sp_takeNumber σ kind).1 ≤ 2 := by
  unfold sp_takeNumber
  split
  · exact Nat.le_of_ble_eq_true rfl
  · split <;> simp
theorem s2_go (σ : xS) (k : Int32) : (sp_go σ k).1 ≤ 2 := by
  unfold sp_go
  split <;> simp
theorem s2_turn (σ : xS) (k : Int32) : (sp_turn σ k).1 ≤ 2 := by
  unfold sp_turn
  split <;> simp
theorem s2_cut (σ : xS) (k : Int32) : (sp_cut σ k).1 ≤ 2 := by
  unfold sp_cut
  split <;> simp
theorem s2_count (σ : xS) (k : Int32) : (sp_count σ k).1 ≤ 2 := by
  unfold sp_count
  split
  · simp
  · split <;> simp
end XLO
/-! THE CLAIM OUT OF ONE WALK OF THE LAW'S BODY (rows lw_ pasted from the skeleton). -/
def R_law : String := "PackedBitsLaw"
def lw_P (b : Addr) (xs : List Int32) (args : Array Value) (s : State) : Prop := args = #[.ref b] ∧ s.IntsAt b xs ∧ xs.length ≤ 3584 ∧ (Jvm.Cond.and given_1 narrow_1).before args s = true
def lw_Q (_ : Array Value) (s : State) (o : Outcome) (t : State) : Prop := o = .returned (some (.int 1)) ∧ Framed s o t [] 601024 7293034
def lw_Z (below : List Frame) (a : Array Value) (s : State) : State → Prop := fun t => ∃ o, t.status = .running ∧ Ended t below o ∧ lw_Q a s o t
theorem lw_ret {p : Program} {l : Launch} {e : Env} {s : State} {m : MethodId} {below : List Frame} {meth : Method} {c : Code} {b : Nat} (hx : p.tables.exec = Jvm.exec) (hb : c.code = code) (hr : meth.sig.returnType = ret) (hlocks : meth.locks = false) {pc : Nat} {H : Heap} {ls : Array Slot} (hdg : decode code pc = .ok (.ireturn, 1)) : W p l e room_1 s m #[Value.ref b] below meth c H [] 601024 7293034 (lw_Z below #[Value.ref b] s) (F0 m pc ls [.int 1]) := by
  intro T hT X
  obtain ⟨fs, hret, hrun, hended, hW, hframe⟩ := X.leave (v := some (.int 1)) (hlocks := hlocks) (fun h => by rw [hr] at h; cases h)
  have hmeth' : T.vm.method? m = some meth := X.method'
  refine ⟨T.setFrames fs, ?_, .returned (some (.int 1)), hrun, hended, rfl, ⟨_, rfl⟩, hW, hframe⟩
  jvm_step X.here [X.here.top, hx, hb, hdg, hmeth', hr, ret, narrow_b1]
  (try refine ⟨rfl, ?_⟩); (try refine ⟨rfl, ?_⟩)
  first | (intro acts; rw [hret _ acts rfl rfl rfl]) | rw [hret _ _ rfl rfl rfl]
  exact Steps.refl _
def lw_At (p : Program) (s : State) (m : MethodId) (meth : Method) (c : Code) (b L : Nat) (xs : Nat → Int32) : Prop :=
  p.tables.exec = Jvm.exec ∧ c.code = code ∧ meth.sig.returnType = ret ∧ c.maxLocals = 8 ∧ s.vm.findClass R_law = some m.cls ∧ (∀ w ∈ lw_tbl, w.before #[Value.ref b] s = true) ∧ va_X b L xs s s.heap ∧ b < s.heap.size ∧ meth.locks = false ∧ (Jvm.Cond.and given_1 narrow_1).before #[Value.ref b] s = true
section XLL
/-- what is new since s -/
def xnew (s : State) : Nat → Prop := fun q => s.heap.size ≤ q
/-- the law's cells are new, and apart: the class's two, the reference's two, its own row -/
def xAp (sz x w b r o : Nat) : Prop := (sz ≤ x ∧ sz ≤ w ∧ sz ≤ b ∧ sz ≤ r ∧ sz ≤ o) ∧ (x ≠ w ∧ b ≠ r) ∧ (o ≠ x ∧ o ≠ w ∧ o ≠ b ∧ o ≠ r) ∧ (b ≠ x ∧ b ≠ w ∧ r ≠ x ∧ r ≠ w)
/-- what holds all through the law's loop -/
def xCx (p : Program) (l : Launch) (s : State) (m : MethodId) (c : Code) (scr L : Nat) (xs : Nat → Int32) (D : va_G) (x w b r o : Nat) (cJ cZ : ClassId) : Prop :=
  CallFix p m c code 8 s #[Value.ref scr] XT R_L ∧ l.stackTraces = false ∧ va_K D xcl (xty cJ cZ) s ∧ xNc s ∧ (vx_Zq Bundle.tN "UNASSIGNED_STACK" Bundle.steD (xnew s) s s.heap ∧ vx_Zq Bundle.tN "SUPPRESSED_SENTINEL" Bundle.listD (xnew s) s s.heap) ∧ va_X scr L xs s s.heap ∧ scr < s.heap.size ∧ L ≤ 3584 ∧ xAp s.heap.size x w b r o
theorem xq_at {s : State} {H : Heap} {locs : List Loc} (h : vx_Zq Bundle.tN "UNASSIGNED_STACK" Bundle.steD (xnew s) s s.heap ∧ vx_Zq Bundle.tN "SUPPRESSED_SENTINEL" Bundle.listD (xnew s) s s.heap) (hS : va_S (xnew s) s.heap H locs) : ∀ U : State, U.heap = H → s.WarmedH U.vm → xq U := by
  intro U hU hW
  refine ⟨?_, ?_⟩
  · rw [hU]
    exact (vx_Zq.moved hW.alike (h.1.kept hS.2.1)).narrow (fun _ z => z.elim)
  · rw [hU]
    exact (vx_Zq.moved hW.alike (h.2.kept hS.2.1)).narrow (fun _ z => z.elim)
theorem PM.lt {D : va_G} {b r : Nat} {cZ : ClassId} {β : Nat → Bool} {n q : Nat} {fa : Int32} {rd : Nat} {gd : Bool} {H : Heap} (h : PM D b r cZ β n q fa rd gd H) : b < H.size ∧ r < H.size := ⟨(h 0 _ rfl).lt, (h 1 _ rfl).lt⟩
theorem PX.lt {D : va_G} {a w : Nat} {cJ : ClassId} {β : Nat → Bool} {n q : Nat} {H : Heap} (h : PX D a w cJ β n q H) : a < H.size ∧ w < H.size := by
  obtain ⟨f, -, h⟩ := h
  exact ⟨(h 0 _ rfl).lt, (h 1 _ rfl).lt⟩
/-- the words that a call of a method of the law asks -/
def xwW (idx : Nat) (y : MethodName) (cc : ByteArray) (maxL : Nat) (hs : List (Nat × Nat × Nat × Nat)) (n : Nat) : Prop :=
  (y.cls ≠ "java/lang/invoke/MethodHandle" ∧ y.cls ≠ "java/lang/invoke/VarHandle" ∧ (parseMethodDescriptor y.desc).map (fun d => d.parameters.length) = some n) ∧ Cond.codeWith y cc maxL (some .int) hs ∈ XT ∧ Cond.initialized y.cls ∈ XT ∧ Cond.methodLink R_L idx y ∈ XT ∧ Cond.static y ∈ XT
variable {p : Program} {l : Launch} {e : Env} {s : State} {m : MethodId} {below : List Frame} {meth : Method} {c : Code} {H : Heap} {cells slots : Nat} {Q : State → Prop}
variable {scr L : Nat} {xs : Nat → Int32} {D : va_G} {x w b r o : Nat} {cJ cZ : ClassId} {β β' : Nat → Bool} {n q n' q' : Nat} {f : Nat → Int64} {fa : Int32} {rd : Nat} {gd : Bool}
variable {pc : Nat} {ls : Array Slot} {rest st0 As : List Value} {y : MethodName} {cc : ByteArray} {maxL k idx : Nat} {z : Nat × Int64 × xS}
theorem xk_wrap {hs : List (Nat × Nat × Nat × Nat)} (C : xCx p l s m c scr L xs D x w b r o cJ cZ) (hM : xWr l y (Cond.codeWith y cc maxL (some .int) hs :: XT) (xrm 7) As D x w o cJ cZ β n q f z) (hw : xwW idx y cc maxL hs k) (hmx : maxL ≤ 100)
    (hP : PX D x w cJ β n q H) (hPM : PM D b r cZ β' n' q' fa rd gd H) (hO : xOut D o cJ f H) (hS : va_S (xnew s) s.heap H []) (hn : As.length = k) (hsize : ls.size = 8) (hstack : st0 = As.reverse ++ rest) (hW : (rest.map fun v => v.category).sum ≤ 8) (hc : cells + 1 ≤ 601024) (hsl : slots + 6 ≤ 7293034) (hdg : decode code pc = .ok (.invokestatic idx, 3))
    (kk : ∀ (H1 : Heap) (f1 : Nat → Int64), (z.1 = 0 → f1 0 = z.2.1) → PX D x w cJ z.2.2.1 z.2.2.2.1 z.2.2.2.2 H1 → PM D b r cZ β' n' q' fa rd gd H1 → xOut D o cJ f1 H1 → va_S (xnew s) s.heap H1 [] → W p l e room_1 s m #[Value.ref scr] below meth c H1 [] (cells + 1) (slots + 6) Q (F0 m (pc + 3) ls (.int (nI z.1) :: rest))) :
    W p l e room_1 s m #[Value.ref scr] below meth c H [] cells slots Q (F0 m pc ls st0) := by
  obtain ⟨E, hL, hK, hN, hQ0, hX, hsc, hLb, ⟨a1, a2, a3, a4, a5⟩, ⟨b1, b2⟩, ⟨c1, c2, c3, c4⟩, d1, d2, d3, d4⟩ := C
  obtain ⟨⟨h1, h2, h3⟩, h4, h5, h6, h7⟩ := hw
  have hts := E.2.2.2.2
  have hB := wL.call (o := o) hP hK (xq_at hQ0 hS) hO hN
  have hR1 : (xrm 7).frames + 1 ≤ room_1.frames ∧ 8 + (maxL + 11) + (xrm 7).locals ≤ room_1.locals := ⟨by decide, by show 8 + (maxL + 11) + 380 ≤ 582; omega⟩
  refine xl_goes (A0 := xnew s) (H0 := s.heap) (rest := rest) (xl_runS (As := As) E hM hR1 (fun w' hw' a' U hW' => ?_) (hts _ h5) ⟨h1, h2⟩ (xl_C.codeWith (hts _ h4) h3) (hts _ h6) (hts _ h7) ⟨fun a' U g mk h => ⟨h.1, hB.2 U g mk a' h.2⟩, fun U hU hW' => ⟨rfl, hB.1 U hU hW'⟩⟩ rfl hn hsize hstack (lv_room hW) hdg ⟨hc, hsl⟩) hS ?_ ?_ ?_ ?_
  · have hw'' : w' ∈ XT := by
      rcases List.mem_cons.mp hw' with rfl | h
      · exact h4
      · exact h
    exact xG_at hW' (xGT w' hw'') (hts w' hw'')
  · rintro q9 - ((rfl | rfl) | rfl)
    · exact a1
    · exact a2
    · exact a5
  · rintro q9 ((rfl | rfl) | rfl)
    · exact a1
    · exact a2
    · exact a5
  · rintro v st t locs1 h0 hal ⟨rfl, hP1, f1, hO1, hf1⟩ hS1 hz hkp
    refine va_forget hS1.2.2 (kk t.heap f1 hf1 hP1 (hPM.kept (hkp b hPM.lt.1 ?_) (hkp r hPM.lt.2 ?_)) hO1 ⟨hS1.1, hS1.2.1, fun _ h => by cases h⟩)
    · rintro ((g | g) | g)
      · exact d1 g
      · exact d2 g
      · exact c3 g.symm
    · rintro ((g | g) | g)
      · exact d3 g
      · exact d4 g
      · exact c4 g.symm
  · intro v st t locs1 h0 hal hth
    exact hth.elim
/-- a call of the reference that may write -/
theorem xk_model {ret : Option FieldType} {Rt : Option Value → State → State → Prop} (C : xCx p l s m c scr L xs D x w b r o cJ cZ) (hM : xM l y (Cond.code y cc maxL ret :: XT) (xrm 2) (.ref b :: As) (wM D b r cJ cZ β' n' q' fa rd gd) (xA2 b r) Rt (fun _ _ _ => False)) (hw : xwV XT R_L idx y cc maxL ret k) (hyM : y.cls = R_M) (hmx : maxL ≤ 100)
    (hP : PX D x w cJ β n q H) (hPM : PM D b r cZ β' n' q' fa rd gd H) (hO : xOut D o cJ f H) (hS : va_S (xnew s) s.heap H []) (hn : As.length = k) (hsize : ls.size = 8) (hstack : st0 = As.reverse ++ .ref b :: rest) (hW : (rest.map fun v => v.category).sum ≤ 8) (hc : cells + 1 ≤ 601024) (hsl : slots + 6 ≤ 7293034) (hdg : decode code pc = .ok (.invokevirtual idx, 3))
    (kk : ∀ (v : Option Value) (st t : State), Rt v st t → PX D x w cJ β n q t.heap → xOut D o cJ f t.heap → va_S (xnew s) s.heap t.heap [] → W p l e room_1 s m #[Value.ref scr] below meth c t.heap [] cells slots Q (F0 m (pc + 3) ls (v.toList ++ rest))) :
    W p l e room_1 s m #[Value.ref scr] below meth c H [] cells slots Q (F0 m pc ls st0) := by
  obtain ⟨E, hL, hK, hN, hQ0, hX, hsc, hLb, ⟨a1, a2, a3, a4, a5⟩, ⟨b1, b2⟩, ⟨c1, c2, c3, c4⟩, d1, d2, d3, d4⟩ := C
  have hol := hO.lt
  refine xg_goes (A0 := xnew s) (H0 := s.heap) (xc_V E xGT hM hw ⟨by decide, by show 8 + (maxL + 11) + 180 ≤ 582; omega, hc, hsl⟩ (wM.call hPM hK) (by rw [hyM]; exact PM.recv hPM hK) hn hsize hstack hW hdg) hS ?_ ?_ ?_ ?_
  · rintro q9 - (rfl | rfl)
    · exact a3
    · exact a4
  · rintro q9 (rfl | rfl)
    · exact a3
    · exact a4
  · intro v st t locs1 h0 hal hrt hS1 hz hkp
    refine va_forget hS1.2.2 (kk v st t hrt (hP.kept (hkp x hP.lt.1 ?_) (hkp w hP.lt.2 ?_)) (hO.kept (hkp o hol ?_)) ⟨hS1.1, hS1.2.1, fun _ h => by cases h⟩)
    · rintro (g | g)
      · exact d1 g.symm
      · exact d3 g.symm
    · rintro (g | g)
      · exact d2 g.symm
      · exact d4 g.symm
    · rintro (g | g)
      · exact c3 g
      · exact c4 g
  · intro v st t locs1 h0 hal hth
    exact hth.elim
theorem xk_thrown (C : xCx p l s m c scr L xs D x w b r o cJ cZ) (hPM : PM D b r cZ β' n' q' fa rd gd H) (hsize : ls.size = 8) (hW : (rest.map fun v => v.category).sum ≤ 8) (hc : cells + 1 ≤ 601024) (hsl : slots + 6 ≤ 7293034) (hdg : decode code pc = .ok (.invokevirtual 74, 3))
    (kk : W p l e room_1 s m #[Value.ref scr] below meth c H [] cells slots Q (F0 m (pc + 3) ls (.int fa :: rest))) :
    W p l e room_1 s m #[Value.ref scr] below meth c H [] cells slots Q (F0 m pc ls (.ref b :: rest)) := by
  obtain ⟨E, hL, hK, -⟩ := C
  refine xg_looks (xc_V (As := []) E xGT (m_thrown l D b r cJ cZ β' n' q' fa rd gd) vw_L_M_thrown ⟨by decide, by decide, by show cells + 1 ≤ 601024; omega, by show slots + 6 ≤ 7293034; omega⟩ (wM.call hPM hK) (PM.recv hPM hK) rfl hsize rfl hW hdg) (fun v st t h => h.2) (fun v st t h0 hal hrt => ?_) (fun x st t h0 hal hth hz => hth.elim)
  obtain ⟨rfl, -⟩ := hrt
  exact kk
end XLL
section XLN
/-- the walk from the end of a case on -/
def xNext (p : Program) (l : Launch) (e : Env) (s : State) (m : MethodId) (below : List Frame) (meth : Method) (c : Code) (scr : Nat) (D : va_G) (x w b r o : Nat) (cJ cZ : ClassId) (j : Nat) : Prop :=
  ∀ (σ : xS) (H1 : Heap) (ls1 : Array Slot) (f1 : Nat → Int64) (fa1 : Int32) (rd1 : Nat) (gd1 : Bool), xok σ → PX D x w cJ σ.1 σ.2.1 σ.2.2 H1 → PM D b r cZ σ.1 σ.2.1 σ.2.2 fa1 rd1 gd1 H1 → xOut D o cJ f1 H1 → va_S (xnew s) s.heap H1 [] → lv_has ls1 8 [(4, .int (nI (7 * j))), (3, .ref o), (2, .ref b), (1, .ref x), (0, .ref scr)] →
    W p l e room_1 s m #[Value.ref scr] below meth c H1 [] (5 + j + 1) (66570 + 6 * j + 6) (lw_Z below #[Value.ref scr] s) (F0 m 1102 ls1 [])
theorem xz_bool2 {v : Int64} {i : Int32} (h : v = 0 ∨ v = 1) (hi : i.toInt64 = v) (hn : ¬ i = 0) : (1 : Int64) = v := by
  rcases h with g | g
  · rw [g] at hi
    refine absurd ?_ hn
    rw [← Int32.toInt_inj]
    have h1 := congrArg Int64.toInt hi
    rw [Int32.toInt_toInt64] at h1
    exact h1
  · exact g.symm
end XLN
end
section
/-! The law's cases: put. -/
section XL34a
theorem ww_put : xwW 68 y_L_put b_L_put 6 [(0, 11, 14, 13), (0, 11, 18, 15)] 4 := ⟨⟨by decide, by decide, by decide +kernel⟩, cw_L_put, in_L_ini, lk_L_put, st_L_put⟩
set_option maxHeartbeats 4000000 in
set_option maxRecDepth 100000 in
theorem k_put {p : Program} {l : Launch} {e : Env} {s : State} {m : MethodId} {below : List Frame} {meth : Method} {c : Code} {scr L : Nat} {xs : Nat → Int32} {D : va_G} {x w b r o : Nat} {cJ cZ : ClassId} {β : Nat → Bool} {n q : Nat} {f : Nat → Int64} {fa : Int32} {rd : Nat} {gd : Bool} {H : Heap} {ls : Array Slot} (C : xCx p l s m c scr L xs D x w b r o cJ cZ) (j : Nat) (hj : 7 * j + 7 ≤ L) (hok : xok (β, n, q)) (hP : PX D x w cJ β n q H) (hPM : PM D b r cZ β n q fa rd gd H) (hO : xOut D o cJ f H) (hS : va_S (xnew s) s.heap H []) (hl : lv_has ls 8 [(4, .int (nI (7 * j))), (3, .ref o), (2, .ref b), (1, .ref x), (0, .ref scr)])
    (next : xNext p l e s m below meth c scr D x w b r o cJ cZ j) :
    W p l e room_1 s m #[Value.ref scr] below meth c H [] (5 + j) (66570 + 6 * j) (lw_Z below #[Value.ref scr] s) (F0 m 108 ls []) := by
  have C0 := C
  obtain ⟨E, hL, hK, hN, hQ0, hX, hsc, hLb, hap⟩ := C
  have hbA : ¬ xnew s scr := fun z => Nat.not_le.mpr hsc z
  refine lv_aload_n E.1 E.2.1 d_L_law_108 rfl (lv_at hl 3 rfl) ?_
  refine lv_aload_n E.1 E.2.1 d_L_law_109 rfl (lv_at hl 4 rfl) ?_
  refine lv_iload E.1 E.2.1 d_L_law_110 (lv_at hl 0 rfl) ?_
  refine lv_iconst (v := 1) E.1 E.2.1 d_L_law_112 (by decide) ?_
  refine lv_iadd E.1 E.2.1 d_L_law_113 ?_
  refine xl_ti (y := nI (7 * j + 1)) (nI_add (7 * j) 1) ?_
  refine va_sld E.1 E.2.1 hX hsc hbA hS (vp_in_nI (n := 7 * j + 1) (by omega) (by omega)) d_L_law_114 ?_
  refine xl_ti (y := xs (7 * j + 1)) (by rw [nI_clamp (by omega)]) ?_
  refine lv_i2l (v := (xs (7 * j + 1)).toInt64) E.1 E.2.1 d_L_law_115 rfl ?_
  refine lv_bipush (v := 32) E.1 E.2.1 d_L_law_116 (by decide) ?_
  refine lv_lshl (v := xsl ((xs (7 * j + 1)).toInt64) 32) E.1 E.2.1 d_L_law_118 rfl ?_
  refine lv_aload_n E.1 E.2.1 d_L_law_119 rfl (lv_at hl 4 rfl) ?_
  refine lv_iload E.1 E.2.1 d_L_law_120 (lv_at hl 0 rfl) ?_
  refine lv_iconst (v := 2) E.1 E.2.1 d_L_law_122 (by decide) ?_
  refine lv_iadd E.1 E.2.1 d_L_law_123 ?_
  refine xl_ti (y := nI (7 * j + 2)) (nI_add (7 * j) 2) ?_
  refine va_sld E.1 E.2.1 hX hsc hbA hS (vp_in_nI (n := 7 * j + 2) (by omega) (by omega)) d_L_law_124 ?_
  refine xl_ti (y := xs (7 * j + 2)) (by rw [nI_clamp (by omega)]) ?_
  refine lv_i2l (v := (xs (7 * j + 2)).toInt64) E.1 E.2.1 d_L_law_125 rfl ?_
  refine lv_ldc2 (v := 4294967295) E.1 E.2.1 E.2.2.2.1 (E.2.2.2.2 _ co_L_66) d_L_law_126 ?_
  refine lv_land E.1 E.2.1 d_L_law_129 ?_
  refine lv_lor E.1 E.2.1 d_L_law_130 ?_
  refine lv_aload_n E.1 E.2.1 d_L_law_131 rfl (lv_at hl 4 rfl) ?_
  refine lv_iload E.1 E.2.1 d_L_law_132 (lv_at hl 0 rfl) ?_
  refine lv_iconst (v := 3) E.1 E.2.1 d_L_law_134 (by decide) ?_
  refine lv_iadd E.1 E.2.1 d_L_law_135 ?_
  refine xl_ti (y := nI (7 * j + 3)) (nI_add (7 * j) 3) ?_
  refine va_sld E.1 E.2.1 hX hsc hbA hS (vp_in_nI (n := 7 * j + 3) (by omega) (by omega)) d_L_law_136 ?_
  refine xl_ti (y := xs (7 * j + 3)) (by rw [nI_clamp (by omega)]) ?_
  refine lv_aload_n E.1 E.2.1 d_L_law_137 rfl (lv_at hl 1 rfl) ?_
  refine xk_wrap C0 (l_put l hL D x w o cJ cZ β n q f hok.1 hok.2 hap.2.1.1 hap.2.2.1.1 hap.2.2.1.2.1 ((xsl ((xs (7 * j + 1)).toInt64) 32) ||| (((xs (7 * j + 2)).toInt64) &&& 4294967295)) (xs (7 * j + 3))) ww_put (by decide) hP hPM hO hS rfl hl.1 rfl (Nat.le_of_ble_eq_true rfl) (by omega) (by omega) d_L_law_138 (fun H1 f1 hf1 hP1 hPM1 hO1 hS1 => ?_)
  clear hP hPM hO hS
  have hS := hS1
  refine W.eq (g2 := F0 m 141 ls [.int (nI (sp_put (β, n, q) ((xsl ((xs (7 * j + 1)).toInt64) 32) ||| (((xs (7 * j + 2)).toInt64) &&& 4294967295)) (xs (7 * j + 3))).1)]) rfl ?_
  refine lv_istore E.1 E.2.1 d_L_law_141 hl (by decide) rfl (fun ls hl => ?_)
  have hl : lv_has ls 8 [(5, .int (nI (sp_put (β, n, q) ((xsl ((xs (7 * j + 1)).toInt64) 32) ||| (((xs (7 * j + 2)).toInt64) &&& 4294967295)) (xs (7 * j + 3))).1)), (4, .int (nI (7 * j))), (3, .ref o), (2, .ref b), (1, .ref x), (0, .ref scr)] := hl
  refine lv_aload_n E.1 E.2.1 d_L_law_143 rfl (lv_at hl 3 rfl) ?_
  refine lv_aload_n E.1 E.2.1 d_L_law_144 rfl (lv_at hl 5 rfl) ?_
  refine lv_iload E.1 E.2.1 d_L_law_145 (lv_at hl 1 rfl) ?_
  refine lv_iconst (v := 1) E.1 E.2.1 d_L_law_147 (by decide) ?_
  refine lv_iadd E.1 E.2.1 d_L_law_148 ?_
  refine xl_ti (y := nI (7 * j + 1)) (nI_add (7 * j) 1) ?_
  refine va_sld E.1 E.2.1 hX hsc hbA hS (vp_in_nI (n := 7 * j + 1) (by omega) (by omega)) d_L_law_149 ?_
  refine xl_ti (y := xs (7 * j + 1)) (by rw [nI_clamp (by omega)]) ?_
  refine lv_i2l (v := (xs (7 * j + 1)).toInt64) E.1 E.2.1 d_L_law_150 rfl ?_
  refine lv_bipush (v := 32) E.1 E.2.1 d_L_law_151 (by decide) ?_
  refine lv_lshl (v := xsl ((xs (7 * j + 1)).toInt64) 32) E.1 E.2.1 d_L_law_153 rfl ?_
  refine lv_aload_n E.1 E.2.1 d_L_law_154 rfl (lv_at hl 5 rfl) ?_
  refine lv_iload E.1 E.2.1 d_L_law_155 (lv_at hl 1 rfl) ?_
  refine lv_iconst (v := 2) E.1 E.2.1 d_L_law_157 (by decide) ?_
  refine lv_iadd E.1 E.2.1 d_L_law_158 ?_
  refine xl_ti (y := nI (7 * j + 2)) (nI_add (7 * j) 2) ?_
  refine va_sld E.1 E.2.1 hX hsc hbA hS (vp_in_nI (n := 7 * j + 2) (by omega) (by omega)) d_L_law_159 ?_
  refine xl_ti (y := xs (7 * j + 2)) (by rw [nI_clamp (by omega)]) ?_
  refine lv_i2l (v := (xs (7 * j + 2)).toInt64) E.1 E.2.1 d_L_law_160 rfl ?_
  refine lv_ldc2 (v := 4294967295) E.1 E.2.1 E.2.2.2.1 (E.2.2.2.2 _ co_L_66) d_L_law_161 ?_
  refine lv_land E.1 E.2.1 d_L_law_164 ?_
  refine lv_lor E.1 E.2.1 d_L_law_165 ?_
  refine lv_aload_n E.1 E.2.1 d_L_law_166 rfl (lv_at hl 5 rfl) ?_
  refine lv_iload E.1 E.2.1 d_L_law_167 (lv_at hl 1 rfl) ?_
  refine lv_iconst (v := 3) E.1 E.2.1 d_L_law_169 (by decide) ?_
  refine lv_iadd E.1 E.2.1 d_L_law_170 ?_
  refine xl_ti (y := nI (7 * j + 3)) (nI_add (7 * j) 3) ?_
  refine va_sld E.1 E.2.1 hX hsc hbA hS (vp_in_nI (n := 7 * j + 3) (by omega) (by omega)) d_L_law_171 ?_
  refine xl_ti (y := xs (7 * j + 3)) (by rw [nI_clamp (by omega)]) ?_
  refine xk_model C0 (m_put l D b r cJ cZ β n q fa rd gd hok.1 hap.2.1.2 ((xsl ((xs (7 * j + 1)).toInt64) 32) ||| (((xs (7 * j + 2)).toInt64) &&& 4294967295)) (xs (7 * j + 3))) vw_L_M_put rfl (by decide) hP1 hPM1 hO1 hS1 rfl hl.1 rfl (Nat.le_of_ble_eq_true rfl) (by omega) (by omega) d_L_law_172 (fun v st t hrt hP2 hO2 hS2 => ?_)
  obtain ⟨i, rd2, gd2, rfl, hi, hPM2⟩ := hrt
  generalize t.heap = H2 at hPM2 hP2 hO2 hS2 ⊢
  refine W.eq (g2 := F0 m 175 ls [.int i]) rfl ?_
  have hs2 := s2_put (β, n, q) ((xsl ((xs (7 * j + 1)).toInt64) 32) ||| (((xs (7 * j + 2)).toInt64) &&& 4294967295)) (xs (7 * j + 3))
  have hok2 : xok (sp_put (β, n, q) ((xsl ((xs (7 * j + 1)).toInt64) 32) ||| (((xs (7 * j + 2)).toInt64) &&& 4294967295)) (xs (7 * j + 3))).2.2 := so_put hok
  generalize sp_put (β, n, q) ((xsl ((xs (7 * j + 1)).toInt64) 32) ||| (((xs (7 * j + 2)).toInt64) &&& 4294967295)) (xs (7 * j + 3)) = z at hf1 hi hPM2 hP2 hl hs2 hok2 ⊢
  refine lv_istore E.1 E.2.1 d_L_law_175 hl (by decide) rfl (fun ls hl => ?_)
  have hl : lv_has ls 8 [(6, .int i), (5, .int (nI z.1)), (4, .int (nI (7 * j))), (3, .ref o), (2, .ref b), (1, .ref x), (0, .ref scr)] := hl
  refine lv_aload_n E.1 E.2.1 d_L_law_177 rfl (lv_at hl 4 rfl) ?_
  refine xk_thrown C0 hPM2 hl.1 (Nat.le_of_ble_eq_true rfl) (by omega) (by omega) d_L_law_178 ?_
  refine lv_iload E.1 E.2.1 d_L_law_181 (lv_at hl 1 rfl) ?_
  have hfin : W p l e room_1 s m #[Value.ref scr] below meth c H2 [] (5 + j + 1) (66570 + 6 * j + 6) (lw_Z below #[Value.ref scr] s) (F0 m 1102 ls []) := next z.2.2 H2 ls f1 _ rd2 gd2 hok2 hP2 hPM2 hO2 hS2 (lv_sub hl [2, 3, 4, 5, 6] rfl)
  refine lv_icmp_eq (tgt := 188) E.1 E.2.1 d_L_law_183 (by decide) (fun h1 => ?_) (fun h1 => ?_)
  · skip
    refine lv_iload E.1 E.2.1 d_L_law_188 (lv_at hl 1 rfl) ?_
    refine lv_if_ne (tgt := 205) E.1 E.2.1 d_L_law_190 (by decide) (fun h2 => ?_) (fun h2 => ?_)
    · skip
      refine lv_goto (tgt := 1102) E.1 E.2.1 d_L_law_205 (by decide) ?_
      exact hfin
    · skip
      have h2 : z.1 = 0 := (nI_eq (b := 0) (by omega) (by decide)).mp h2
      refine lv_aload_n E.1 E.2.1 d_L_law_193 rfl (lv_at hl 3 rfl) ?_
      refine lv_iconst (v := 0) E.1 E.2.1 d_L_law_194 (by decide) ?_
      refine va_lald E.1 E.2.1 hK hO2 0 0 rfl rfl (vp_in_nI (n := 0) (N := 1) (by decide) (by decide)) d_L_law_195 ?_
      refine xl_tl (y := z.2.1) (hf1 h2) ?_
      refine lv_iload E.1 E.2.1 d_L_law_196 (lv_at hl 0 rfl) ?_
      refine lv_i2l (v := i.toInt64) E.1 E.2.1 d_L_law_198 rfl ?_
      refine xl_tl (y := z.2.1) (hi h2) ?_
      refine xl_lc_eq (tgt := 205) E.1 E.2.1 d_L_law_199 d_L_law_200 (by decide) (fun h3 => ?_) (fun h3 => ?_)
      · skip
        refine lv_goto (tgt := 1102) E.1 E.2.1 d_L_law_205 (by decide) ?_
        exact hfin
      · skip
        exact absurd rfl h3
  · skip
    exact absurd rfl h1
end XL34a
end
section
/-! The law's cases: putRange. -/
section XL34b
theorem ww_putRange : xwW 77 y_L_putRange b_L_putRange 9 [(0, 13, 16, 13), (0, 13, 20, 15)] 5 := ⟨⟨by decide, by decide, by decide +kernel⟩, cw_L_putRange, in_L_ini, lk_L_putRange, st_L_putRange⟩
set_option maxHeartbeats 4000000 in
set_option maxRecDepth 100000 in
theorem k_putRange {p : Program} {l : Launch} {e : Env} {s : State} {m : MethodId} {below : List Frame} {meth : Method} {c : Code} {scr L : Nat} {xs : Nat → Int32} {D : va_G} {x w b r o : Nat} {cJ cZ : ClassId} {β : Nat → Bool} {n q : Nat} {f : Nat → Int64} {fa : Int32} {rd : Nat} {gd : Bool} {H : Heap} {ls : Array Slot} (C : xCx p l s m c scr L xs D x w b r o cJ cZ) (j : Nat) (hj : 7 * j + 7 ≤ L) (hok : xok (β, n, q)) (hP : PX D x w cJ β n q H) (hPM : PM D b r cZ β n q fa rd gd H) (hO : xOut D o cJ f H) (hS : va_S (xnew s) s.heap H []) (hl : lv_has ls 8 [(4, .int (nI (7 * j))), (3, .ref o), (2, .ref b), (1, .ref x), (0, .ref scr)])
    (next : xNext p l e s m below meth c scr D x w b r o cJ cZ j) :
    W p l e room_1 s m #[Value.ref scr] below meth c H [] (5 + j) (66570 + 6 * j) (lw_Z below #[Value.ref scr] s) (F0 m 208 ls []) := by
  have C0 := C
  obtain ⟨E, hL, hK, hN, hQ0, hX, hsc, hLb, hap⟩ := C
  have hbA : ¬ xnew s scr := fun z => Nat.not_le.mpr hsc z
  refine lv_aload_n E.1 E.2.1 d_L_law_208 rfl (lv_at hl 3 rfl) ?_
  refine lv_aload_n E.1 E.2.1 d_L_law_209 rfl (lv_at hl 4 rfl) ?_
  refine lv_iload E.1 E.2.1 d_L_law_210 (lv_at hl 0 rfl) ?_
  refine lv_iconst (v := 1) E.1 E.2.1 d_L_law_212 (by decide) ?_
  refine lv_iadd E.1 E.2.1 d_L_law_213 ?_
  refine xl_ti (y := nI (7 * j + 1)) (nI_add (7 * j) 1) ?_
  refine va_sld E.1 E.2.1 hX hsc hbA hS (vp_in_nI (n := 7 * j + 1) (by omega) (by omega)) d_L_law_214 ?_
  refine xl_ti (y := xs (7 * j + 1)) (by rw [nI_clamp (by omega)]) ?_
  refine lv_i2l (v := (xs (7 * j + 1)).toInt64) E.1 E.2.1 d_L_law_215 rfl ?_
  refine lv_bipush (v := 32) E.1 E.2.1 d_L_law_216 (by decide) ?_
  refine lv_lshl (v := xsl ((xs (7 * j + 1)).toInt64) 32) E.1 E.2.1 d_L_law_218 rfl ?_
  refine lv_aload_n E.1 E.2.1 d_L_law_219 rfl (lv_at hl 4 rfl) ?_
  refine lv_iload E.1 E.2.1 d_L_law_220 (lv_at hl 0 rfl) ?_
  refine lv_iconst (v := 2) E.1 E.2.1 d_L_law_222 (by decide) ?_
  refine lv_iadd E.1 E.2.1 d_L_law_223 ?_
  refine xl_ti (y := nI (7 * j + 2)) (nI_add (7 * j) 2) ?_
  refine va_sld E.1 E.2.1 hX hsc hbA hS (vp_in_nI (n := 7 * j + 2) (by omega) (by omega)) d_L_law_224 ?_
  refine xl_ti (y := xs (7 * j + 2)) (by rw [nI_clamp (by omega)]) ?_
  refine lv_i2l (v := (xs (7 * j + 2)).toInt64) E.1 E.2.1 d_L_law_225 rfl ?_
  refine lv_ldc2 (v := 4294967295) E.1 E.2.1 E.2.2.2.1 (E.2.2.2.2 _ co_L_66) d_L_law_226 ?_
  refine lv_land E.1 E.2.1 d_L_law_229 ?_
  refine lv_lor E.1 E.2.1 d_L_law_230 ?_
  refine lv_aload_n E.1 E.2.1 d_L_law_231 rfl (lv_at hl 4 rfl) ?_
  refine lv_iload E.1 E.2.1 d_L_law_232 (lv_at hl 0 rfl) ?_
  refine lv_iconst (v := 3) E.1 E.2.1 d_L_law_234 (by decide) ?_
  refine lv_iadd E.1 E.2.1 d_L_law_235 ?_
  refine xl_ti (y := nI (7 * j + 3)) (nI_add (7 * j) 3) ?_
  refine va_sld E.1 E.2.1 hX hsc hbA hS (vp_in_nI (n := 7 * j + 3) (by omega) (by omega)) d_L_law_236 ?_
  refine xl_ti (y := xs (7 * j + 3)) (by rw [nI_clamp (by omega)]) ?_
  refine lv_i2l (v := (xs (7 * j + 3)).toInt64) E.1 E.2.1 d_L_law_237 rfl ?_
  refine lv_bipush (v := 32) E.1 E.2.1 d_L_law_238 (by decide) ?_
  refine lv_lshl (v := xsl ((xs (7 * j + 3)).toInt64) 32) E.1 E.2.1 d_L_law_240 rfl ?_
  refine lv_aload_n E.1 E.2.1 d_L_law_241 rfl (lv_at hl 4 rfl) ?_
  refine lv_iload E.1 E.2.1 d_L_law_242 (lv_at hl 0 rfl) ?_
  refine lv_iconst (v := 4) E.1 E.2.1 d_L_law_244 (by decide) ?_
  refine lv_iadd E.1 E.2.1 d_L_law_245 ?_
  refine xl_ti (y := nI (7 * j + 4)) (nI_add (7 * j) 4) ?_
  refine va_sld E.1 E.2.1 hX hsc hbA hS (vp_in_nI (n := 7 * j + 4) (by omega) (by omega)) d_L_law_246 ?_
  refine xl_ti (y := xs (7 * j + 4)) (by rw [nI_clamp (by omega)]) ?_
  refine lv_i2l (v := (xs (7 * j + 4)).toInt64) E.1 E.2.1 d_L_law_247 rfl ?_
  refine lv_ldc2 (v := 4294967295) E.1 E.2.1 E.2.2.2.1 (E.2.2.2.2 _ co_L_66) d_L_law_248 ?_
  refine lv_land E.1 E.2.1 d_L_law_251 ?_
  refine lv_lor E.1 E.2.1 d_L_law_252 ?_
  refine lv_aload_n E.1 E.2.1 d_L_law_253 rfl (lv_at hl 4 rfl) ?_
  refine lv_iload E.1 E.2.1 d_L_law_254 (lv_at hl 0 rfl) ?_
  refine lv_iconst (v := 5) E.1 E.2.1 d_L_law_256 (by decide) ?_
  refine lv_iadd E.1 E.2.1 d_L_law_257 ?_
  refine xl_ti (y := nI (7 * j + 5)) (nI_add (7 * j) 5) ?_
  refine va_sld E.1 E.2.1 hX hsc hbA hS (vp_in_nI (n := 7 * j + 5) (by omega) (by omega)) d_L_law_258 ?_
  refine xl_ti (y := xs (7 * j + 5)) (by rw [nI_clamp (by omega)]) ?_
  refine lv_i2l (v := (xs (7 * j + 5)).toInt64) E.1 E.2.1 d_L_law_259 rfl ?_
  refine lv_bipush (v := 32) E.1 E.2.1 d_L_law_260 (by decide) ?_
  refine lv_lshl (v := xsl ((xs (7 * j + 5)).toInt64) 32) E.1 E.2.1 d_L_law_262 rfl ?_
  refine lv_aload_n E.1 E.2.1 d_L_law_263 rfl (lv_at hl 4 rfl) ?_
  refine lv_iload E.1 E.2.1 d_L_law_264 (lv_at hl 0 rfl) ?_
  refine lv_bipush (v := 6) E.1 E.2.1 d_L_law_266 (by decide) ?_
  refine lv_iadd E.1 E.2.1 d_L_law_268 ?_
  refine xl_ti (y := nI (7 * j + 6)) (nI_add (7 * j) 6) ?_
  refine va_sld E.1 E.2.1 hX hsc hbA hS (vp_in_nI (n := 7 * j + 6) (by omega) (by omega)) d_L_law_269 ?_
  refine xl_ti (y := xs (7 * j + 6)) (by rw [nI_clamp (by omega)]) ?_
  refine lv_i2l (v := (xs (7 * j + 6)).toInt64) E.1 E.2.1 d_L_law_270 rfl ?_
  refine lv_ldc2 (v := 4294967295) E.1 E.2.1 E.2.2.2.1 (E.2.2.2.2 _ co_L_66) d_L_law_271 ?_
  refine lv_land E.1 E.2.1 d_L_law_274 ?_
  refine lv_lor E.1 E.2.1 d_L_law_275 ?_
  refine lv_aload_n E.1 E.2.1 d_L_law_276 rfl (lv_at hl 1 rfl) ?_
  refine xk_wrap C0 (l_putRange l hL D x w o cJ cZ β n q f hok.1 hok.2 hap.2.1.1 hap.2.2.1.1 hap.2.2.1.2.1 ((xsl ((xs (7 * j + 1)).toInt64) 32) ||| (((xs (7 * j + 2)).toInt64) &&& 4294967295)) ((xsl ((xs (7 * j + 3)).toInt64) 32) ||| (((xs (7 * j + 4)).toInt64) &&& 4294967295)) ((xsl ((xs (7 * j + 5)).toInt64) 32) ||| (((xs (7 * j + 6)).toInt64) &&& 4294967295))) ww_putRange (by decide) hP hPM hO hS rfl hl.1 rfl (Nat.le_of_ble_eq_true rfl) (by omega) (by omega) d_L_law_277 (fun H1 f1 hf1 hP1 hPM1 hO1 hS1 => ?_)
  clear hP hPM hO hS
  have hS := hS1
  refine W.eq (g2 := F0 m 280 ls [.int (nI (sp_putRange (β, n, q) ((xsl ((xs (7 * j + 1)).toInt64) 32) ||| (((xs (7 * j + 2)).toInt64) &&& 4294967295)) ((xsl ((xs (7 * j + 3)).toInt64) 32) ||| (((xs (7 * j + 4)).toInt64) &&& 4294967295)) ((xsl ((xs (7 * j + 5)).toInt64) 32) ||| (((xs (7 * j + 6)).toInt64) &&& 4294967295))).1)]) rfl ?_
  refine lv_istore E.1 E.2.1 d_L_law_280 hl (by decide) rfl (fun ls hl => ?_)
  have hl : lv_has ls 8 [(5, .int (nI (sp_putRange (β, n, q) ((xsl ((xs (7 * j + 1)).toInt64) 32) ||| (((xs (7 * j + 2)).toInt64) &&& 4294967295)) ((xsl ((xs (7 * j + 3)).toInt64) 32) ||| (((xs (7 * j + 4)).toInt64) &&& 4294967295)) ((xsl ((xs (7 * j + 5)).toInt64) 32) ||| (((xs (7 * j + 6)).toInt64) &&& 4294967295))).1)), (4, .int (nI (7 * j))), (3, .ref o), (2, .ref b), (1, .ref x), (0, .ref scr)] := hl
  refine lv_aload_n E.1 E.2.1 d_L_law_282 rfl (lv_at hl 3 rfl) ?_
  refine lv_aload_n E.1 E.2.1 d_L_law_283 rfl (lv_at hl 5 rfl) ?_
  refine lv_iload E.1 E.2.1 d_L_law_284 (lv_at hl 1 rfl) ?_
  refine lv_iconst (v := 1) E.1 E.2.1 d_L_law_286 (by decide) ?_
  refine lv_iadd E.1 E.2.1 d_L_law_287 ?_
  refine xl_ti (y := nI (7 * j + 1)) (nI_add (7 * j) 1) ?_
  refine va_sld E.1 E.2.1 hX hsc hbA hS (vp_in_nI (n := 7 * j + 1) (by omega) (by omega)) d_L_law_288 ?_
  refine xl_ti (y := xs (7 * j + 1)) (by rw [nI_clamp (by omega)]) ?_
  refine lv_i2l (v := (xs (7 * j + 1)).toInt64) E.1 E.2.1 d_L_law_289 rfl ?_
  refine lv_bipush (v := 32) E.1 E.2.1 d_L_law_290 (by decide) ?_
  refine lv_lshl (v := xsl ((xs (7 * j + 1)).toInt64) 32) E.1 E.2.1 d_L_law_292 rfl ?_
  refine lv_aload_n E.1 E.2.1 d_L_law_293 rfl (lv_at hl 5 rfl) ?_
  refine lv_iload E.1 E.2.1 d_L_law_294 (lv_at hl 1 rfl) ?_
  refine lv_iconst (v := 2) E.1 E.2.1 d_L_law_296 (by decide) ?_
  refine lv_iadd E.1 E.2.1 d_L_law_297 ?_
  refine xl_ti (y := nI (7 * j + 2)) (nI_add (7 * j) 2) ?_
  refine va_sld E.1 E.2.1 hX hsc hbA hS (vp_in_nI (n := 7 * j + 2) (by omega) (by omega)) d_L_law_298 ?_
  refine xl_ti (y := xs (7 * j + 2)) (by rw [nI_clamp (by omega)]) ?_
  refine lv_i2l (v := (xs (7 * j + 2)).toInt64) E.1 E.2.1 d_L_law_299 rfl ?_
  refine lv_ldc2 (v := 4294967295) E.1 E.2.1 E.2.2.2.1 (E.2.2.2.2 _ co_L_66) d_L_law_300 ?_
  refine lv_land E.1 E.2.1 d_L_law_303 ?_
  refine lv_lor E.1 E.2.1 d_L_law_304 ?_
  refine lv_aload_n E.1 E.2.1 d_L_law_305 rfl (lv_at hl 5 rfl) ?_
  refine lv_iload E.1 E.2.1 d_L_law_306 (lv_at hl 1 rfl) ?_
  refine lv_iconst (v := 3) E.1 E.2.1 d_L_law_308 (by decide) ?_
  refine lv_iadd E.1 E.2.1 d_L_law_309 ?_
  refine xl_ti (y := nI (7 * j + 3)) (nI_add (7 * j) 3) ?_
  refine va_sld E.1 E.2.1 hX hsc hbA hS (vp_in_nI (n := 7 * j + 3) (by omega) (by omega)) d_L_law_310 ?_
  refine xl_ti (y := xs (7 * j + 3)) (by rw [nI_clamp (by omega)]) ?_
  refine lv_i2l (v := (xs (7 * j + 3)).toInt64) E.1 E.2.1 d_L_law_311 rfl ?_
  refine lv_bipush (v := 32) E.1 E.2.1 d_L_law_312 (by decide) ?_
  refine lv_lshl (v := xsl ((xs (7 * j + 3)).toInt64) 32) E.1 E.2.1 d_L_law_314 rfl ?_
  refine lv_aload_n E.1 E.2.1 d_L_law_315 rfl (lv_at hl 5 rfl) ?_
  refine lv_iload E.1 E.2.1 d_L_law_316 (lv_at hl 1 rfl) ?_
  refine lv_iconst (v := 4) E.1 E.2.1 d_L_law_318 (by decide) ?_
  refine lv_iadd E.1 E.2.1 d_L_law_319 ?_
  refine xl_ti (y := nI (7 * j + 4)) (nI_add (7 * j) 4) ?_
  refine va_sld E.1 E.2.1 hX hsc hbA hS (vp_in_nI (n := 7 * j + 4) (by omega) (by omega)) d_L_law_320 ?_
  refine xl_ti (y := xs (7 * j + 4)) (by rw [nI_clamp (by omega)]) ?_
  refine lv_i2l (v := (xs (7 * j + 4)).toInt64) E.1 E.2.1 d_L_law_321 rfl ?_
  refine lv_ldc2 (v := 4294967295) E.1 E.2.1 E.2.2.2.1 (E.2.2.2.2 _ co_L_66) d_L_law_322 ?_
  refine lv_land E.1 E.2.1 d_L_law_325 ?_
  refine lv_lor E.1 E.2.1 d_L_law_326 ?_
  refine lv_aload_n E.1 E.2.1 d_L_law_327 rfl (lv_at hl 5 rfl) ?_
  refine lv_iload E.1 E.2.1 d_L_law_328 (lv_at hl 1 rfl) ?_
  refine lv_iconst (v := 5) E.1 E.2.1 d_L_law_330 (by decide) ?_
  refine lv_iadd E.1 E.2.1 d_L_law_331 ?_
  refine xl_ti (y := nI (7 * j + 5)) (nI_add (7 * j) 5) ?_
  refine va_sld E.1 E.2.1 hX hsc hbA hS (vp_in_nI (n := 7 * j + 5) (by omega) (by omega)) d_L_law_332 ?_
  refine xl_ti (y := xs (7 * j + 5)) (by rw [nI_clamp (by omega)]) ?_
  refine lv_i2l (v := (xs (7 * j + 5)).toInt64) E.1 E.2.1 d_L_law_333 rfl ?_
  refine lv_bipush (v := 32) E.1 E.2.1 d_L_law_334 (by decide) ?_
  refine lv_lshl (v := xsl ((xs (7 * j + 5)).toInt64) 32) E.1 E.2.1 d_L_law_336 rfl ?_
  refine lv_aload_n E.1 E.2.1 d_L_law_337 rfl (lv_at hl 5 rfl) ?_
  refine lv_iload E.1 E.2.1 d_L_law_338 (lv_at hl 1 rfl) ?_
  refine lv_bipush (v := 6) E.1 E.2.1 d_L_law_340 (by decide) ?_
  refine lv_iadd E.1 E.2.1 d_L_law_342 ?_
  refine xl_ti (y := nI (7 * j + 6)) (nI_add (7 * j) 6) ?_
  refine va_sld E.1 E.2.1 hX hsc hbA hS (vp_in_nI (n := 7 * j + 6) (by omega) (by omega)) d_L_law_343 ?_
  refine xl_ti (y := xs (7 * j + 6)) (by rw [nI_clamp (by omega)]) ?_
  refine lv_i2l (v := (xs (7 * j + 6)).toInt64) E.1 E.2.1 d_L_law_344 rfl ?_
  refine lv_ldc2 (v := 4294967295) E.1 E.2.1 E.2.2.2.1 (E.2.2.2.2 _ co_L_66) d_L_law_345 ?_
  refine lv_land E.1 E.2.1 d_L_law_348 ?_
  refine lv_lor E.1 E.2.1 d_L_law_349 ?_
  refine xk_model C0 (m_putRange l D b r cJ cZ β n q fa rd gd hok.1 hap.2.1.2 ((xsl ((xs (7 * j + 1)).toInt64) 32) ||| (((xs (7 * j + 2)).toInt64) &&& 4294967295)) ((xsl ((xs (7 * j + 3)).toInt64) 32) ||| (((xs (7 * j + 4)).toInt64) &&& 4294967295)) ((xsl ((xs (7 * j + 5)).toInt64) 32) ||| (((xs (7 * j + 6)).toInt64) &&& 4294967295))) vw_L_M_putRange rfl (by decide) hP1 hPM1 hO1 hS1 rfl hl.1 rfl (Nat.le_of_ble_eq_true rfl) (by omega) (by omega) d_L_law_350 (fun v st t hrt hP2 hO2 hS2 => ?_)
  obtain ⟨i, rd2, gd2, rfl, hi, hPM2⟩ := hrt
  generalize t.heap = H2 at hPM2 hP2 hO2 hS2 ⊢
  refine W.eq (g2 := F0 m 353 ls [.int i]) rfl ?_
  have hs2 := s2_putRange (β, n, q) ((xsl ((xs (7 * j + 1)).toInt64) 32) ||| (((xs (7 * j + 2)).toInt64) &&& 4294967295)) ((xsl ((xs (7 * j + 3)).toInt64) 32) ||| (((xs (7 * j + 4)).toInt64) &&& 4294967295)) ((xsl ((xs (7 * j + 5)).toInt64) 32) ||| (((xs (7 * j + 6)).toInt64) &&& 4294967295))
  have hok2 : xok (sp_putRange (β, n, q) ((xsl ((xs (7 * j + 1)).toInt64) 32) ||| (((xs (7 * j + 2)).toInt64) &&& 4294967295)) ((xsl ((xs (7 * j + 3)).toInt64) 32) ||| (((xs (7 * j + 4)).toInt64) &&& 4294967295)) ((xsl ((xs (7 * j + 5)).toInt64) 32) ||| (((xs (7 * j + 6)).toInt64) &&& 4294967295))).2.2 := so_putRange hok
  generalize sp_putRange (β, n, q) ((xsl ((xs (7 * j + 1)).toInt64) 32) ||| (((xs (7 * j + 2)).toInt64) &&& 4294967295)) ((xsl ((xs (7 * j + 3)).toInt64) 32) ||| (((xs (7 * j + 4)).toInt64) &&& 4294967295)) ((xsl ((xs (7 * j + 5)).toInt64) 32) ||| (((xs (7 * j + 6)).toInt64) &&& 4294967295)) = z at hf1 hi hPM2 hP2 hl hs2 hok2 ⊢
  refine lv_istore E.1 E.2.1 d_L_law_353 hl (by decide) rfl (fun ls hl => ?_)
  have hl : lv_has ls 8 [(6, .int i), (5, .int (nI z.1)), (4, .int (nI (7 * j))), (3, .ref o), (2, .ref b), (1, .ref x), (0, .ref scr)] := hl
  refine lv_aload_n E.1 E.2.1 d_L_law_355 rfl (lv_at hl 4 rfl) ?_
  refine xk_thrown C0 hPM2 hl.1 (Nat.le_of_ble_eq_true rfl) (by omega) (by omega) d_L_law_356 ?_
  refine lv_iload E.1 E.2.1 d_L_law_359 (lv_at hl 1 rfl) ?_
  have hfin : W p l e room_1 s m #[Value.ref scr] below meth c H2 [] (5 + j + 1) (66570 + 6 * j + 6) (lw_Z below #[Value.ref scr] s) (F0 m 1102 ls []) := next z.2.2 H2 ls f1 _ rd2 gd2 hok2 hP2 hPM2 hO2 hS2 (lv_sub hl [2, 3, 4, 5, 6] rfl)
  refine lv_icmp_eq (tgt := 366) E.1 E.2.1 d_L_law_361 (by decide) (fun h1 => ?_) (fun h1 => ?_)
  · skip
    refine lv_iload E.1 E.2.1 d_L_law_366 (lv_at hl 1 rfl) ?_
    refine lv_if_ne (tgt := 383) E.1 E.2.1 d_L_law_368 (by decide) (fun h2 => ?_) (fun h2 => ?_)
    · skip
      refine lv_goto (tgt := 1102) E.1 E.2.1 d_L_law_383 (by decide) ?_
      exact hfin
    · skip
      have h2 : z.1 = 0 := (nI_eq (b := 0) (by omega) (by decide)).mp h2
      refine lv_aload_n E.1 E.2.1 d_L_law_371 rfl (lv_at hl 3 rfl) ?_
      refine lv_iconst (v := 0) E.1 E.2.1 d_L_law_372 (by decide) ?_
      refine va_lald E.1 E.2.1 hK hO2 0 0 rfl rfl (vp_in_nI (n := 0) (N := 1) (by decide) (by decide)) d_L_law_373 ?_
      refine xl_tl (y := z.2.1) (hf1 h2) ?_
      refine lv_iload E.1 E.2.1 d_L_law_374 (lv_at hl 0 rfl) ?_
      refine lv_i2l (v := i.toInt64) E.1 E.2.1 d_L_law_376 rfl ?_
      refine xl_tl (y := z.2.1) (hi h2) ?_
      refine xl_lc_eq (tgt := 383) E.1 E.2.1 d_L_law_377 d_L_law_378 (by decide) (fun h3 => ?_) (fun h3 => ?_)
      · skip
        refine lv_goto (tgt := 1102) E.1 E.2.1 d_L_law_383 (by decide) ?_
        exact hfin
      · skip
        exact absurd rfl h3
  · skip
    exact absurd rfl h1
end XL34b
end
section
/-! The law's cases: putLength, putNumber. -/
section XL34c
theorem ww_putLength : xwW 81 y_L_putLength b_L_putLength 4 [(0, 9, 12, 13), (0, 9, 15, 15)] 3 := ⟨⟨by decide, by decide, by decide +kernel⟩, cw_L_putLength, in_L_ini, lk_L_putLength, st_L_putLength⟩
set_option maxHeartbeats 4000000 in
set_option maxRecDepth 100000 in
theorem k_putLength {p : Program} {l : Launch} {e : Env} {s : State} {m : MethodId} {below : List Frame} {meth : Method} {c : Code} {scr L : Nat} {xs : Nat → Int32} {D : va_G} {x w b r o : Nat} {cJ cZ : ClassId} {β : Nat → Bool} {n q : Nat} {f : Nat → Int64} {fa : Int32} {rd : Nat} {gd : Bool} {H : Heap} {ls : Array Slot} (C : xCx p l s m c scr L xs D x w b r o cJ cZ) (j : Nat) (hj : 7 * j + 7 ≤ L) (hok : xok (β, n, q)) (hP : PX D x w cJ β n q H) (hPM : PM D b r cZ β n q fa rd gd H) (hO : xOut D o cJ f H) (hS : va_S (xnew s) s.heap H []) (hl : lv_has ls 8 [(4, .int (nI (7 * j))), (3, .ref o), (2, .ref b), (1, .ref x), (0, .ref scr)])
    (next : xNext p l e s m below meth c scr D x w b r o cJ cZ j) :
    W p l e room_1 s m #[Value.ref scr] below meth c H [] (5 + j) (66570 + 6 * j) (lw_Z below #[Value.ref scr] s) (F0 m 386 ls []) := by
  have C0 := C
  obtain ⟨E, hL, hK, hN, hQ0, hX, hsc, hLb, hap⟩ := C
  have hbA : ¬ xnew s scr := fun z => Nat.not_le.mpr hsc z
  refine lv_aload_n E.1 E.2.1 d_L_law_386 rfl (lv_at hl 3 rfl) ?_
  refine lv_aload_n E.1 E.2.1 d_L_law_387 rfl (lv_at hl 4 rfl) ?_
  refine lv_iload E.1 E.2.1 d_L_law_388 (lv_at hl 0 rfl) ?_
  refine lv_iconst (v := 1) E.1 E.2.1 d_L_law_390 (by decide) ?_
  refine lv_iadd E.1 E.2.1 d_L_law_391 ?_
  refine xl_ti (y := nI (7 * j + 1)) (nI_add (7 * j) 1) ?_
  refine va_sld E.1 E.2.1 hX hsc hbA hS (vp_in_nI (n := 7 * j + 1) (by omega) (by omega)) d_L_law_392 ?_
  refine xl_ti (y := xs (7 * j + 1)) (by rw [nI_clamp (by omega)]) ?_
  refine lv_aload_n E.1 E.2.1 d_L_law_393 rfl (lv_at hl 1 rfl) ?_
  refine xk_wrap C0 (l_putLength l hL D x w o cJ cZ β n q f hok.1 hok.2 hap.2.1.1 hap.2.2.1.1 hap.2.2.1.2.1 (xs (7 * j + 1))) ww_putLength (by decide) hP hPM hO hS rfl hl.1 rfl (Nat.le_of_ble_eq_true rfl) (by omega) (by omega) d_L_law_394 (fun H1 f1 hf1 hP1 hPM1 hO1 hS1 => ?_)
  clear hP hPM hO hS
  have hS := hS1
  refine W.eq (g2 := F0 m 397 ls [.int (nI (sp_putLength (β, n, q) (xs (7 * j + 1))).1)]) rfl ?_
  refine lv_istore E.1 E.2.1 d_L_law_397 hl (by decide) rfl (fun ls hl => ?_)
  have hl : lv_has ls 8 [(5, .int (nI (sp_putLength (β, n, q) (xs (7 * j + 1))).1)), (4, .int (nI (7 * j))), (3, .ref o), (2, .ref b), (1, .ref x), (0, .ref scr)] := hl
  refine lv_aload_n E.1 E.2.1 d_L_law_399 rfl (lv_at hl 3 rfl) ?_
  refine lv_aload_n E.1 E.2.1 d_L_law_400 rfl (lv_at hl 5 rfl) ?_
  refine lv_iload E.1 E.2.1 d_L_law_401 (lv_at hl 1 rfl) ?_
  refine lv_iconst (v := 1) E.1 E.2.1 d_L_law_403 (by decide) ?_
  refine lv_iadd E.1 E.2.1 d_L_law_404 ?_
  refine xl_ti (y := nI (7 * j + 1)) (nI_add (7 * j) 1) ?_
  refine va_sld E.1 E.2.1 hX hsc hbA hS (vp_in_nI (n := 7 * j + 1) (by omega) (by omega)) d_L_law_405 ?_
  refine xl_ti (y := xs (7 * j + 1)) (by rw [nI_clamp (by omega)]) ?_
  refine xk_model C0 (m_putLength l D b r cJ cZ β n q fa rd gd hok.1 hap.2.1.2 (xs (7 * j + 1))) vw_L_M_putLength rfl (by decide) hP1 hPM1 hO1 hS1 rfl hl.1 rfl (Nat.le_of_ble_eq_true rfl) (by omega) (by omega) d_L_law_406 (fun v st t hrt hP2 hO2 hS2 => ?_)
  obtain ⟨i, rd2, gd2, rfl, hi, hPM2⟩ := hrt
  generalize t.heap = H2 at hPM2 hP2 hO2 hS2 ⊢
  refine W.eq (g2 := F0 m 409 ls [.int i]) rfl ?_
  have hs2 := s2_putLength (β, n, q) (xs (7 * j + 1))
  have hok2 : xok (sp_putLength (β, n, q) (xs (7 * j + 1))).2.2 := so_putLength hok
  generalize sp_putLength (β, n, q) (xs (7 * j + 1)) = z at hf1 hi hPM2 hP2 hl hs2 hok2 ⊢
  refine lv_istore E.1 E.2.1 d_L_law_409 hl (by decide) rfl (fun ls hl => ?_)
  have hl : lv_has ls 8 [(6, .int i), (5, .int (nI z.1)), (4, .int (nI (7 * j))), (3, .ref o), (2, .ref b), (1, .ref x), (0, .ref scr)] := hl
  refine lv_aload_n E.1 E.2.1 d_L_law_411 rfl (lv_at hl 4 rfl) ?_
  refine xk_thrown C0 hPM2 hl.1 (Nat.le_of_ble_eq_true rfl) (by omega) (by omega) d_L_law_412 ?_
  refine lv_iload E.1 E.2.1 d_L_law_415 (lv_at hl 1 rfl) ?_
  have hfin : W p l e room_1 s m #[Value.ref scr] below meth c H2 [] (5 + j + 1) (66570 + 6 * j + 6) (lw_Z below #[Value.ref scr] s) (F0 m 1102 ls []) := next z.2.2 H2 ls f1 _ rd2 gd2 hok2 hP2 hPM2 hO2 hS2 (lv_sub hl [2, 3, 4, 5, 6] rfl)
  refine lv_icmp_eq (tgt := 422) E.1 E.2.1 d_L_law_417 (by decide) (fun h1 => ?_) (fun h1 => ?_)
  · skip
    refine lv_iload E.1 E.2.1 d_L_law_422 (lv_at hl 1 rfl) ?_
    refine lv_if_ne (tgt := 439) E.1 E.2.1 d_L_law_424 (by decide) (fun h2 => ?_) (fun h2 => ?_)
    · skip
      refine lv_goto (tgt := 1102) E.1 E.2.1 d_L_law_439 (by decide) ?_
      exact hfin
    · skip
      have h2 : z.1 = 0 := (nI_eq (b := 0) (by omega) (by decide)).mp h2
      refine lv_aload_n E.1 E.2.1 d_L_law_427 rfl (lv_at hl 3 rfl) ?_
      refine lv_iconst (v := 0) E.1 E.2.1 d_L_law_428 (by decide) ?_
      refine va_lald E.1 E.2.1 hK hO2 0 0 rfl rfl (vp_in_nI (n := 0) (N := 1) (by decide) (by decide)) d_L_law_429 ?_
      refine xl_tl (y := z.2.1) (hf1 h2) ?_
      refine lv_iload E.1 E.2.1 d_L_law_430 (lv_at hl 0 rfl) ?_
      refine lv_i2l (v := i.toInt64) E.1 E.2.1 d_L_law_432 rfl ?_
      refine xl_tl (y := z.2.1) (hi h2) ?_
      refine xl_lc_eq (tgt := 439) E.1 E.2.1 d_L_law_433 d_L_law_434 (by decide) (fun h3 => ?_) (fun h3 => ?_)
      · skip
        refine lv_goto (tgt := 1102) E.1 E.2.1 d_L_law_439 (by decide) ?_
        exact hfin
      · skip
        exact absurd rfl h3
  · skip
    exact absurd rfl h1
theorem ww_putNumber : xwW 85 y_L_putNumber b_L_putNumber 6 [(0, 11, 14, 13), (0, 11, 18, 15)] 4 := ⟨⟨by decide, by decide, by decide +kernel⟩, cw_L_putNumber, in_L_ini, lk_L_putNumber, st_L_putNumber⟩
set_option maxHeartbeats 4000000 in
set_option maxRecDepth 100000 in
theorem k_putNumber {p : Program} {l : Launch} {e : Env} {s : State} {m : MethodId} {below : List Frame} {meth : Method} {c : Code} {scr L : Nat} {xs : Nat → Int32} {D : va_G} {x w b r o : Nat} {cJ cZ : ClassId} {β : Nat → Bool} {n q : Nat} {f : Nat → Int64} {fa : Int32} {rd : Nat} {gd : Bool} {H : Heap} {ls : Array Slot} (C : xCx p l s m c scr L xs D x w b r o cJ cZ) (j : Nat) (hj : 7 * j + 7 ≤ L) (hok : xok (β, n, q)) (hP : PX D x w cJ β n q H) (hPM : PM D b r cZ β n q fa rd gd H) (hO : xOut D o cJ f H) (hS : va_S (xnew s) s.heap H []) (hl : lv_has ls 8 [(4, .int (nI (7 * j))), (3, .ref o), (2, .ref b), (1, .ref x), (0, .ref scr)])
    (next : xNext p l e s m below meth c scr D x w b r o cJ cZ j) :
    W p l e room_1 s m #[Value.ref scr] below meth c H [] (5 + j) (66570 + 6 * j) (lw_Z below #[Value.ref scr] s) (F0 m 442 ls []) := by
  have C0 := C
  obtain ⟨E, hL, hK, hN, hQ0, hX, hsc, hLb, hap⟩ := C
  have hbA : ¬ xnew s scr := fun z => Nat.not_le.mpr hsc z
  refine lv_aload_n E.1 E.2.1 d_L_law_442 rfl (lv_at hl 3 rfl) ?_
  refine lv_aload_n E.1 E.2.1 d_L_law_443 rfl (lv_at hl 4 rfl) ?_
  refine lv_iload E.1 E.2.1 d_L_law_444 (lv_at hl 0 rfl) ?_
  refine lv_iconst (v := 1) E.1 E.2.1 d_L_law_446 (by decide) ?_
  refine lv_iadd E.1 E.2.1 d_L_law_447 ?_
  refine xl_ti (y := nI (7 * j + 1)) (nI_add (7 * j) 1) ?_
  refine va_sld E.1 E.2.1 hX hsc hbA hS (vp_in_nI (n := 7 * j + 1) (by omega) (by omega)) d_L_law_448 ?_
  refine xl_ti (y := xs (7 * j + 1)) (by rw [nI_clamp (by omega)]) ?_
  refine lv_aload_n E.1 E.2.1 d_L_law_449 rfl (lv_at hl 4 rfl) ?_
  refine lv_iload E.1 E.2.1 d_L_law_450 (lv_at hl 0 rfl) ?_
  refine lv_iconst (v := 2) E.1 E.2.1 d_L_law_452 (by decide) ?_
  refine lv_iadd E.1 E.2.1 d_L_law_453 ?_
  refine xl_ti (y := nI (7 * j + 2)) (nI_add (7 * j) 2) ?_
  refine va_sld E.1 E.2.1 hX hsc hbA hS (vp_in_nI (n := 7 * j + 2) (by omega) (by omega)) d_L_law_454 ?_
  refine xl_ti (y := xs (7 * j + 2)) (by rw [nI_clamp (by omega)]) ?_
  refine lv_i2l (v := (xs (7 * j + 2)).toInt64) E.1 E.2.1 d_L_law_455 rfl ?_
  refine lv_bipush (v := 32) E.1 E.2.1 d_L_law_456 (by decide) ?_
  refine lv_lshl (v := xsl ((xs (7 * j + 2)).toInt64) 32) E.1 E.2.1 d_L_law_458 rfl ?_
  refine lv_aload_n E.1 E.2.1 d_L_law_459 rfl (lv_at hl 4 rfl) ?_
  refine lv_iload E.1 E.2.1 d_L_law_460 (lv_at hl 0 rfl) ?_
  refine lv_iconst (v := 3) E.1 E.2.1 d_L_law_462 (by decide) ?_
  refine lv_iadd E.1 E.2.1 d_L_law_463 ?_
  refine xl_ti (y := nI (7 * j + 3)) (nI_add (7 * j) 3) ?_
  refine va_sld E.1 E.2.1 hX hsc hbA hS (vp_in_nI (n := 7 * j + 3) (by omega) (by omega)) d_L_law_464 ?_
  refine xl_ti (y := xs (7 * j + 3)) (by rw [nI_clamp (by omega)]) ?_
  refine lv_i2l (v := (xs (7 * j + 3)).toInt64) E.1 E.2.1 d_L_law_465 rfl ?_
  refine lv_ldc2 (v := 4294967295) E.1 E.2.1 E.2.2.2.1 (E.2.2.2.2 _ co_L_66) d_L_law_466 ?_
  refine lv_land E.1 E.2.1 d_L_law_469 ?_
  refine lv_lor E.1 E.2.1 d_L_law_470 ?_
  refine lv_aload_n E.1 E.2.1 d_L_law_471 rfl (lv_at hl 1 rfl) ?_
  refine xk_wrap C0 (l_putNumber l hL D x w o cJ cZ β n q f hok.1 hok.2 hap.2.1.1 hap.2.2.1.1 hap.2.2.1.2.1 (xs (7 * j + 1)) ((xsl ((xs (7 * j + 2)).toInt64) 32) ||| (((xs (7 * j + 3)).toInt64) &&& 4294967295))) ww_putNumber (by decide) hP hPM hO hS rfl hl.1 rfl (Nat.le_of_ble_eq_true rfl) (by omega) (by omega) d_L_law_472 (fun H1 f1 hf1 hP1 hPM1 hO1 hS1 => ?_)
  clear hP hPM hO hS
  have hS := hS1
  refine W.eq (g2 := F0 m 475 ls [.int (nI (sp_putNumber (β, n, q) (xs (7 * j + 1)) ((xsl ((xs (7 * j + 2)).toInt64) 32) ||| (((xs (7 * j + 3)).toInt64) &&& 4294967295))).1)]) rfl ?_
  refine lv_istore E.1 E.2.1 d_L_law_475 hl (by decide) rfl (fun ls hl => ?_)
  have hl : lv_has ls 8 [(5, .int (nI (sp_putNumber (β, n, q) (xs (7 * j + 1)) ((xsl ((xs (7 * j + 2)).toInt64) 32) ||| (((xs (7 * j + 3)).toInt64) &&& 4294967295))).1)), (4, .int (nI (7 * j))), (3, .ref o), (2, .ref b), (1, .ref x), (0, .ref scr)] := hl
  refine lv_aload_n E.1 E.2.1 d_L_law_477 rfl (lv_at hl 3 rfl) ?_
  refine lv_aload_n E.1 E.2.1 d_L_law_478 rfl (lv_at hl 5 rfl) ?_
  refine lv_iload E.1 E.2.1 d_L_law_479 (lv_at hl 1 rfl) ?_
  refine lv_iconst (v := 1) E.1 E.2.1 d_L_law_481 (by decide) ?_
  refine lv_iadd E.1 E.2.1 d_L_law_482 ?_
  refine xl_ti (y := nI (7 * j + 1)) (nI_add (7 * j) 1) ?_
  refine va_sld E.1 E.2.1 hX hsc hbA hS (vp_in_nI (n := 7 * j + 1) (by omega) (by omega)) d_L_law_483 ?_
  refine xl_ti (y := xs (7 * j + 1)) (by rw [nI_clamp (by omega)]) ?_
  refine lv_aload_n E.1 E.2.1 d_L_law_484 rfl (lv_at hl 5 rfl) ?_
  refine lv_iload E.1 E.2.1 d_L_law_485 (lv_at hl 1 rfl) ?_
  refine lv_iconst (v := 2) E.1 E.2.1 d_L_law_487 (by decide) ?_
  refine lv_iadd E.1 E.2.1 d_L_law_488 ?_
  refine xl_ti (y := nI (7 * j + 2)) (nI_add (7 * j) 2) ?_
  refine va_sld E.1 E.2.1 hX hsc hbA hS (vp_in_nI (n := 7 * j + 2) (by omega) (by omega)) d_L_law_489 ?_
  refine xl_ti (y := xs (7 * j + 2)) (by rw [nI_clamp (by omega)]) ?_
  refine lv_i2l (v := (xs (7 * j + 2)).toInt64) E.1 E.2.1 d_L_law_490 rfl ?_
  refine lv_bipush (v := 32) E.1 E.2.1 d_L_law_491 (by decide) ?_
  refine lv_lshl (v := xsl ((xs (7 * j + 2)).toInt64) 32) E.1 E.2.1 d_L_law_493 rfl ?_
  refine lv_aload_n E.1 E.2.1 d_L_law_494 rfl (lv_at hl 5 rfl) ?_
  refine lv_iload E.1 E.2.1 d_L_law_495 (lv_at hl 1 rfl) ?_
  refine lv_iconst (v := 3) E.1 E.2.1 d_L_law_497 (by decide) ?_
  refine lv_iadd E.1 E.2.1 d_L_law_498 ?_
  refine xl_ti (y := nI (7 * j + 3)) (nI_add (7 * j) 3) ?_
  refine va_sld E.1 E.2.1 hX hsc hbA hS (vp_in_nI (n := 7 * j + 3) (by omega) (by omega)) d_L_law_499 ?_
  refine xl_ti (y := xs (7 * j + 3)) (by rw [nI_clamp (by omega)]) ?_
  refine lv_i2l (v := (xs (7 * j + 3)).toInt64) E.1 E.2.1 d_L_law_500 rfl ?_
  refine lv_ldc2 (v := 4294967295) E.1 E.2.1 E.2.2.2.1 (E.2.2.2.2 _ co_L_66) d_L_law_501 ?_
  refine lv_land E.1 E.2.1 d_L_law_504 ?_
  refine lv_lor E.1 E.2.1 d_L_law_505 ?_
  refine xk_model C0 (m_putNumber l D b r cJ cZ β n q fa rd gd hok.1 hap.2.1.2 (xs (7 * j + 1)) ((xsl ((xs (7 * j + 2)).toInt64) 32) ||| (((xs (7 * j + 3)).toInt64) &&& 4294967295))) vw_L_M_putNumber rfl (by decide) hP1 hPM1 hO1 hS1 rfl hl.1 rfl (Nat.le_of_ble_eq_true rfl) (by omega) (by omega) d_L_law_506 (fun v st t hrt hP2 hO2 hS2 => ?_)
  obtain ⟨i, rd2, gd2, rfl, hi, hPM2⟩ := hrt
  generalize t.heap = H2 at hPM2 hP2 hO2 hS2 ⊢
  refine W.eq (g2 := F0 m 509 ls [.int i]) rfl ?_
  have hs2 := s2_putNumber (β, n, q) (xs (7 * j + 1)) ((xsl ((xs (7 * j + 2)).toInt64) 32) ||| (((xs (7 * j + 3)).toInt64) &&& 4294967295))
  have hok2 : xok (sp_putNumber (β, n, q) (xs (7 * j + 1)) ((xsl ((xs (7 * j + 2)).toInt64) 32) ||| (((xs (7 * j + 3)).toInt64) &&& 4294967295))).2.2 := so_putNumber hok
  generalize sp_putNumber (β, n, q) (xs (7 * j + 1)) ((xsl ((xs (7 * j + 2)).toInt64) 32) ||| (((xs (7 * j + 3)).toInt64) &&& 4294967295)) = z at hf1 hi hPM2 hP2 hl hs2 hok2 ⊢
  refine lv_istore E.1 E.2.1 d_L_law_509 hl (by decide) rfl (fun ls hl => ?_)
  have hl : lv_has ls 8 [(6, .int i), (5, .int (nI z.1)), (4, .int (nI (7 * j))), (3, .ref o), (2, .ref b), (1, .ref x), (0, .ref scr)] := hl
  refine lv_aload_n E.1 E.2.1 d_L_law_511 rfl (lv_at hl 4 rfl) ?_
  refine xk_thrown C0 hPM2 hl.1 (Nat.le_of_ble_eq_true rfl) (by omega) (by omega) d_L_law_512 ?_
  refine lv_iload E.1 E.2.1 d_L_law_515 (lv_at hl 1 rfl) ?_
  have hfin : W p l e room_1 s m #[Value.ref scr] below meth c H2 [] (5 + j + 1) (66570 + 6 * j + 6) (lw_Z below #[Value.ref scr] s) (F0 m 1102 ls []) := next z.2.2 H2 ls f1 _ rd2 gd2 hok2 hP2 hPM2 hO2 hS2 (lv_sub hl [2, 3, 4, 5, 6] rfl)
  refine lv_icmp_eq (tgt := 522) E.1 E.2.1 d_L_law_517 (by decide) (fun h1 => ?_) (fun h1 => ?_)
  · skip
    refine lv_iload E.1 E.2.1 d_L_law_522 (lv_at hl 1 rfl) ?_
    refine lv_if_ne (tgt := 539) E.1 E.2.1 d_L_law_524 (by decide) (fun h2 => ?_) (fun h2 => ?_)
    · skip
      refine lv_goto (tgt := 1102) E.1 E.2.1 d_L_law_539 (by decide) ?_
      exact hfin
    · skip
      have h2 : z.1 = 0 := (nI_eq (b := 0) (by omega) (by decide)).mp h2
      refine lv_aload_n E.1 E.2.1 d_L_law_527 rfl (lv_at hl 3 rfl) ?_
      refine lv_iconst (v := 0) E.1 E.2.1 d_L_law_528 (by decide) ?_
      refine va_lald E.1 E.2.1 hK hO2 0 0 rfl rfl (vp_in_nI (n := 0) (N := 1) (by decide) (by decide)) d_L_law_529 ?_
      refine xl_tl (y := z.2.1) (hf1 h2) ?_
      refine lv_iload E.1 E.2.1 d_L_law_530 (lv_at hl 0 rfl) ?_
      refine lv_i2l (v := i.toInt64) E.1 E.2.1 d_L_law_532 rfl ?_
      refine xl_tl (y := z.2.1) (hi h2) ?_
      refine xl_lc_eq (tgt := 539) E.1 E.2.1 d_L_law_533 d_L_law_534 (by decide) (fun h3 => ?_) (fun h3 => ?_)
      · skip
        refine lv_goto (tgt := 1102) E.1 E.2.1 d_L_law_539 (by decide) ?_
        exact hfin
      · skip
        exact absurd rfl h3
  · skip
    exact absurd rfl h1
end XL34c
end
section
/-! The law's cases: fill, take, takeRange. -/
section XL34d
theorem ww_fill : xwW 89 y_L_fill b_L_fill 3 [(0, 8, 11, 15)] 2 := ⟨⟨by decide, by decide, by decide +kernel⟩, cw_L_fill, in_L_ini, lk_L_fill, st_L_fill⟩
set_option maxHeartbeats 4000000 in
set_option maxRecDepth 100000 in
theorem k_fill {p : Program} {l : Launch} {e : Env} {s : State} {m : MethodId} {below : List Frame} {meth : Method} {c : Code} {scr L : Nat} {xs : Nat → Int32} {D : va_G} {x w b r o : Nat} {cJ cZ : ClassId} {β : Nat → Bool} {n q : Nat} {f : Nat → Int64} {fa : Int32} {rd : Nat} {gd : Bool} {H : Heap} {ls : Array Slot} (C : xCx p l s m c scr L xs D x w b r o cJ cZ) (j : Nat) (hj : 7 * j + 7 ≤ L) (hok : xok (β, n, q)) (hP : PX D x w cJ β n q H) (hPM : PM D b r cZ β n q fa rd gd H) (hO : xOut D o cJ f H) (hS : va_S (xnew s) s.heap H []) (hl : lv_has ls 8 [(4, .int (nI (7 * j))), (3, .ref o), (2, .ref b), (1, .ref x), (0, .ref scr)])
    (next : xNext p l e s m below meth c scr D x w b r o cJ cZ j) :
    W p l e room_1 s m #[Value.ref scr] below meth c H [] (5 + j) (66570 + 6 * j) (lw_Z below #[Value.ref scr] s) (F0 m 542 ls []) := by
  have C0 := C
  obtain ⟨E, hL, hK, hN, hQ0, hX, hsc, hLb, hap⟩ := C
  have hbA : ¬ xnew s scr := fun z => Nat.not_le.mpr hsc z
  refine lv_aload_n E.1 E.2.1 d_L_law_542 rfl (lv_at hl 3 rfl) ?_
  refine lv_aload_n E.1 E.2.1 d_L_law_543 rfl (lv_at hl 1 rfl) ?_
  refine xk_wrap C0 (l_fill l hL D x w o cJ cZ β n q f hok.1 hok.2 hap.2.1.1 hap.2.2.1.1 hap.2.2.1.2.1 ) ww_fill (by decide) hP hPM hO hS rfl hl.1 rfl (Nat.le_of_ble_eq_true rfl) (by omega) (by omega) d_L_law_544 (fun H1 f1 hf1 hP1 hPM1 hO1 hS1 => ?_)
  clear hP hPM hO hS
  have hS := hS1
  refine W.eq (g2 := F0 m 547 ls [.int (nI (sp_fill (β, n, q) ).1)]) rfl ?_
  refine lv_istore E.1 E.2.1 d_L_law_547 hl (by decide) rfl (fun ls hl => ?_)
  have hl : lv_has ls 8 [(5, .int (nI (sp_fill (β, n, q) ).1)), (4, .int (nI (7 * j))), (3, .ref o), (2, .ref b), (1, .ref x), (0, .ref scr)] := hl
  refine lv_aload_n E.1 E.2.1 d_L_law_549 rfl (lv_at hl 3 rfl) ?_
  refine xk_model C0 (m_fill l D b r cJ cZ β n q fa rd gd hok.1 hap.2.1.2 ) vw_L_M_fill rfl (by decide) hP1 hPM1 hO1 hS1 rfl hl.1 rfl (Nat.le_of_ble_eq_true rfl) (by omega) (by omega) d_L_law_550 (fun v st t hrt hP2 hO2 hS2 => ?_)
  obtain ⟨i, rd2, gd2, rfl, hi, hPM2⟩ := hrt
  generalize t.heap = H2 at hPM2 hP2 hO2 hS2 ⊢
  refine W.eq (g2 := F0 m 553 ls [.int i]) rfl ?_
  have hs2 := s2_fill (β, n, q) 
  have hok2 : xok (sp_fill (β, n, q) ).2.2 := so_fill hok
  generalize sp_fill (β, n, q)  = z at hf1 hi hPM2 hP2 hl hs2 hok2 ⊢
  refine lv_istore E.1 E.2.1 d_L_law_553 hl (by decide) rfl (fun ls hl => ?_)
  have hl : lv_has ls 8 [(6, .int i), (5, .int (nI z.1)), (4, .int (nI (7 * j))), (3, .ref o), (2, .ref b), (1, .ref x), (0, .ref scr)] := hl
  refine lv_aload_n E.1 E.2.1 d_L_law_555 rfl (lv_at hl 4 rfl) ?_
  refine xk_thrown C0 hPM2 hl.1 (Nat.le_of_ble_eq_true rfl) (by omega) (by omega) d_L_law_556 ?_
  refine lv_iload E.1 E.2.1 d_L_law_559 (lv_at hl 1 rfl) ?_
  have hfin : W p l e room_1 s m #[Value.ref scr] below meth c H2 [] (5 + j + 1) (66570 + 6 * j + 6) (lw_Z below #[Value.ref scr] s) (F0 m 1102 ls []) := next z.2.2 H2 ls f1 _ rd2 gd2 hok2 hP2 hPM2 hO2 hS2 (lv_sub hl [2, 3, 4, 5, 6] rfl)
  refine lv_icmp_eq (tgt := 566) E.1 E.2.1 d_L_law_561 (by decide) (fun h1 => ?_) (fun h1 => ?_)
  · skip
    refine lv_iload E.1 E.2.1 d_L_law_566 (lv_at hl 1 rfl) ?_
    refine lv_if_ne (tgt := 583) E.1 E.2.1 d_L_law_568 (by decide) (fun h2 => ?_) (fun h2 => ?_)
    · skip
      refine lv_goto (tgt := 1102) E.1 E.2.1 d_L_law_583 (by decide) ?_
      exact hfin
    · skip
      have h2 : z.1 = 0 := (nI_eq (b := 0) (by omega) (by decide)).mp h2
      refine lv_aload_n E.1 E.2.1 d_L_law_571 rfl (lv_at hl 3 rfl) ?_
      refine lv_iconst (v := 0) E.1 E.2.1 d_L_law_572 (by decide) ?_
      refine va_lald E.1 E.2.1 hK hO2 0 0 rfl rfl (vp_in_nI (n := 0) (N := 1) (by decide) (by decide)) d_L_law_573 ?_
      refine xl_tl (y := z.2.1) (hf1 h2) ?_
      refine lv_iload E.1 E.2.1 d_L_law_574 (lv_at hl 0 rfl) ?_
      refine lv_i2l (v := i.toInt64) E.1 E.2.1 d_L_law_576 rfl ?_
      refine xl_tl (y := z.2.1) (hi h2) ?_
      refine xl_lc_eq (tgt := 583) E.1 E.2.1 d_L_law_577 d_L_law_578 (by decide) (fun h3 => ?_) (fun h3 => ?_)
      · skip
        refine lv_goto (tgt := 1102) E.1 E.2.1 d_L_law_583 (by decide) ?_
        exact hfin
      · skip
        exact absurd rfl h3
  · skip
    exact absurd rfl h1
theorem ww_take : xwW 93 y_L_take b_L_take 4 [(0, 8, 11, 13), (0, 8, 14, 37)] 3 := ⟨⟨by decide, by decide, by decide +kernel⟩, cw_L_take, in_L_ini, lk_L_take, st_L_take⟩
set_option maxHeartbeats 4000000 in
set_option maxRecDepth 100000 in
theorem k_take {p : Program} {l : Launch} {e : Env} {s : State} {m : MethodId} {below : List Frame} {meth : Method} {c : Code} {scr L : Nat} {xs : Nat → Int32} {D : va_G} {x w b r o : Nat} {cJ cZ : ClassId} {β : Nat → Bool} {n q : Nat} {f : Nat → Int64} {fa : Int32} {rd : Nat} {gd : Bool} {H : Heap} {ls : Array Slot} (C : xCx p l s m c scr L xs D x w b r o cJ cZ) (j : Nat) (hj : 7 * j + 7 ≤ L) (hok : xok (β, n, q)) (hP : PX D x w cJ β n q H) (hPM : PM D b r cZ β n q fa rd gd H) (hO : xOut D o cJ f H) (hS : va_S (xnew s) s.heap H []) (hl : lv_has ls 8 [(4, .int (nI (7 * j))), (3, .ref o), (2, .ref b), (1, .ref x), (0, .ref scr)])
    (next : xNext p l e s m below meth c scr D x w b r o cJ cZ j) :
    W p l e room_1 s m #[Value.ref scr] below meth c H [] (5 + j) (66570 + 6 * j) (lw_Z below #[Value.ref scr] s) (F0 m 586 ls []) := by
  have C0 := C
  obtain ⟨E, hL, hK, hN, hQ0, hX, hsc, hLb, hap⟩ := C
  have hbA : ¬ xnew s scr := fun z => Nat.not_le.mpr hsc z
  refine lv_aload_n E.1 E.2.1 d_L_law_586 rfl (lv_at hl 3 rfl) ?_
  refine lv_aload_n E.1 E.2.1 d_L_law_587 rfl (lv_at hl 4 rfl) ?_
  refine lv_iload E.1 E.2.1 d_L_law_588 (lv_at hl 0 rfl) ?_
  refine lv_iconst (v := 1) E.1 E.2.1 d_L_law_590 (by decide) ?_
  refine lv_iadd E.1 E.2.1 d_L_law_591 ?_
  refine xl_ti (y := nI (7 * j + 1)) (nI_add (7 * j) 1) ?_
  refine va_sld E.1 E.2.1 hX hsc hbA hS (vp_in_nI (n := 7 * j + 1) (by omega) (by omega)) d_L_law_592 ?_
  refine xl_ti (y := xs (7 * j + 1)) (by rw [nI_clamp (by omega)]) ?_
  refine lv_aload_n E.1 E.2.1 d_L_law_593 rfl (lv_at hl 1 rfl) ?_
  refine xk_wrap C0 (l_take l hL D x w o cJ cZ β n q f hok.1 hok.2 hap.2.1.1 hap.2.2.1.1 hap.2.2.1.2.1 (xs (7 * j + 1))) ww_take (by decide) hP hPM hO hS rfl hl.1 rfl (Nat.le_of_ble_eq_true rfl) (by omega) (by omega) d_L_law_594 (fun H1 f1 hf1 hP1 hPM1 hO1 hS1 => ?_)
  clear hP hPM hO hS
  have hS := hS1
  refine W.eq (g2 := F0 m 597 ls [.int (nI (sp_take (β, n, q) (xs (7 * j + 1))).1)]) rfl ?_
  refine lv_istore E.1 E.2.1 d_L_law_597 hl (by decide) rfl (fun ls hl => ?_)
  have hl : lv_has ls 8 [(5, .int (nI (sp_take (β, n, q) (xs (7 * j + 1))).1)), (4, .int (nI (7 * j))), (3, .ref o), (2, .ref b), (1, .ref x), (0, .ref scr)] := hl
  refine lv_aload_n E.1 E.2.1 d_L_law_599 rfl (lv_at hl 3 rfl) ?_
  refine lv_aload_n E.1 E.2.1 d_L_law_600 rfl (lv_at hl 5 rfl) ?_
  refine lv_iload E.1 E.2.1 d_L_law_601 (lv_at hl 1 rfl) ?_
  refine lv_iconst (v := 1) E.1 E.2.1 d_L_law_603 (by decide) ?_
  refine lv_iadd E.1 E.2.1 d_L_law_604 ?_
  refine xl_ti (y := nI (7 * j + 1)) (nI_add (7 * j) 1) ?_
  refine va_sld E.1 E.2.1 hX hsc hbA hS (vp_in_nI (n := 7 * j + 1) (by omega) (by omega)) d_L_law_605 ?_
  refine xl_ti (y := xs (7 * j + 1)) (by rw [nI_clamp (by omega)]) ?_
  refine xk_model C0 (m_take l D b r cJ cZ β n q fa rd gd hok.1 hok.2 hap.2.1.2 (xs (7 * j + 1))) vw_L_M_take rfl (by decide) hP1 hPM1 hO1 hS1 rfl hl.1 rfl (Nat.le_of_ble_eq_true rfl) (by omega) (by omega) d_L_law_606 (fun v st t hrt hP2 hO2 hS2 => ?_)
  obtain ⟨i, rd2, gd2, rfl, hi, hPM2⟩ := hrt
  generalize t.heap = H2 at hPM2 hP2 hO2 hS2 ⊢
  refine W.eq (g2 := F0 m 609 ls [.long i]) rfl ?_
  have hs2 := s2_take (β, n, q) (xs (7 * j + 1))
  have hok2 : xok (sp_take (β, n, q) (xs (7 * j + 1))).2.2 := so_take hok
  generalize sp_take (β, n, q) (xs (7 * j + 1)) = z at hf1 hi hPM2 hP2 hl hs2 hok2 ⊢
  refine lv_lstore E.1 E.2.1 d_L_law_609 hl (by decide) rfl (fun ls hl => ?_)
  have hl : lv_has ls 8 [(6, .long i), (5, .int (nI z.1)), (4, .int (nI (7 * j))), (3, .ref o), (2, .ref b), (1, .ref x), (0, .ref scr)] := hl
  refine lv_aload_n E.1 E.2.1 d_L_law_611 rfl (lv_at hl 4 rfl) ?_
  refine xk_thrown C0 hPM2 hl.1 (Nat.le_of_ble_eq_true rfl) (by omega) (by omega) d_L_law_612 ?_
  refine lv_iload E.1 E.2.1 d_L_law_615 (lv_at hl 1 rfl) ?_
  have hfin : W p l e room_1 s m #[Value.ref scr] below meth c H2 [] (5 + j + 1) (66570 + 6 * j + 6) (lw_Z below #[Value.ref scr] s) (F0 m 1102 ls []) := next z.2.2 H2 ls f1 _ rd2 gd2 hok2 hP2 hPM2 hO2 hS2 (lv_sub hl [2, 3, 4, 5, 6] rfl)
  refine lv_icmp_eq (tgt := 622) E.1 E.2.1 d_L_law_617 (by decide) (fun h1 => ?_) (fun h1 => ?_)
  · skip
    refine lv_iload E.1 E.2.1 d_L_law_622 (lv_at hl 1 rfl) ?_
    refine lv_if_ne (tgt := 638) E.1 E.2.1 d_L_law_624 (by decide) (fun h2 => ?_) (fun h2 => ?_)
    · skip
      refine lv_goto (tgt := 1102) E.1 E.2.1 d_L_law_638 (by decide) ?_
      exact hfin
    · skip
      have h2 : z.1 = 0 := (nI_eq (b := 0) (by omega) (by decide)).mp h2
      refine lv_aload_n E.1 E.2.1 d_L_law_627 rfl (lv_at hl 3 rfl) ?_
      refine lv_iconst (v := 0) E.1 E.2.1 d_L_law_628 (by decide) ?_
      refine va_lald E.1 E.2.1 hK hO2 0 0 rfl rfl (vp_in_nI (n := 0) (N := 1) (by decide) (by decide)) d_L_law_629 ?_
      refine xl_tl (y := z.2.1) (hf1 h2) ?_
      refine lv_lload E.1 E.2.1 d_L_law_630 (lv_at hl 0 rfl) ?_
      refine xl_tl (y := z.2.1) (hi h2) ?_
      refine xl_lc_eq (tgt := 638) E.1 E.2.1 d_L_law_632 d_L_law_633 (by decide) (fun h3 => ?_) (fun h3 => ?_)
      · skip
        refine lv_goto (tgt := 1102) E.1 E.2.1 d_L_law_638 (by decide) ?_
        exact hfin
      · skip
        exact absurd rfl h3
  · skip
    exact absurd rfl h1
theorem ww_takeRange : xwW 96 y_L_takeRange b_L_takeRange 7 [(0, 10, 13, 13), (0, 10, 17, 37)] 4 := ⟨⟨by decide, by decide, by decide +kernel⟩, cw_L_takeRange, in_L_ini, lk_L_takeRange, st_L_takeRange⟩
set_option maxHeartbeats 4000000 in
set_option maxRecDepth 100000 in
theorem k_takeRange {p : Program} {l : Launch} {e : Env} {s : State} {m : MethodId} {below : List Frame} {meth : Method} {c : Code} {scr L : Nat} {xs : Nat → Int32} {D : va_G} {x w b r o : Nat} {cJ cZ : ClassId} {β : Nat → Bool} {n q : Nat} {f : Nat → Int64} {fa : Int32} {rd : Nat} {gd : Bool} {H : Heap} {ls : Array Slot} (C : xCx p l s m c scr L xs D x w b r o cJ cZ) (j : Nat) (hj : 7 * j + 7 ≤ L) (hok : xok (β, n, q)) (hP : PX D x w cJ β n q H) (hPM : PM D b r cZ β n q fa rd gd H) (hO : xOut D o cJ f H) (hS : va_S (xnew s) s.heap H []) (hl : lv_has ls 8 [(4, .int (nI (7 * j))), (3, .ref o), (2, .ref b), (1, .ref x), (0, .ref scr)])
    (next : xNext p l e s m below meth c scr D x w b r o cJ cZ j) :
    W p l e room_1 s m #[Value.ref scr] below meth c H [] (5 + j) (66570 + 6 * j) (lw_Z below #[Value.ref scr] s) (F0 m 641 ls []) := by
  have C0 := C
  obtain ⟨E, hL, hK, hN, hQ0, hX, hsc, hLb, hap⟩ := C
  have hbA : ¬ xnew s scr := fun z => Nat.not_le.mpr hsc z
  refine lv_aload_n E.1 E.2.1 d_L_law_641 rfl (lv_at hl 3 rfl) ?_
  refine lv_aload_n E.1 E.2.1 d_L_law_642 rfl (lv_at hl 4 rfl) ?_
  refine lv_iload E.1 E.2.1 d_L_law_643 (lv_at hl 0 rfl) ?_
  refine lv_iconst (v := 1) E.1 E.2.1 d_L_law_645 (by decide) ?_
  refine lv_iadd E.1 E.2.1 d_L_law_646 ?_
  refine xl_ti (y := nI (7 * j + 1)) (nI_add (7 * j) 1) ?_
  refine va_sld E.1 E.2.1 hX hsc hbA hS (vp_in_nI (n := 7 * j + 1) (by omega) (by omega)) d_L_law_647 ?_
  refine xl_ti (y := xs (7 * j + 1)) (by rw [nI_clamp (by omega)]) ?_
  refine lv_i2l (v := (xs (7 * j + 1)).toInt64) E.1 E.2.1 d_L_law_648 rfl ?_
  refine lv_bipush (v := 32) E.1 E.2.1 d_L_law_649 (by decide) ?_
  refine lv_lshl (v := xsl ((xs (7 * j + 1)).toInt64) 32) E.1 E.2.1 d_L_law_651 rfl ?_
  refine lv_aload_n E.1 E.2.1 d_L_law_652 rfl (lv_at hl 4 rfl) ?_
  refine lv_iload E.1 E.2.1 d_L_law_653 (lv_at hl 0 rfl) ?_
  refine lv_iconst (v := 2) E.1 E.2.1 d_L_law_655 (by decide) ?_
  refine lv_iadd E.1 E.2.1 d_L_law_656 ?_
  refine xl_ti (y := nI (7 * j + 2)) (nI_add (7 * j) 2) ?_
  refine va_sld E.1 E.2.1 hX hsc hbA hS (vp_in_nI (n := 7 * j + 2) (by omega) (by omega)) d_L_law_657 ?_
  refine xl_ti (y := xs (7 * j + 2)) (by rw [nI_clamp (by omega)]) ?_
  refine lv_i2l (v := (xs (7 * j + 2)).toInt64) E.1 E.2.1 d_L_law_658 rfl ?_
  refine lv_ldc2 (v := 4294967295) E.1 E.2.1 E.2.2.2.1 (E.2.2.2.2 _ co_L_66) d_L_law_659 ?_
  refine lv_land E.1 E.2.1 d_L_law_662 ?_
  refine lv_lor E.1 E.2.1 d_L_law_663 ?_
  refine lv_aload_n E.1 E.2.1 d_L_law_664 rfl (lv_at hl 4 rfl) ?_
  refine lv_iload E.1 E.2.1 d_L_law_665 (lv_at hl 0 rfl) ?_
  refine lv_iconst (v := 3) E.1 E.2.1 d_L_law_667 (by decide) ?_
  refine lv_iadd E.1 E.2.1 d_L_law_668 ?_
  refine xl_ti (y := nI (7 * j + 3)) (nI_add (7 * j) 3) ?_
  refine va_sld E.1 E.2.1 hX hsc hbA hS (vp_in_nI (n := 7 * j + 3) (by omega) (by omega)) d_L_law_669 ?_
  refine xl_ti (y := xs (7 * j + 3)) (by rw [nI_clamp (by omega)]) ?_
  refine lv_i2l (v := (xs (7 * j + 3)).toInt64) E.1 E.2.1 d_L_law_670 rfl ?_
  refine lv_bipush (v := 32) E.1 E.2.1 d_L_law_671 (by decide) ?_
  refine lv_lshl (v := xsl ((xs (7 * j + 3)).toInt64) 32) E.1 E.2.1 d_L_law_673 rfl ?_
  refine lv_aload_n E.1 E.2.1 d_L_law_674 rfl (lv_at hl 4 rfl) ?_
  refine lv_iload E.1 E.2.1 d_L_law_675 (lv_at hl 0 rfl) ?_
  refine lv_iconst (v := 4) E.1 E.2.1 d_L_law_677 (by decide) ?_
  refine lv_iadd E.1 E.2.1 d_L_law_678 ?_
  refine xl_ti (y := nI (7 * j + 4)) (nI_add (7 * j) 4) ?_
  refine va_sld E.1 E.2.1 hX hsc hbA hS (vp_in_nI (n := 7 * j + 4) (by omega) (by omega)) d_L_law_679 ?_
  refine xl_ti (y := xs (7 * j + 4)) (by rw [nI_clamp (by omega)]) ?_
  refine lv_i2l (v := (xs (7 * j + 4)).toInt64) E.1 E.2.1 d_L_law_680 rfl ?_
  refine lv_ldc2 (v := 4294967295) E.1 E.2.1 E.2.2.2.1 (E.2.2.2.2 _ co_L_66) d_L_law_681 ?_
  refine lv_land E.1 E.2.1 d_L_law_684 ?_
  refine lv_lor E.1 E.2.1 d_L_law_685 ?_
  refine lv_aload_n E.1 E.2.1 d_L_law_686 rfl (lv_at hl 1 rfl) ?_
  refine xk_wrap C0 (l_takeRange l hL D x w o cJ cZ β n q f hok.1 hok.2 hap.2.1.1 hap.2.2.1.1 hap.2.2.1.2.1 ((xsl ((xs (7 * j + 1)).toInt64) 32) ||| (((xs (7 * j + 2)).toInt64) &&& 4294967295)) ((xsl ((xs (7 * j + 3)).toInt64) 32) ||| (((xs (7 * j + 4)).toInt64) &&& 4294967295))) ww_takeRange (by decide) hP hPM hO hS rfl hl.1 rfl (Nat.le_of_ble_eq_true rfl) (by omega) (by omega) d_L_law_687 (fun H1 f1 hf1 hP1 hPM1 hO1 hS1 => ?_)
  clear hP hPM hO hS
  have hS := hS1
  refine W.eq (g2 := F0 m 690 ls [.int (nI (sp_takeRange (β, n, q) ((xsl ((xs (7 * j + 1)).toInt64) 32) ||| (((xs (7 * j + 2)).toInt64) &&& 4294967295)) ((xsl ((xs (7 * j + 3)).toInt64) 32) ||| (((xs (7 * j + 4)).toInt64) &&& 4294967295))).1)]) rfl ?_
  refine lv_istore E.1 E.2.1 d_L_law_690 hl (by decide) rfl (fun ls hl => ?_)
  have hl : lv_has ls 8 [(5, .int (nI (sp_takeRange (β, n, q) ((xsl ((xs (7 * j + 1)).toInt64) 32) ||| (((xs (7 * j + 2)).toInt64) &&& 4294967295)) ((xsl ((xs (7 * j + 3)).toInt64) 32) ||| (((xs (7 * j + 4)).toInt64) &&& 4294967295))).1)), (4, .int (nI (7 * j))), (3, .ref o), (2, .ref b), (1, .ref x), (0, .ref scr)] := hl
  refine lv_aload_n E.1 E.2.1 d_L_law_692 rfl (lv_at hl 3 rfl) ?_
  refine lv_aload_n E.1 E.2.1 d_L_law_693 rfl (lv_at hl 5 rfl) ?_
  refine lv_iload E.1 E.2.1 d_L_law_694 (lv_at hl 1 rfl) ?_
  refine lv_iconst (v := 1) E.1 E.2.1 d_L_law_696 (by decide) ?_
  refine lv_iadd E.1 E.2.1 d_L_law_697 ?_
  refine xl_ti (y := nI (7 * j + 1)) (nI_add (7 * j) 1) ?_
  refine va_sld E.1 E.2.1 hX hsc hbA hS (vp_in_nI (n := 7 * j + 1) (by omega) (by omega)) d_L_law_698 ?_
  refine xl_ti (y := xs (7 * j + 1)) (by rw [nI_clamp (by omega)]) ?_
  refine lv_i2l (v := (xs (7 * j + 1)).toInt64) E.1 E.2.1 d_L_law_699 rfl ?_
  refine lv_bipush (v := 32) E.1 E.2.1 d_L_law_700 (by decide) ?_
  refine lv_lshl (v := xsl ((xs (7 * j + 1)).toInt64) 32) E.1 E.2.1 d_L_law_702 rfl ?_
  refine lv_aload_n E.1 E.2.1 d_L_law_703 rfl (lv_at hl 5 rfl) ?_
  refine lv_iload E.1 E.2.1 d_L_law_704 (lv_at hl 1 rfl) ?_
  refine lv_iconst (v := 2) E.1 E.2.1 d_L_law_706 (by decide) ?_
  refine lv_iadd E.1 E.2.1 d_L_law_707 ?_
  refine xl_ti (y := nI (7 * j + 2)) (nI_add (7 * j) 2) ?_
  refine va_sld E.1 E.2.1 hX hsc hbA hS (vp_in_nI (n := 7 * j + 2) (by omega) (by omega)) d_L_law_708 ?_
  refine xl_ti (y := xs (7 * j + 2)) (by rw [nI_clamp (by omega)]) ?_
  refine lv_i2l (v := (xs (7 * j + 2)).toInt64) E.1 E.2.1 d_L_law_709 rfl ?_
  refine lv_ldc2 (v := 4294967295) E.1 E.2.1 E.2.2.2.1 (E.2.2.2.2 _ co_L_66) d_L_law_710 ?_
  refine lv_land E.1 E.2.1 d_L_law_713 ?_
  refine lv_lor E.1 E.2.1 d_L_law_714 ?_
  refine lv_aload_n E.1 E.2.1 d_L_law_715 rfl (lv_at hl 5 rfl) ?_
  refine lv_iload E.1 E.2.1 d_L_law_716 (lv_at hl 1 rfl) ?_
  refine lv_iconst (v := 3) E.1 E.2.1 d_L_law_718 (by decide) ?_
  refine lv_iadd E.1 E.2.1 d_L_law_719 ?_
  refine xl_ti (y := nI (7 * j + 3)) (nI_add (7 * j) 3) ?_
  refine va_sld E.1 E.2.1 hX hsc hbA hS (vp_in_nI (n := 7 * j + 3) (by omega) (by omega)) d_L_law_720 ?_
  refine xl_ti (y := xs (7 * j + 3)) (by rw [nI_clamp (by omega)]) ?_
  refine lv_i2l (v := (xs (7 * j + 3)).toInt64) E.1 E.2.1 d_L_law_721 rfl ?_
  refine lv_bipush (v := 32) E.1 E.2.1 d_L_law_722 (by decide) ?_
  refine lv_lshl (v := xsl ((xs (7 * j + 3)).toInt64) 32) E.1 E.2.1 d_L_law_724 rfl ?_
  refine lv_aload_n E.1 E.2.1 d_L_law_725 rfl (lv_at hl 5 rfl) ?_
  refine lv_iload E.1 E.2.1 d_L_law_726 (lv_at hl 1 rfl) ?_
  refine lv_iconst (v := 4) E.1 E.2.1 d_L_law_728 (by decide) ?_
  refine lv_iadd E.1 E.2.1 d_L_law_729 ?_
  refine xl_ti (y := nI (7 * j + 4)) (nI_add (7 * j) 4) ?_
  refine va_sld E.1 E.2.1 hX hsc hbA hS (vp_in_nI (n := 7 * j + 4) (by omega) (by omega)) d_L_law_730 ?_
  refine xl_ti (y := xs (7 * j + 4)) (by rw [nI_clamp (by omega)]) ?_
  refine lv_i2l (v := (xs (7 * j + 4)).toInt64) E.1 E.2.1 d_L_law_731 rfl ?_
  refine lv_ldc2 (v := 4294967295) E.1 E.2.1 E.2.2.2.1 (E.2.2.2.2 _ co_L_66) d_L_law_732 ?_
  refine lv_land E.1 E.2.1 d_L_law_735 ?_
  refine lv_lor E.1 E.2.1 d_L_law_736 ?_
  refine xk_model C0 (m_takeRange l D b r cJ cZ β n q fa rd gd hok.1 hok.2 hap.2.1.2 ((xsl ((xs (7 * j + 1)).toInt64) 32) ||| (((xs (7 * j + 2)).toInt64) &&& 4294967295)) ((xsl ((xs (7 * j + 3)).toInt64) 32) ||| (((xs (7 * j + 4)).toInt64) &&& 4294967295))) vw_L_M_takeRange rfl (by decide) hP1 hPM1 hO1 hS1 rfl hl.1 rfl (Nat.le_of_ble_eq_true rfl) (by omega) (by omega) d_L_law_737 (fun v st t hrt hP2 hO2 hS2 => ?_)
  obtain ⟨i, rd2, gd2, rfl, hi, hPM2⟩ := hrt
  generalize t.heap = H2 at hPM2 hP2 hO2 hS2 ⊢
  refine W.eq (g2 := F0 m 740 ls [.long i]) rfl ?_
  have hs2 := s2_takeRange (β, n, q) ((xsl ((xs (7 * j + 1)).toInt64) 32) ||| (((xs (7 * j + 2)).toInt64) &&& 4294967295)) ((xsl ((xs (7 * j + 3)).toInt64) 32) ||| (((xs (7 * j + 4)).toInt64) &&& 4294967295))
  have hok2 : xok (sp_takeRange (β, n, q) ((xsl ((xs (7 * j + 1)).toInt64) 32) ||| (((xs (7 * j + 2)).toInt64) &&& 4294967295)) ((xsl ((xs (7 * j + 3)).toInt64) 32) ||| (((xs (7 * j + 4)).toInt64) &&& 4294967295))).2.2 := so_takeRange hok
  generalize sp_takeRange (β, n, q) ((xsl ((xs (7 * j + 1)).toInt64) 32) ||| (((xs (7 * j + 2)).toInt64) &&& 4294967295)) ((xsl ((xs (7 * j + 3)).toInt64) 32) ||| (((xs (7 * j + 4)).toInt64) &&& 4294967295)) = z at hf1 hi hPM2 hP2 hl hs2 hok2 ⊢
  refine lv_lstore E.1 E.2.1 d_L_law_740 hl (by decide) rfl (fun ls hl => ?_)
  have hl : lv_has ls 8 [(6, .long i), (5, .int (nI z.1)), (4, .int (nI (7 * j))), (3, .ref o), (2, .ref b), (1, .ref x), (0, .ref scr)] := hl
  refine lv_aload_n E.1 E.2.1 d_L_law_742 rfl (lv_at hl 4 rfl) ?_
  refine xk_thrown C0 hPM2 hl.1 (Nat.le_of_ble_eq_true rfl) (by omega) (by omega) d_L_law_743 ?_
  refine lv_iload E.1 E.2.1 d_L_law_746 (lv_at hl 1 rfl) ?_
  have hfin : W p l e room_1 s m #[Value.ref scr] below meth c H2 [] (5 + j + 1) (66570 + 6 * j + 6) (lw_Z below #[Value.ref scr] s) (F0 m 1102 ls []) := next z.2.2 H2 ls f1 _ rd2 gd2 hok2 hP2 hPM2 hO2 hS2 (lv_sub hl [2, 3, 4, 5, 6] rfl)
  refine lv_icmp_eq (tgt := 753) E.1 E.2.1 d_L_law_748 (by decide) (fun h1 => ?_) (fun h1 => ?_)
  · skip
    refine lv_iload E.1 E.2.1 d_L_law_753 (lv_at hl 1 rfl) ?_
    refine lv_if_ne (tgt := 769) E.1 E.2.1 d_L_law_755 (by decide) (fun h2 => ?_) (fun h2 => ?_)
    · skip
      refine lv_goto (tgt := 1102) E.1 E.2.1 d_L_law_769 (by decide) ?_
      exact hfin
    · skip
      have h2 : z.1 = 0 := (nI_eq (b := 0) (by omega) (by decide)).mp h2
      refine lv_aload_n E.1 E.2.1 d_L_law_758 rfl (lv_at hl 3 rfl) ?_
      refine lv_iconst (v := 0) E.1 E.2.1 d_L_law_759 (by decide) ?_
      refine va_lald E.1 E.2.1 hK hO2 0 0 rfl rfl (vp_in_nI (n := 0) (N := 1) (by decide) (by decide)) d_L_law_760 ?_
      refine xl_tl (y := z.2.1) (hf1 h2) ?_
      refine lv_lload E.1 E.2.1 d_L_law_761 (lv_at hl 0 rfl) ?_
      refine xl_tl (y := z.2.1) (hi h2) ?_
      refine xl_lc_eq (tgt := 769) E.1 E.2.1 d_L_law_763 d_L_law_764 (by decide) (fun h3 => ?_) (fun h3 => ?_)
      · skip
        refine lv_goto (tgt := 1102) E.1 E.2.1 d_L_law_769 (by decide) ?_
        exact hfin
      · skip
        exact absurd rfl h3
  · skip
    exact absurd rfl h1
end XL34d
end
section
/-! The law's cases: takeLength, takeNumber, go. -/
section XL34e
theorem ww_takeLength : xwW 100 y_L_takeLength b_L_takeLength 3 [(0, 8, 11, 37)] 2 := ⟨⟨by decide, by decide, by decide +kernel⟩, cw_L_takeLength, in_L_ini, lk_L_takeLength, st_L_takeLength⟩
set_option maxHeartbeats 4000000 in
set_option maxRecDepth 100000 in
theorem k_takeLength {p : Program} {l : Launch} {e : Env} {s : State} {m : MethodId} {below : List Frame} {meth : Method} {c : Code} {scr L : Nat} {xs : Nat → Int32} {D : va_G} {x w b r o : Nat} {cJ cZ : ClassId} {β : Nat → Bool} {n q : Nat} {f : Nat → Int64} {fa : Int32} {rd : Nat} {gd : Bool} {H : Heap} {ls : Array Slot} (C : xCx p l s m c scr L xs D x w b r o cJ cZ) (j : Nat) (hj : 7 * j + 7 ≤ L) (hok : xok (β, n, q)) (hP : PX D x w cJ β n q H) (hPM : PM D b r cZ β n q fa rd gd H) (hO : xOut D o cJ f H) (hS : va_S (xnew s) s.heap H []) (hl : lv_has ls 8 [(4, .int (nI (7 * j))), (3, .ref o), (2, .ref b), (1, .ref x), (0, .ref scr)])
    (next : xNext p l e s m below meth c scr D x w b r o cJ cZ j) :
    W p l e room_1 s m #[Value.ref scr] below meth c H [] (5 + j) (66570 + 6 * j) (lw_Z below #[Value.ref scr] s) (F0 m 772 ls []) := by
  have C0 := C
  obtain ⟨E, hL, hK, hN, hQ0, hX, hsc, hLb, hap⟩ := C
  have hbA : ¬ xnew s scr := fun z => Nat.not_le.mpr hsc z
  refine lv_aload_n E.1 E.2.1 d_L_law_772 rfl (lv_at hl 3 rfl) ?_
  refine lv_aload_n E.1 E.2.1 d_L_law_773 rfl (lv_at hl 1 rfl) ?_
  refine xk_wrap C0 (l_takeLength l hL D x w o cJ cZ β n q f hok.1 hok.2 hap.2.1.1 hap.2.2.1.1 hap.2.2.1.2.1 ) ww_takeLength (by decide) hP hPM hO hS rfl hl.1 rfl (Nat.le_of_ble_eq_true rfl) (by omega) (by omega) d_L_law_774 (fun H1 f1 hf1 hP1 hPM1 hO1 hS1 => ?_)
  clear hP hPM hO hS
  have hS := hS1
  refine W.eq (g2 := F0 m 777 ls [.int (nI (sp_takeLength (β, n, q) ).1)]) rfl ?_
  refine lv_istore E.1 E.2.1 d_L_law_777 hl (by decide) rfl (fun ls hl => ?_)
  have hl : lv_has ls 8 [(5, .int (nI (sp_takeLength (β, n, q) ).1)), (4, .int (nI (7 * j))), (3, .ref o), (2, .ref b), (1, .ref x), (0, .ref scr)] := hl
  refine lv_aload_n E.1 E.2.1 d_L_law_779 rfl (lv_at hl 3 rfl) ?_
  refine xk_model C0 (m_takeLength l D b r cJ cZ β n q fa rd gd hok.1 hok.2 hap.2.1.2 ) vw_L_M_takeLength rfl (by decide) hP1 hPM1 hO1 hS1 rfl hl.1 rfl (Nat.le_of_ble_eq_true rfl) (by omega) (by omega) d_L_law_780 (fun v st t hrt hP2 hO2 hS2 => ?_)
  obtain ⟨i, rd2, gd2, rfl, hi, hPM2⟩ := hrt
  generalize t.heap = H2 at hPM2 hP2 hO2 hS2 ⊢
  refine W.eq (g2 := F0 m 783 ls [.int i]) rfl ?_
  have hs2 := s2_takeLength (β, n, q) 
  have hok2 : xok (sp_takeLength (β, n, q) ).2.2 := so_takeLength hok
  generalize sp_takeLength (β, n, q)  = z at hf1 hi hPM2 hP2 hl hs2 hok2 ⊢
  refine lv_istore E.1 E.2.1 d_L_law_783 hl (by decide) rfl (fun ls hl => ?_)
  have hl : lv_has ls 8 [(6, .int i), (5, .int (nI z.1)), (4, .int (nI (7 * j))), (3, .ref o), (2, .ref b), (1, .ref x), (0, .ref scr)] := hl
  refine lv_aload_n E.1 E.2.1 d_L_law_785 rfl (lv_at hl 4 rfl) ?_
  refine xk_thrown C0 hPM2 hl.1 (Nat.le_of_ble_eq_true rfl) (by omega) (by omega) d_L_law_786 ?_
  refine lv_iload E.1 E.2.1 d_L_law_789 (lv_at hl 1 rfl) ?_
  have hfin : W p l e room_1 s m #[Value.ref scr] below meth c H2 [] (5 + j + 1) (66570 + 6 * j + 6) (lw_Z below #[Value.ref scr] s) (F0 m 1102 ls []) := next z.2.2 H2 ls f1 _ rd2 gd2 hok2 hP2 hPM2 hO2 hS2 (lv_sub hl [2, 3, 4, 5, 6] rfl)
  refine lv_icmp_eq (tgt := 796) E.1 E.2.1 d_L_law_791 (by decide) (fun h1 => ?_) (fun h1 => ?_)
  · skip
    refine lv_iload E.1 E.2.1 d_L_law_796 (lv_at hl 1 rfl) ?_
    refine lv_if_ne (tgt := 813) E.1 E.2.1 d_L_law_798 (by decide) (fun h2 => ?_) (fun h2 => ?_)
    · skip
      refine lv_goto (tgt := 1102) E.1 E.2.1 d_L_law_813 (by decide) ?_
      exact hfin
    · skip
      have h2 : z.1 = 0 := (nI_eq (b := 0) (by omega) (by decide)).mp h2
      refine lv_aload_n E.1 E.2.1 d_L_law_801 rfl (lv_at hl 3 rfl) ?_
      refine lv_iconst (v := 0) E.1 E.2.1 d_L_law_802 (by decide) ?_
      refine va_lald E.1 E.2.1 hK hO2 0 0 rfl rfl (vp_in_nI (n := 0) (N := 1) (by decide) (by decide)) d_L_law_803 ?_
      refine xl_tl (y := z.2.1) (hf1 h2) ?_
      refine lv_iload E.1 E.2.1 d_L_law_804 (lv_at hl 0 rfl) ?_
      refine lv_i2l (v := i.toInt64) E.1 E.2.1 d_L_law_806 rfl ?_
      refine xl_tl (y := z.2.1) (hi h2) ?_
      refine xl_lc_eq (tgt := 813) E.1 E.2.1 d_L_law_807 d_L_law_808 (by decide) (fun h3 => ?_) (fun h3 => ?_)
      · skip
        refine lv_goto (tgt := 1102) E.1 E.2.1 d_L_law_813 (by decide) ?_
        exact hfin
      · skip
        exact absurd rfl h3
  · skip
    exact absurd rfl h1
theorem ww_takeNumber : xwW 103 y_L_takeNumber b_L_takeNumber 4 [(0, 8, 11, 13), (0, 8, 14, 37)] 3 := ⟨⟨by decide, by decide, by decide +kernel⟩, cw_L_takeNumber, in_L_ini, lk_L_takeNumber, st_L_takeNumber⟩
set_option maxHeartbeats 4000000 in
set_option maxRecDepth 100000 in
theorem k_takeNumber {p : Program} {l : Launch} {e : Env} {s : State} {m : MethodId} {below : List Frame} {meth : Method} {c : Code} {scr L : Nat} {xs : Nat → Int32} {D : va_G} {x w b r o : Nat} {cJ cZ : ClassId} {β : Nat → Bool} {n q : Nat} {f : Nat → Int64} {fa : Int32} {rd : Nat} {gd : Bool} {H : Heap} {ls : Array Slot} (C : xCx p l s m c scr L xs D x w b r o cJ cZ) (j : Nat) (hj : 7 * j + 7 ≤ L) (hok : xok (β, n, q)) (hP : PX D x w cJ β n q H) (hPM : PM D b r cZ β n q fa rd gd H) (hO : xOut D o cJ f H) (hS : va_S (xnew s) s.heap H []) (hl : lv_has ls 8 [(4, .int (nI (7 * j))), (3, .ref o), (2, .ref b), (1, .ref x), (0, .ref scr)])
    (next : xNext p l e s m below meth c scr D x w b r o cJ cZ j) :
    W p l e room_1 s m #[Value.ref scr] below meth c H [] (5 + j) (66570 + 6 * j) (lw_Z below #[Value.ref scr] s) (F0 m 816 ls []) := by
  have C0 := C
  obtain ⟨E, hL, hK, hN, hQ0, hX, hsc, hLb, hap⟩ := C
  have hbA : ¬ xnew s scr := fun z => Nat.not_le.mpr hsc z
  refine lv_aload_n E.1 E.2.1 d_L_law_816 rfl (lv_at hl 3 rfl) ?_
  refine lv_aload_n E.1 E.2.1 d_L_law_817 rfl (lv_at hl 4 rfl) ?_
  refine lv_iload E.1 E.2.1 d_L_law_818 (lv_at hl 0 rfl) ?_
  refine lv_iconst (v := 1) E.1 E.2.1 d_L_law_820 (by decide) ?_
  refine lv_iadd E.1 E.2.1 d_L_law_821 ?_
  refine xl_ti (y := nI (7 * j + 1)) (nI_add (7 * j) 1) ?_
  refine va_sld E.1 E.2.1 hX hsc hbA hS (vp_in_nI (n := 7 * j + 1) (by omega) (by omega)) d_L_law_822 ?_
  refine xl_ti (y := xs (7 * j + 1)) (by rw [nI_clamp (by omega)]) ?_
  refine lv_aload_n E.1 E.2.1 d_L_law_823 rfl (lv_at hl 1 rfl) ?_
  refine xk_wrap C0 (l_takeNumber l hL D x w o cJ cZ β n q f hok.1 hok.2 hap.2.1.1 hap.2.2.1.1 hap.2.2.1.2.1 (xs (7 * j + 1))) ww_takeNumber (by decide) hP hPM hO hS rfl hl.1 rfl (Nat.le_of_ble_eq_true rfl) (by omega) (by omega) d_L_law_824 (fun H1 f1 hf1 hP1 hPM1 hO1 hS1 => ?_)
  clear hP hPM hO hS
  have hS := hS1
  refine W.eq (g2 := F0 m 827 ls [.int (nI (sp_takeNumber (β, n, q) (xs (7 * j + 1))).1)]) rfl ?_
  refine lv_istore E.1 E.2.1 d_L_law_827 hl (by decide) rfl (fun ls hl => ?_)
  have hl : lv_has ls 8 [(5, .int (nI (sp_takeNumber (β, n, q) (xs (7 * j + 1))).1)), (4, .int (nI (7 * j))), (3, .ref o), (2, .ref b), (1, .ref x), (0, .ref scr)] := hl
  refine lv_aload_n E.1 E.2.1 d_L_law_829 rfl (lv_at hl 3 rfl) ?_
  refine lv_aload_n E.1 E.2.1 d_L_law_830 rfl (lv_at hl 5 rfl) ?_
  refine lv_iload E.1 E.2.1 d_L_law_831 (lv_at hl 1 rfl) ?_
  refine lv_iconst (v := 1) E.1 E.2.1 d_L_law_833 (by decide) ?_
  refine lv_iadd E.1 E.2.1 d_L_law_834 ?_
  refine xl_ti (y := nI (7 * j + 1)) (nI_add (7 * j) 1) ?_
  refine va_sld E.1 E.2.1 hX hsc hbA hS (vp_in_nI (n := 7 * j + 1) (by omega) (by omega)) d_L_law_835 ?_
  refine xl_ti (y := xs (7 * j + 1)) (by rw [nI_clamp (by omega)]) ?_
  refine xk_model C0 (m_takeNumber l D b r cJ cZ β n q fa rd gd hok.1 hok.2 hap.2.1.2 (xs (7 * j + 1))) vw_L_M_takeNumber rfl (by decide) hP1 hPM1 hO1 hS1 rfl hl.1 rfl (Nat.le_of_ble_eq_true rfl) (by omega) (by omega) d_L_law_836 (fun v st t hrt hP2 hO2 hS2 => ?_)
  obtain ⟨i, rd2, gd2, rfl, hi, hPM2⟩ := hrt
  generalize t.heap = H2 at hPM2 hP2 hO2 hS2 ⊢
  refine W.eq (g2 := F0 m 839 ls [.long i]) rfl ?_
  have hs2 := s2_takeNumber (β, n, q) (xs (7 * j + 1))
  have hok2 : xok (sp_takeNumber (β, n, q) (xs (7 * j + 1))).2.2 := so_takeNumber hok
  generalize sp_takeNumber (β, n, q) (xs (7 * j + 1)) = z at hf1 hi hPM2 hP2 hl hs2 hok2 ⊢
  refine lv_lstore E.1 E.2.1 d_L_law_839 hl (by decide) rfl (fun ls hl => ?_)
  have hl : lv_has ls 8 [(6, .long i), (5, .int (nI z.1)), (4, .int (nI (7 * j))), (3, .ref o), (2, .ref b), (1, .ref x), (0, .ref scr)] := hl
  refine lv_aload_n E.1 E.2.1 d_L_law_841 rfl (lv_at hl 4 rfl) ?_
  refine xk_thrown C0 hPM2 hl.1 (Nat.le_of_ble_eq_true rfl) (by omega) (by omega) d_L_law_842 ?_
  refine lv_iload E.1 E.2.1 d_L_law_845 (lv_at hl 1 rfl) ?_
  have hfin : W p l e room_1 s m #[Value.ref scr] below meth c H2 [] (5 + j + 1) (66570 + 6 * j + 6) (lw_Z below #[Value.ref scr] s) (F0 m 1102 ls []) := next z.2.2 H2 ls f1 _ rd2 gd2 hok2 hP2 hPM2 hO2 hS2 (lv_sub hl [2, 3, 4, 5, 6] rfl)
  refine lv_icmp_eq (tgt := 852) E.1 E.2.1 d_L_law_847 (by decide) (fun h1 => ?_) (fun h1 => ?_)
  · skip
    refine lv_iload E.1 E.2.1 d_L_law_852 (lv_at hl 1 rfl) ?_
    refine lv_if_ne (tgt := 868) E.1 E.2.1 d_L_law_854 (by decide) (fun h2 => ?_) (fun h2 => ?_)
    · skip
      refine lv_goto (tgt := 1102) E.1 E.2.1 d_L_law_868 (by decide) ?_
      exact hfin
    · skip
      have h2 : z.1 = 0 := (nI_eq (b := 0) (by omega) (by decide)).mp h2
      refine lv_aload_n E.1 E.2.1 d_L_law_857 rfl (lv_at hl 3 rfl) ?_
      refine lv_iconst (v := 0) E.1 E.2.1 d_L_law_858 (by decide) ?_
      refine va_lald E.1 E.2.1 hK hO2 0 0 rfl rfl (vp_in_nI (n := 0) (N := 1) (by decide) (by decide)) d_L_law_859 ?_
      refine xl_tl (y := z.2.1) (hf1 h2) ?_
      refine lv_lload E.1 E.2.1 d_L_law_860 (lv_at hl 0 rfl) ?_
      refine xl_tl (y := z.2.1) (hi h2) ?_
      refine xl_lc_eq (tgt := 868) E.1 E.2.1 d_L_law_862 d_L_law_863 (by decide) (fun h3 => ?_) (fun h3 => ?_)
      · skip
        refine lv_goto (tgt := 1102) E.1 E.2.1 d_L_law_868 (by decide) ?_
        exact hfin
      · skip
        exact absurd rfl h3
  · skip
    exact absurd rfl h1
theorem ww_go : xwW 106 y_L_go b_L_go 4 [(0, 9, 12, 13)] 3 := ⟨⟨by decide, by decide, by decide +kernel⟩, cw_L_go, in_L_ini, lk_L_go, st_L_go⟩
set_option maxHeartbeats 4000000 in
set_option maxRecDepth 100000 in
theorem k_go {p : Program} {l : Launch} {e : Env} {s : State} {m : MethodId} {below : List Frame} {meth : Method} {c : Code} {scr L : Nat} {xs : Nat → Int32} {D : va_G} {x w b r o : Nat} {cJ cZ : ClassId} {β : Nat → Bool} {n q : Nat} {f : Nat → Int64} {fa : Int32} {rd : Nat} {gd : Bool} {H : Heap} {ls : Array Slot} (C : xCx p l s m c scr L xs D x w b r o cJ cZ) (j : Nat) (hj : 7 * j + 7 ≤ L) (hok : xok (β, n, q)) (hP : PX D x w cJ β n q H) (hPM : PM D b r cZ β n q fa rd gd H) (hO : xOut D o cJ f H) (hS : va_S (xnew s) s.heap H []) (hl : lv_has ls 8 [(4, .int (nI (7 * j))), (3, .ref o), (2, .ref b), (1, .ref x), (0, .ref scr)])
    (next : xNext p l e s m below meth c scr D x w b r o cJ cZ j) :
    W p l e room_1 s m #[Value.ref scr] below meth c H [] (5 + j) (66570 + 6 * j) (lw_Z below #[Value.ref scr] s) (F0 m 871 ls []) := by
  have C0 := C
  obtain ⟨E, hL, hK, hN, hQ0, hX, hsc, hLb, hap⟩ := C
  have hbA : ¬ xnew s scr := fun z => Nat.not_le.mpr hsc z
  refine lv_aload_n E.1 E.2.1 d_L_law_871 rfl (lv_at hl 3 rfl) ?_
  refine lv_aload_n E.1 E.2.1 d_L_law_872 rfl (lv_at hl 4 rfl) ?_
  refine lv_iload E.1 E.2.1 d_L_law_873 (lv_at hl 0 rfl) ?_
  refine lv_iconst (v := 1) E.1 E.2.1 d_L_law_875 (by decide) ?_
  refine lv_iadd E.1 E.2.1 d_L_law_876 ?_
  refine xl_ti (y := nI (7 * j + 1)) (nI_add (7 * j) 1) ?_
  refine va_sld E.1 E.2.1 hX hsc hbA hS (vp_in_nI (n := 7 * j + 1) (by omega) (by omega)) d_L_law_877 ?_
  refine xl_ti (y := xs (7 * j + 1)) (by rw [nI_clamp (by omega)]) ?_
  refine lv_aload_n E.1 E.2.1 d_L_law_878 rfl (lv_at hl 1 rfl) ?_
  refine xk_wrap C0 (l_go l hL D x w o cJ cZ β n q f hok.1 hok.2 hap.2.1.1 hap.2.2.1.1 hap.2.2.1.2.1 (xs (7 * j + 1))) ww_go (by decide) hP hPM hO hS rfl hl.1 rfl (Nat.le_of_ble_eq_true rfl) (by omega) (by omega) d_L_law_879 (fun H1 f1 hf1 hP1 hPM1 hO1 hS1 => ?_)
  clear hP hPM hO hS
  have hS := hS1
  refine W.eq (g2 := F0 m 882 ls [.int (nI (sp_go (β, n, q) (xs (7 * j + 1))).1)]) rfl ?_
  refine lv_istore E.1 E.2.1 d_L_law_882 hl (by decide) rfl (fun ls hl => ?_)
  have hl : lv_has ls 8 [(5, .int (nI (sp_go (β, n, q) (xs (7 * j + 1))).1)), (4, .int (nI (7 * j))), (3, .ref o), (2, .ref b), (1, .ref x), (0, .ref scr)] := hl
  refine lv_aload_n E.1 E.2.1 d_L_law_884 rfl (lv_at hl 3 rfl) ?_
  refine lv_aload_n E.1 E.2.1 d_L_law_885 rfl (lv_at hl 5 rfl) ?_
  refine lv_iload E.1 E.2.1 d_L_law_886 (lv_at hl 1 rfl) ?_
  refine lv_iconst (v := 1) E.1 E.2.1 d_L_law_888 (by decide) ?_
  refine lv_iadd E.1 E.2.1 d_L_law_889 ?_
  refine xl_ti (y := nI (7 * j + 1)) (nI_add (7 * j) 1) ?_
  refine va_sld E.1 E.2.1 hX hsc hbA hS (vp_in_nI (n := 7 * j + 1) (by omega) (by omega)) d_L_law_890 ?_
  refine xl_ti (y := xs (7 * j + 1)) (by rw [nI_clamp (by omega)]) ?_
  refine xk_model C0 (m_go l D b r cJ cZ β n q fa rd gd hok.1 hok.2 hap.2.1.2 (xs (7 * j + 1))) vw_L_M_go rfl (by decide) hP1 hPM1 hO1 hS1 rfl hl.1 rfl (Nat.le_of_ble_eq_true rfl) (by omega) (by omega) d_L_law_891 (fun v st t hrt hP2 hO2 hS2 => ?_)
  obtain ⟨i, rd2, gd2, rfl, hi, hPM2⟩ := hrt
  generalize t.heap = H2 at hPM2 hP2 hO2 hS2 ⊢
  refine W.eq (g2 := F0 m 894 ls [.int i]) rfl ?_
  have hs2 := s2_go (β, n, q) (xs (7 * j + 1))
  have hok2 : xok (sp_go (β, n, q) (xs (7 * j + 1))).2.2 := so_go hok
  generalize sp_go (β, n, q) (xs (7 * j + 1)) = z at hf1 hi hPM2 hP2 hl hs2 hok2 ⊢
  refine lv_istore E.1 E.2.1 d_L_law_894 hl (by decide) rfl (fun ls hl => ?_)
  have hl : lv_has ls 8 [(6, .int i), (5, .int (nI z.1)), (4, .int (nI (7 * j))), (3, .ref o), (2, .ref b), (1, .ref x), (0, .ref scr)] := hl
  refine lv_aload_n E.1 E.2.1 d_L_law_896 rfl (lv_at hl 4 rfl) ?_
  refine xk_thrown C0 hPM2 hl.1 (Nat.le_of_ble_eq_true rfl) (by omega) (by omega) d_L_law_897 ?_
  refine lv_iload E.1 E.2.1 d_L_law_900 (lv_at hl 1 rfl) ?_
  have hfin : W p l e room_1 s m #[Value.ref scr] below meth c H2 [] (5 + j + 1) (66570 + 6 * j + 6) (lw_Z below #[Value.ref scr] s) (F0 m 1102 ls []) := next z.2.2 H2 ls f1 _ rd2 gd2 hok2 hP2 hPM2 hO2 hS2 (lv_sub hl [2, 3, 4, 5, 6] rfl)
  refine lv_icmp_eq (tgt := 907) E.1 E.2.1 d_L_law_902 (by decide) (fun h1 => ?_) (fun h1 => ?_)
  · skip
    refine lv_iload E.1 E.2.1 d_L_law_907 (lv_at hl 1 rfl) ?_
    refine lv_if_ne (tgt := 924) E.1 E.2.1 d_L_law_909 (by decide) (fun h2 => ?_) (fun h2 => ?_)
    · skip
      refine lv_goto (tgt := 1102) E.1 E.2.1 d_L_law_924 (by decide) ?_
      exact hfin
    · skip
      have h2 : z.1 = 0 := (nI_eq (b := 0) (by omega) (by decide)).mp h2
      refine lv_aload_n E.1 E.2.1 d_L_law_912 rfl (lv_at hl 3 rfl) ?_
      refine lv_iconst (v := 0) E.1 E.2.1 d_L_law_913 (by decide) ?_
      refine va_lald E.1 E.2.1 hK hO2 0 0 rfl rfl (vp_in_nI (n := 0) (N := 1) (by decide) (by decide)) d_L_law_914 ?_
      refine xl_tl (y := z.2.1) (hf1 h2) ?_
      refine lv_iload E.1 E.2.1 d_L_law_915 (lv_at hl 0 rfl) ?_
      refine lv_i2l (v := i.toInt64) E.1 E.2.1 d_L_law_917 rfl ?_
      refine xl_tl (y := z.2.1) (hi h2) ?_
      refine xl_lc_eq (tgt := 924) E.1 E.2.1 d_L_law_918 d_L_law_919 (by decide) (fun h3 => ?_) (fun h3 => ?_)
      · skip
        refine lv_goto (tgt := 1102) E.1 E.2.1 d_L_law_924 (by decide) ?_
        exact hfin
      · skip
        exact absurd rfl h3
  · skip
    exact absurd rfl h1
end XL34e
end
section
/-! The law's cases: turn, cut, count. -/
section XL34f
theorem ww_turn : xwW 109 y_L_turn b_L_turn 4 [(0, 16, 19, 13)] 3 := ⟨⟨by decide, by decide, by decide +kernel⟩, cw_L_turn, in_L_ini, lk_L_turn, st_L_turn⟩
set_option maxHeartbeats 4000000 in
set_option maxRecDepth 100000 in
theorem k_turn {p : Program} {l : Launch} {e : Env} {s : State} {m : MethodId} {below : List Frame} {meth : Method} {c : Code} {scr L : Nat} {xs : Nat → Int32} {D : va_G} {x w b r o : Nat} {cJ cZ : ClassId} {β : Nat → Bool} {n q : Nat} {f : Nat → Int64} {fa : Int32} {rd : Nat} {gd : Bool} {H : Heap} {ls : Array Slot} (C : xCx p l s m c scr L xs D x w b r o cJ cZ) (j : Nat) (hj : 7 * j + 7 ≤ L) (hok : xok (β, n, q)) (hP : PX D x w cJ β n q H) (hPM : PM D b r cZ β n q fa rd gd H) (hO : xOut D o cJ f H) (hS : va_S (xnew s) s.heap H []) (hl : lv_has ls 8 [(4, .int (nI (7 * j))), (3, .ref o), (2, .ref b), (1, .ref x), (0, .ref scr)])
    (next : xNext p l e s m below meth c scr D x w b r o cJ cZ j) :
    W p l e room_1 s m #[Value.ref scr] below meth c H [] (5 + j) (66570 + 6 * j) (lw_Z below #[Value.ref scr] s) (F0 m 927 ls []) := by
  have C0 := C
  obtain ⟨E, hL, hK, hN, hQ0, hX, hsc, hLb, hap⟩ := C
  have hbA : ¬ xnew s scr := fun z => Nat.not_le.mpr hsc z
  refine lv_aload_n E.1 E.2.1 d_L_law_927 rfl (lv_at hl 3 rfl) ?_
  refine lv_aload_n E.1 E.2.1 d_L_law_928 rfl (lv_at hl 4 rfl) ?_
  refine lv_iload E.1 E.2.1 d_L_law_929 (lv_at hl 0 rfl) ?_
  refine lv_iconst (v := 1) E.1 E.2.1 d_L_law_931 (by decide) ?_
  refine lv_iadd E.1 E.2.1 d_L_law_932 ?_
  refine xl_ti (y := nI (7 * j + 1)) (nI_add (7 * j) 1) ?_
  refine va_sld E.1 E.2.1 hX hsc hbA hS (vp_in_nI (n := 7 * j + 1) (by omega) (by omega)) d_L_law_933 ?_
  refine xl_ti (y := xs (7 * j + 1)) (by rw [nI_clamp (by omega)]) ?_
  refine lv_aload_n E.1 E.2.1 d_L_law_934 rfl (lv_at hl 1 rfl) ?_
  refine xk_wrap C0 (l_turn l hL D x w o cJ cZ β n q f hok.1 hok.2 hap.2.1.1 hap.2.2.1.1 hap.2.2.1.2.1 (xs (7 * j + 1))) ww_turn (by decide) hP hPM hO hS rfl hl.1 rfl (Nat.le_of_ble_eq_true rfl) (by omega) (by omega) d_L_law_935 (fun H1 f1 hf1 hP1 hPM1 hO1 hS1 => ?_)
  clear hP hPM hO hS
  have hS := hS1
  refine W.eq (g2 := F0 m 938 ls [.int (nI (sp_turn (β, n, q) (xs (7 * j + 1))).1)]) rfl ?_
  refine lv_istore E.1 E.2.1 d_L_law_938 hl (by decide) rfl (fun ls hl => ?_)
  have hl : lv_has ls 8 [(5, .int (nI (sp_turn (β, n, q) (xs (7 * j + 1))).1)), (4, .int (nI (7 * j))), (3, .ref o), (2, .ref b), (1, .ref x), (0, .ref scr)] := hl
  refine lv_aload_n E.1 E.2.1 d_L_law_940 rfl (lv_at hl 3 rfl) ?_
  refine lv_aload_n E.1 E.2.1 d_L_law_941 rfl (lv_at hl 5 rfl) ?_
  refine lv_iload E.1 E.2.1 d_L_law_942 (lv_at hl 1 rfl) ?_
  refine lv_iconst (v := 1) E.1 E.2.1 d_L_law_944 (by decide) ?_
  refine lv_iadd E.1 E.2.1 d_L_law_945 ?_
  refine xl_ti (y := nI (7 * j + 1)) (nI_add (7 * j) 1) ?_
  refine va_sld E.1 E.2.1 hX hsc hbA hS (vp_in_nI (n := 7 * j + 1) (by omega) (by omega)) d_L_law_946 ?_
  refine xl_ti (y := xs (7 * j + 1)) (by rw [nI_clamp (by omega)]) ?_
  refine xk_model C0 (m_turn l D b r cJ cZ β n q fa rd gd hok.1 hok.2 hap.2.1.2 (xs (7 * j + 1))) vw_L_M_turn rfl (by decide) hP1 hPM1 hO1 hS1 rfl hl.1 rfl (Nat.le_of_ble_eq_true rfl) (by omega) (by omega) d_L_law_947 (fun v st t hrt hP2 hO2 hS2 => ?_)
  obtain ⟨i, rd2, gd2, rfl, hi, hPM2⟩ := hrt
  generalize t.heap = H2 at hPM2 hP2 hO2 hS2 ⊢
  refine W.eq (g2 := F0 m 950 ls [.int i]) rfl ?_
  have hs2 := s2_turn (β, n, q) (xs (7 * j + 1))
  have hok2 : xok (sp_turn (β, n, q) (xs (7 * j + 1))).2.2 := so_turn hok
  have hsb := sb_turn (β, n, q) (xs (7 * j + 1))
  generalize sp_turn (β, n, q) (xs (7 * j + 1)) = z at hf1 hi hPM2 hP2 hl hs2 hok2 hsb ⊢
  refine lv_istore E.1 E.2.1 d_L_law_950 hl (by decide) rfl (fun ls hl => ?_)
  have hl : lv_has ls 8 [(6, .int i), (5, .int (nI z.1)), (4, .int (nI (7 * j))), (3, .ref o), (2, .ref b), (1, .ref x), (0, .ref scr)] := hl
  refine lv_aload_n E.1 E.2.1 d_L_law_952 rfl (lv_at hl 4 rfl) ?_
  refine xk_thrown C0 hPM2 hl.1 (Nat.le_of_ble_eq_true rfl) (by omega) (by omega) d_L_law_953 ?_
  refine lv_iload E.1 E.2.1 d_L_law_956 (lv_at hl 1 rfl) ?_
  have hfin : W p l e room_1 s m #[Value.ref scr] below meth c H2 [] (5 + j + 1) (66570 + 6 * j + 6) (lw_Z below #[Value.ref scr] s) (F0 m 1102 ls []) := next z.2.2 H2 ls f1 _ rd2 gd2 hok2 hP2 hPM2 hO2 hS2 (lv_sub hl [2, 3, 4, 5, 6] rfl)
  refine lv_icmp_eq (tgt := 963) E.1 E.2.1 d_L_law_958 (by decide) (fun h1 => ?_) (fun h1 => ?_)
  · skip
    refine lv_iload E.1 E.2.1 d_L_law_963 (lv_at hl 1 rfl) ?_
    refine lv_if_ne (tgt := 987) E.1 E.2.1 d_L_law_965 (by decide) (fun h2 => ?_) (fun h2 => ?_)
    · skip
      refine lv_goto (tgt := 1102) E.1 E.2.1 d_L_law_987 (by decide) ?_
      exact hfin
    · skip
      have h2 : z.1 = 0 := (nI_eq (b := 0) (by omega) (by decide)).mp h2
      refine lv_aload_n E.1 E.2.1 d_L_law_968 rfl (lv_at hl 3 rfl) ?_
      refine lv_iconst (v := 0) E.1 E.2.1 d_L_law_969 (by decide) ?_
      refine va_lald E.1 E.2.1 hK hO2 0 0 rfl rfl (vp_in_nI (n := 0) (N := 1) (by decide) (by decide)) d_L_law_970 ?_
      refine xl_tl (y := z.2.1) (hf1 h2) ?_
      refine lv_iload E.1 E.2.1 d_L_law_971 (lv_at hl 0 rfl) ?_
      refine lv_if_eq (tgt := 980) E.1 E.2.1 d_L_law_973 (by decide) (fun h4 => ?_) (fun h4 => ?_)
      · skip
        refine lv_lconst (v := 0) E.1 E.2.1 d_L_law_980 (by decide) ?_
        refine xl_tl (y := z.2.1) (by rw [← hi h2, h4]; rfl) ?_
        refine xl_lc_eq (tgt := 987) E.1 E.2.1 d_L_law_981 d_L_law_982 (by decide) (fun h3 => ?_) (fun h3 => ?_)
        · skip
          refine lv_goto (tgt := 1102) E.1 E.2.1 d_L_law_987 (by decide) ?_
          exact hfin
        · skip
          exact absurd rfl h3
      · skip
        refine lv_lconst (v := 1) E.1 E.2.1 d_L_law_976 (by decide) ?_
        refine lv_goto (tgt := 981) E.1 E.2.1 d_L_law_977 (by decide) ?_
        refine xl_tl (y := z.2.1) (xz_bool2 hsb (hi h2) h4) ?_
        refine xl_lc_eq (tgt := 987) E.1 E.2.1 d_L_law_981 d_L_law_982 (by decide) (fun h3 => ?_) (fun h3 => ?_)
        · skip
          refine lv_goto (tgt := 1102) E.1 E.2.1 d_L_law_987 (by decide) ?_
          exact hfin
        · skip
          exact absurd rfl h3
  · skip
    exact absurd rfl h1
theorem ww_cut : xwW 112 y_L_cut b_L_cut 4 [(0, 9, 12, 13)] 3 := ⟨⟨by decide, by decide, by decide +kernel⟩, cw_L_cut, in_L_ini, lk_L_cut, st_L_cut⟩
set_option maxHeartbeats 4000000 in
set_option maxRecDepth 100000 in
theorem k_cut {p : Program} {l : Launch} {e : Env} {s : State} {m : MethodId} {below : List Frame} {meth : Method} {c : Code} {scr L : Nat} {xs : Nat → Int32} {D : va_G} {x w b r o : Nat} {cJ cZ : ClassId} {β : Nat → Bool} {n q : Nat} {f : Nat → Int64} {fa : Int32} {rd : Nat} {gd : Bool} {H : Heap} {ls : Array Slot} (C : xCx p l s m c scr L xs D x w b r o cJ cZ) (j : Nat) (hj : 7 * j + 7 ≤ L) (hok : xok (β, n, q)) (hP : PX D x w cJ β n q H) (hPM : PM D b r cZ β n q fa rd gd H) (hO : xOut D o cJ f H) (hS : va_S (xnew s) s.heap H []) (hl : lv_has ls 8 [(4, .int (nI (7 * j))), (3, .ref o), (2, .ref b), (1, .ref x), (0, .ref scr)])
    (next : xNext p l e s m below meth c scr D x w b r o cJ cZ j) :
    W p l e room_1 s m #[Value.ref scr] below meth c H [] (5 + j) (66570 + 6 * j) (lw_Z below #[Value.ref scr] s) (F0 m 990 ls []) := by
  have C0 := C
  obtain ⟨E, hL, hK, hN, hQ0, hX, hsc, hLb, hap⟩ := C
  have hbA : ¬ xnew s scr := fun z => Nat.not_le.mpr hsc z
  refine lv_aload_n E.1 E.2.1 d_L_law_990 rfl (lv_at hl 3 rfl) ?_
  refine lv_aload_n E.1 E.2.1 d_L_law_991 rfl (lv_at hl 4 rfl) ?_
  refine lv_iload E.1 E.2.1 d_L_law_992 (lv_at hl 0 rfl) ?_
  refine lv_iconst (v := 1) E.1 E.2.1 d_L_law_994 (by decide) ?_
  refine lv_iadd E.1 E.2.1 d_L_law_995 ?_
  refine xl_ti (y := nI (7 * j + 1)) (nI_add (7 * j) 1) ?_
  refine va_sld E.1 E.2.1 hX hsc hbA hS (vp_in_nI (n := 7 * j + 1) (by omega) (by omega)) d_L_law_996 ?_
  refine xl_ti (y := xs (7 * j + 1)) (by rw [nI_clamp (by omega)]) ?_
  refine lv_aload_n E.1 E.2.1 d_L_law_997 rfl (lv_at hl 1 rfl) ?_
  refine xk_wrap C0 (l_cut l hL D x w o cJ cZ β n q f hok.1 hok.2 hap.2.1.1 hap.2.2.1.1 hap.2.2.1.2.1 (xs (7 * j + 1))) ww_cut (by decide) hP hPM hO hS rfl hl.1 rfl (Nat.le_of_ble_eq_true rfl) (by omega) (by omega) d_L_law_998 (fun H1 f1 hf1 hP1 hPM1 hO1 hS1 => ?_)
  clear hP hPM hO hS
  have hS := hS1
  refine W.eq (g2 := F0 m 1001 ls [.int (nI (sp_cut (β, n, q) (xs (7 * j + 1))).1)]) rfl ?_
  refine lv_istore E.1 E.2.1 d_L_law_1001 hl (by decide) rfl (fun ls hl => ?_)
  have hl : lv_has ls 8 [(5, .int (nI (sp_cut (β, n, q) (xs (7 * j + 1))).1)), (4, .int (nI (7 * j))), (3, .ref o), (2, .ref b), (1, .ref x), (0, .ref scr)] := hl
  refine lv_aload_n E.1 E.2.1 d_L_law_1003 rfl (lv_at hl 3 rfl) ?_
  refine lv_aload_n E.1 E.2.1 d_L_law_1004 rfl (lv_at hl 5 rfl) ?_
  refine lv_iload E.1 E.2.1 d_L_law_1005 (lv_at hl 1 rfl) ?_
  refine lv_iconst (v := 1) E.1 E.2.1 d_L_law_1007 (by decide) ?_
  refine lv_iadd E.1 E.2.1 d_L_law_1008 ?_
  refine xl_ti (y := nI (7 * j + 1)) (nI_add (7 * j) 1) ?_
  refine va_sld E.1 E.2.1 hX hsc hbA hS (vp_in_nI (n := 7 * j + 1) (by omega) (by omega)) d_L_law_1009 ?_
  refine xl_ti (y := xs (7 * j + 1)) (by rw [nI_clamp (by omega)]) ?_
  refine xk_model C0 (m_cut l D b r cJ cZ β n q fa rd gd hok.1 hok.2 hap.2.1.2 (xs (7 * j + 1))) vw_L_M_cut rfl (by decide) hP1 hPM1 hO1 hS1 rfl hl.1 rfl (Nat.le_of_ble_eq_true rfl) (by omega) (by omega) d_L_law_1010 (fun v st t hrt hP2 hO2 hS2 => ?_)
  obtain ⟨i, rd2, gd2, rfl, hi, hPM2⟩ := hrt
  generalize t.heap = H2 at hPM2 hP2 hO2 hS2 ⊢
  refine W.eq (g2 := F0 m 1013 ls [.int i]) rfl ?_
  have hs2 := s2_cut (β, n, q) (xs (7 * j + 1))
  have hok2 : xok (sp_cut (β, n, q) (xs (7 * j + 1))).2.2 := so_cut hok
  generalize sp_cut (β, n, q) (xs (7 * j + 1)) = z at hf1 hi hPM2 hP2 hl hs2 hok2 ⊢
  refine lv_istore E.1 E.2.1 d_L_law_1013 hl (by decide) rfl (fun ls hl => ?_)
  have hl : lv_has ls 8 [(6, .int i), (5, .int (nI z.1)), (4, .int (nI (7 * j))), (3, .ref o), (2, .ref b), (1, .ref x), (0, .ref scr)] := hl
  refine lv_aload_n E.1 E.2.1 d_L_law_1015 rfl (lv_at hl 4 rfl) ?_
  refine xk_thrown C0 hPM2 hl.1 (Nat.le_of_ble_eq_true rfl) (by omega) (by omega) d_L_law_1016 ?_
  refine lv_iload E.1 E.2.1 d_L_law_1019 (lv_at hl 1 rfl) ?_
  have hfin : W p l e room_1 s m #[Value.ref scr] below meth c H2 [] (5 + j + 1) (66570 + 6 * j + 6) (lw_Z below #[Value.ref scr] s) (F0 m 1102 ls []) := next z.2.2 H2 ls f1 _ rd2 gd2 hok2 hP2 hPM2 hO2 hS2 (lv_sub hl [2, 3, 4, 5, 6] rfl)
  refine lv_icmp_eq (tgt := 1026) E.1 E.2.1 d_L_law_1021 (by decide) (fun h1 => ?_) (fun h1 => ?_)
  · skip
    refine lv_iload E.1 E.2.1 d_L_law_1026 (lv_at hl 1 rfl) ?_
    refine lv_if_ne (tgt := 1043) E.1 E.2.1 d_L_law_1028 (by decide) (fun h2 => ?_) (fun h2 => ?_)
    · skip
      refine lv_goto (tgt := 1102) E.1 E.2.1 d_L_law_1043 (by decide) ?_
      exact hfin
    · skip
      have h2 : z.1 = 0 := (nI_eq (b := 0) (by omega) (by decide)).mp h2
      refine lv_aload_n E.1 E.2.1 d_L_law_1031 rfl (lv_at hl 3 rfl) ?_
      refine lv_iconst (v := 0) E.1 E.2.1 d_L_law_1032 (by decide) ?_
      refine va_lald E.1 E.2.1 hK hO2 0 0 rfl rfl (vp_in_nI (n := 0) (N := 1) (by decide) (by decide)) d_L_law_1033 ?_
      refine xl_tl (y := z.2.1) (hf1 h2) ?_
      refine lv_iload E.1 E.2.1 d_L_law_1034 (lv_at hl 0 rfl) ?_
      refine lv_i2l (v := i.toInt64) E.1 E.2.1 d_L_law_1036 rfl ?_
      refine xl_tl (y := z.2.1) (hi h2) ?_
      refine xl_lc_eq (tgt := 1043) E.1 E.2.1 d_L_law_1037 d_L_law_1038 (by decide) (fun h3 => ?_) (fun h3 => ?_)
      · skip
        refine lv_goto (tgt := 1102) E.1 E.2.1 d_L_law_1043 (by decide) ?_
        exact hfin
      · skip
        exact absurd rfl h3
  · skip
    exact absurd rfl h1
theorem ww_count : xwW 115 y_L_count b_L_count 4 [(0, 9, 12, 13)] 3 := ⟨⟨by decide, by decide, by decide +kernel⟩, cw_L_count, in_L_ini, lk_L_count, st_L_count⟩
set_option maxHeartbeats 4000000 in
set_option maxRecDepth 100000 in
theorem k_count {p : Program} {l : Launch} {e : Env} {s : State} {m : MethodId} {below : List Frame} {meth : Method} {c : Code} {scr L : Nat} {xs : Nat → Int32} {D : va_G} {x w b r o : Nat} {cJ cZ : ClassId} {β : Nat → Bool} {n q : Nat} {f : Nat → Int64} {fa : Int32} {rd : Nat} {gd : Bool} {H : Heap} {ls : Array Slot} (C : xCx p l s m c scr L xs D x w b r o cJ cZ) (j : Nat) (hj : 7 * j + 7 ≤ L) (hok : xok (β, n, q)) (hP : PX D x w cJ β n q H) (hPM : PM D b r cZ β n q fa rd gd H) (hO : xOut D o cJ f H) (hS : va_S (xnew s) s.heap H []) (hl : lv_has ls 8 [(4, .int (nI (7 * j))), (3, .ref o), (2, .ref b), (1, .ref x), (0, .ref scr)])
    (next : xNext p l e s m below meth c scr D x w b r o cJ cZ j) :
    W p l e room_1 s m #[Value.ref scr] below meth c H [] (5 + j) (66570 + 6 * j) (lw_Z below #[Value.ref scr] s) (F0 m 1046 ls []) := by
  have C0 := C
  obtain ⟨E, hL, hK, hN, hQ0, hX, hsc, hLb, hap⟩ := C
  have hbA : ¬ xnew s scr := fun z => Nat.not_le.mpr hsc z
  refine lv_aload_n E.1 E.2.1 d_L_law_1046 rfl (lv_at hl 3 rfl) ?_
  refine lv_aload_n E.1 E.2.1 d_L_law_1047 rfl (lv_at hl 4 rfl) ?_
  refine lv_iload E.1 E.2.1 d_L_law_1048 (lv_at hl 0 rfl) ?_
  refine lv_iconst (v := 1) E.1 E.2.1 d_L_law_1050 (by decide) ?_
  refine lv_iadd E.1 E.2.1 d_L_law_1051 ?_
  refine xl_ti (y := nI (7 * j + 1)) (nI_add (7 * j) 1) ?_
  refine va_sld E.1 E.2.1 hX hsc hbA hS (vp_in_nI (n := 7 * j + 1) (by omega) (by omega)) d_L_law_1052 ?_
  refine xl_ti (y := xs (7 * j + 1)) (by rw [nI_clamp (by omega)]) ?_
  refine lv_aload_n E.1 E.2.1 d_L_law_1053 rfl (lv_at hl 1 rfl) ?_
  refine xk_wrap C0 (l_count l hL D x w o cJ cZ β n q f hok.1 hok.2 hap.2.1.1 hap.2.2.1.1 hap.2.2.1.2.1 (xs (7 * j + 1))) ww_count (by decide) hP hPM hO hS rfl hl.1 rfl (Nat.le_of_ble_eq_true rfl) (by omega) (by omega) d_L_law_1054 (fun H1 f1 hf1 hP1 hPM1 hO1 hS1 => ?_)
  clear hP hPM hO hS
  have hS := hS1
  refine W.eq (g2 := F0 m 1057 ls [.int (nI (sp_count (β, n, q) (xs (7 * j + 1))).1)]) rfl ?_
  refine lv_istore E.1 E.2.1 d_L_law_1057 hl (by decide) rfl (fun ls hl => ?_)
  have hl : lv_has ls 8 [(5, .int (nI (sp_count (β, n, q) (xs (7 * j + 1))).1)), (4, .int (nI (7 * j))), (3, .ref o), (2, .ref b), (1, .ref x), (0, .ref scr)] := hl
  refine lv_aload_n E.1 E.2.1 d_L_law_1059 rfl (lv_at hl 3 rfl) ?_
  refine lv_aload_n E.1 E.2.1 d_L_law_1060 rfl (lv_at hl 5 rfl) ?_
  refine lv_iload E.1 E.2.1 d_L_law_1061 (lv_at hl 1 rfl) ?_
  refine lv_iconst (v := 1) E.1 E.2.1 d_L_law_1063 (by decide) ?_
  refine lv_iadd E.1 E.2.1 d_L_law_1064 ?_
  refine xl_ti (y := nI (7 * j + 1)) (nI_add (7 * j) 1) ?_
  refine va_sld E.1 E.2.1 hX hsc hbA hS (vp_in_nI (n := 7 * j + 1) (by omega) (by omega)) d_L_law_1065 ?_
  refine xl_ti (y := xs (7 * j + 1)) (by rw [nI_clamp (by omega)]) ?_
  refine xk_model C0 (m_count l D b r cJ cZ β n q fa rd gd hok.1 hok.2 hap.2.1.2 (xs (7 * j + 1))) vw_L_M_count rfl (by decide) hP1 hPM1 hO1 hS1 rfl hl.1 rfl (Nat.le_of_ble_eq_true rfl) (by omega) (by omega) d_L_law_1066 (fun v st t hrt hP2 hO2 hS2 => ?_)
  obtain ⟨i, rd2, gd2, rfl, hi, hPM2⟩ := hrt
  generalize t.heap = H2 at hPM2 hP2 hO2 hS2 ⊢
  refine W.eq (g2 := F0 m 1069 ls [.int i]) rfl ?_
  have hs2 := s2_count (β, n, q) (xs (7 * j + 1))
  have hok2 : xok (sp_count (β, n, q) (xs (7 * j + 1))).2.2 := so_count hok
  generalize sp_count (β, n, q) (xs (7 * j + 1)) = z at hf1 hi hPM2 hP2 hl hs2 hok2 ⊢
  refine lv_istore E.1 E.2.1 d_L_law_1069 hl (by decide) rfl (fun ls hl => ?_)
  have hl : lv_has ls 8 [(6, .int i), (5, .int (nI z.1)), (4, .int (nI (7 * j))), (3, .ref o), (2, .ref b), (1, .ref x), (0, .ref scr)] := hl
  refine lv_aload_n E.1 E.2.1 d_L_law_1071 rfl (lv_at hl 4 rfl) ?_
  refine xk_thrown C0 hPM2 hl.1 (Nat.le_of_ble_eq_true rfl) (by omega) (by omega) d_L_law_1072 ?_
  refine lv_iload E.1 E.2.1 d_L_law_1075 (lv_at hl 1 rfl) ?_
  have hfin : W p l e room_1 s m #[Value.ref scr] below meth c H2 [] (5 + j + 1) (66570 + 6 * j + 6) (lw_Z below #[Value.ref scr] s) (F0 m 1102 ls []) := next z.2.2 H2 ls f1 _ rd2 gd2 hok2 hP2 hPM2 hO2 hS2 (lv_sub hl [2, 3, 4, 5, 6] rfl)
  refine lv_icmp_eq (tgt := 1082) E.1 E.2.1 d_L_law_1077 (by decide) (fun h1 => ?_) (fun h1 => ?_)
  · skip
    refine lv_iload E.1 E.2.1 d_L_law_1082 (lv_at hl 1 rfl) ?_
    refine lv_if_ne (tgt := 1099) E.1 E.2.1 d_L_law_1084 (by decide) (fun h2 => ?_) (fun h2 => ?_)
    · skip
      refine lv_goto (tgt := 1102) E.1 E.2.1 d_L_law_1099 (by decide) ?_
      exact hfin
    · skip
      have h2 : z.1 = 0 := (nI_eq (b := 0) (by omega) (by decide)).mp h2
      refine lv_aload_n E.1 E.2.1 d_L_law_1087 rfl (lv_at hl 3 rfl) ?_
      refine lv_iconst (v := 0) E.1 E.2.1 d_L_law_1088 (by decide) ?_
      refine va_lald E.1 E.2.1 hK hO2 0 0 rfl rfl (vp_in_nI (n := 0) (N := 1) (by decide) (by decide)) d_L_law_1089 ?_
      refine xl_tl (y := z.2.1) (hf1 h2) ?_
      refine lv_iload E.1 E.2.1 d_L_law_1090 (lv_at hl 0 rfl) ?_
      refine lv_i2l (v := i.toInt64) E.1 E.2.1 d_L_law_1092 rfl ?_
      refine xl_tl (y := z.2.1) (hi h2) ?_
      refine xl_lc_eq (tgt := 1099) E.1 E.2.1 d_L_law_1093 d_L_law_1094 (by decide) (fun h3 => ?_) (fun h3 => ?_)
      · skip
        refine lv_goto (tgt := 1102) E.1 E.2.1 d_L_law_1099 (by decide) ?_
        exact hfin
      · skip
        exact absurd rfl h3
  · skip
    exact absurd rfl h1
end XL34f
end
section
/-! The law's loop. -/
section XL35
theorem xand15 (y : Int32) : ∃ v : Nat, v < 16 ∧ y &&& 15 = nI v := by
  obtain ⟨k, hk, rfl⟩ := wb_of32 y
  refine ⟨k % 16, Nat.mod_lt _ (by decide), ?_⟩
  apply Int32.toBitVec_inj.mp
  show BitVec.ofNat 32 k &&& BitVec.ofNat 32 15 = BitVec.ofNat 32 (k % 16)
  apply BitVec.eq_of_toNat_eq
  rw [BitVec.toNat_and, BitVec.toNat_ofNat, BitVec.toNat_ofNat, BitVec.toNat_ofNat, Nat.mod_eq_of_lt hk]
  have h15 : 15 % 2 ^ 32 = 2 ^ 4 - 1 := by decide
  rw [h15, Nat.and_two_pow_sub_one_eq_mod]
  omega
theorem xstop {L i : Nat} (hL : L < 2 ^ 30) (hi : i < 2 ^ 30) : nI L - 7 < nI i ↔ L < i + 7 := by
  rw [Int32.lt_iff_toInt_lt, show nI L - 7 = nI L - nI 7 from rfl, pk_sub_toInt hL (by decide), nI_toInt (by omega)]
  omega
set_option maxHeartbeats 4000000 in
set_option maxRecDepth 100000 in
theorem k_head {p : Program} {l : Launch} {e : Env} {s : State} {m : MethodId} {below : List Frame} {meth : Method} {c : Code} {scr L : Nat} {xs : Nat → Int32} {D : va_G} {x w b r o : Nat} {cJ cZ : ClassId} {σ : xS} {f : Nat → Int64} {fa : Int32} {rd : Nat} {gd : Bool} {H : Heap} {ls : Array Slot} (C : xCx p l s m c scr L xs D x w b r o cJ cZ) (hr : meth.sig.returnType = ret) (hk : meth.locks = false) (j : Nat) (hjL : 7 * j ≤ L) (hok : xok σ) (hP : PX D x w cJ σ.1 σ.2.1 σ.2.2 H) (hPM : PM D b r cZ σ.1 σ.2.1 σ.2.2 fa rd gd H) (hO : xOut D o cJ f H) (hS : va_S (xnew s) s.heap H []) (hl : lv_has ls 8 [(4, .int (nI (7 * j))), (3, .ref o), (2, .ref b), (1, .ref x), (0, .ref scr)])
    (hnext : 7 * j + 7 ≤ L → ∀ (σ : xS) (H1 : Heap) (ls1 : Array Slot) (f1 : Nat → Int64) (fa1 : Int32) (rd1 : Nat) (gd1 : Bool), xok σ → PX D x w cJ σ.1 σ.2.1 σ.2.2 H1 → PM D b r cZ σ.1 σ.2.1 σ.2.2 fa1 rd1 gd1 H1 → xOut D o cJ f1 H1 → va_S (xnew s) s.heap H1 [] → lv_has ls1 8 [(4, .int (nI (7 * (j + 1)))), (3, .ref o), (2, .ref b), (1, .ref x), (0, .ref scr)] →
      W p l e room_1 s m #[Value.ref scr] below meth c H1 [] (5 + (j + 1)) (66570 + 6 * (j + 1)) (lw_Z below #[Value.ref scr] s) (F0 m 23 ls1 [])) :
    W p l e room_1 s m #[Value.ref scr] below meth c H [] (5 + j) (66570 + 6 * j) (lw_Z below #[Value.ref scr] s) (F0 m 23 ls []) := by
  have C0 := C
  obtain ⟨E, hL, hK, hN, hQ0, hX, hsc, hLb, hap⟩ := C
  have hbA : ¬ xnew s scr := fun z => Nat.not_le.mpr hsc z
  refine lv_iload E.1 E.2.1 d_L_law_23 (lv_at hl 0 rfl) ?_
  refine lv_aload_n E.1 E.2.1 d_L_law_25 rfl (lv_at hl 4 rfl) ?_
  refine va_slen E.1 E.2.1 hX hsc hbA hS d_L_law_26 ?_
  refine xl_ti (y := (nI L)) (rfl) ?_
  refine lv_bipush (v := 7) E.1 E.2.1 d_L_law_27 (by decide) ?_
  refine lv_isub E.1 E.2.1 d_L_law_29 ?_
  refine lv_icmp_gt (tgt := 1108) E.1 E.2.1 d_L_law_30 (by decide) (fun h1 => ?_) (fun h1 => ?_)
  · skip
    refine lv_iconst (v := 1) E.1 E.2.1 d_L_law_1108 (by decide) ?_
    refine W.widen (k := 601024) (n := 7293034) (by omega) (by omega) ?_
    exact lw_ret E.1 E.2.1 hr hk d_L_law_1109
  · skip
    have hj : 7 * j + 7 ≤ L := Nat.not_lt.mp (fun z => h1 ((xstop (by omega) (by omega)).mpr z))
    have next : xNext p l e s m below meth c scr D x w b r o cJ cZ j := by
      intro σ1 H1 ls f1 fa1 rd1 gd1 hok1 hP1 hPM1 hO1 hS1 hl
      refine lv_iinc (k := 0) (v := (nI (7 * j)) + 7) E.1 E.2.1 d_L_law_1102 hl rfl rfl (by decide) rfl (fun ls hl => ?_)
      have hl : lv_has ls 8 [(4, .int ((nI (7 * j)) + 7)), (3, .ref o), (2, .ref b), (1, .ref x), (0, .ref scr)] := hl
      refine lv_goto (tgt := 23) E.1 E.2.1 d_L_law_1105 (by decide) ?_
      rw [show nI (7 * j) + 7 = nI (7 * (j + 1)) from nI_add (7 * j) 7] at hl
      exact W.widen (k := 5 + (j + 1)) (n := 66570 + 6 * (j + 1)) (by omega) (by omega) (hnext hj σ1 H1 ls f1 fa1 rd1 gd1 hok1 hP1 hPM1 hO1 hS1 hl)
    refine lv_aload_n E.1 E.2.1 d_L_law_33 rfl (lv_at hl 4 rfl) ?_
    refine lv_iload E.1 E.2.1 d_L_law_34 (lv_at hl 0 rfl) ?_
    refine va_sld E.1 E.2.1 hX hsc hbA hS (vp_in_nI (n := 7 * j) (by omega) (by omega)) d_L_law_36 ?_
    refine xl_ti (y := xs (7 * j)) (by rw [nI_clamp (by omega)]) ?_
    refine lv_bipush (v := 15) E.1 E.2.1 d_L_law_37 (by decide) ?_
    refine lv_iand E.1 E.2.1 d_L_law_39 ?_
    obtain ⟨v, hv, hve⟩ := xand15 (xs (7 * j))
    refine xl_ti hve ?_
    obtain ⟨β, n, q⟩ := σ
    rcases (show v = 0 ∨ v = 1 ∨ v = 2 ∨ v = 3 ∨ v = 4 ∨ v = 5 ∨ v = 6 ∨ v = 7 ∨ v = 8 ∨ v = 9 ∨ v = 10 ∨ v = 11 ∨ v = 12 ∨ 12 < v by omega) with rfl | rfl | rfl | rfl | rfl | rfl | rfl | rfl | rfl | rfl | rfl | rfl | rfl | hv2
    · refine lv_tableIn (off := 68) (tgt := 108) E.1 E.2.1 d_L_law_40 (by decide) (by decide) (by decide) (by decide) ?_
      exact k_put C0 j hj hok hP hPM hO hS hl next
    · refine lv_tableIn (off := 168) (tgt := 208) E.1 E.2.1 d_L_law_40 (by decide) (by decide) (by decide) (by decide) ?_
      exact k_putRange C0 j hj hok hP hPM hO hS hl next
    · refine lv_tableIn (off := 346) (tgt := 386) E.1 E.2.1 d_L_law_40 (by decide) (by decide) (by decide) (by decide) ?_
      exact k_putLength C0 j hj hok hP hPM hO hS hl next
    · refine lv_tableIn (off := 402) (tgt := 442) E.1 E.2.1 d_L_law_40 (by decide) (by decide) (by decide) (by decide) ?_
      exact k_putNumber C0 j hj hok hP hPM hO hS hl next
    · refine lv_tableIn (off := 502) (tgt := 542) E.1 E.2.1 d_L_law_40 (by decide) (by decide) (by decide) (by decide) ?_
      exact k_fill C0 j hj hok hP hPM hO hS hl next
    · refine lv_tableIn (off := 546) (tgt := 586) E.1 E.2.1 d_L_law_40 (by decide) (by decide) (by decide) (by decide) ?_
      exact k_take C0 j hj hok hP hPM hO hS hl next
    · refine lv_tableIn (off := 601) (tgt := 641) E.1 E.2.1 d_L_law_40 (by decide) (by decide) (by decide) (by decide) ?_
      exact k_takeRange C0 j hj hok hP hPM hO hS hl next
    · refine lv_tableIn (off := 732) (tgt := 772) E.1 E.2.1 d_L_law_40 (by decide) (by decide) (by decide) (by decide) ?_
      exact k_takeLength C0 j hj hok hP hPM hO hS hl next
    · refine lv_tableIn (off := 776) (tgt := 816) E.1 E.2.1 d_L_law_40 (by decide) (by decide) (by decide) (by decide) ?_
      exact k_takeNumber C0 j hj hok hP hPM hO hS hl next
    · refine lv_tableIn (off := 831) (tgt := 871) E.1 E.2.1 d_L_law_40 (by decide) (by decide) (by decide) (by decide) ?_
      exact k_go C0 j hj hok hP hPM hO hS hl next
    · refine lv_tableIn (off := 887) (tgt := 927) E.1 E.2.1 d_L_law_40 (by decide) (by decide) (by decide) (by decide) ?_
      exact k_turn C0 j hj hok hP hPM hO hS hl next
    · refine lv_tableIn (off := 950) (tgt := 990) E.1 E.2.1 d_L_law_40 (by decide) (by decide) (by decide) (by decide) ?_
      exact k_cut C0 j hj hok hP hPM hO hS hl next
    · refine lv_tableIn (off := 1006) (tgt := 1046) E.1 E.2.1 d_L_law_40 (by decide) (by decide) (by decide) (by decide) ?_
      exact k_count C0 j hj hok hP hPM hO hS hl next
    · refine lv_tableOut (tgt := 1102) E.1 E.2.1 d_L_law_40 (Or.inr (by rw [nI_toInt (by omega)]; omega)) (by decide) ?_
      exact W.widen (by omega) (by omega) (next (β, n, q) H ls f fa rd gd hok hP hPM hO hS hl)
theorem k_loop {p : Program} {l : Launch} {e : Env} {s : State} {m : MethodId} {below : List Frame} {meth : Method} {c : Code} {scr L : Nat} {xs : Nat → Int32} {D : va_G} {x w b r o : Nat} {cJ cZ : ClassId} (C : xCx p l s m c scr L xs D x w b r o cJ cZ) (hr : meth.sig.returnType = ret) (hk : meth.locks = false) :
    ∀ (d j : Nat) (σ : xS) (f : Nat → Int64) (fa : Int32) (rd : Nat) (gd : Bool) (H : Heap) (ls : Array Slot), 7 * j ≤ L → L < 7 * (j + d) + 7 → xok σ → PX D x w cJ σ.1 σ.2.1 σ.2.2 H → PM D b r cZ σ.1 σ.2.1 σ.2.2 fa rd gd H → xOut D o cJ f H → va_S (xnew s) s.heap H [] → lv_has ls 8 [(4, .int (nI (7 * j))), (3, .ref o), (2, .ref b), (1, .ref x), (0, .ref scr)] →
      W p l e room_1 s m #[Value.ref scr] below meth c H [] (5 + j) (66570 + 6 * j) (lw_Z below #[Value.ref scr] s) (F0 m 23 ls []) := by
  intro d
  induction d with
  | zero =>
    intro j σ f fa rd gd H ls hjL hd hok hP hPM hO hS hl
    exact k_head C hr hk j hjL hok hP hPM hO hS hl (fun h => absurd h (by omega))
  | succ d ih =>
    intro j σ f fa rd gd H ls hjL hd hok hP hPM hO hS hl
    exact k_head C hr hk j hjL hok hP hPM hO hS hl (fun h σ1 H1 ls1 f1 fa1 rd1 gd1 hok1 hP1 hPM1 hO1 hS1 hl1 => ih (j + 1) σ1 f1 fa1 rd1 gd1 H1 ls1 (by omega) (by omega) hok1 hP1 hPM1 hO1 hS1 hl1)
end XL35
end
section
/-! The law's beginning. -/
section XL36
theorem xpaid' {args : Array Value} {s : State} {y : MethodName} {cc' : ByteArray} {maxL : Nat} {ret : Option FieldType} (hts : ∀ w ∈ XT, w.before args s = true) (hc : Cond.code y cc' maxL ret ∈ XT) : ∀ w ∈ (Cond.code y cc' maxL ret :: XT), ∀ (a' : Array Value) (U : State), s.WarmedH U.vm → w.before a' U = true := xpaid xGT hts hc
theorem xarr {args : Array Value} {s : State} {ty : FieldType} (h : (Cond.arrayClass ty).before args s = true) : ∃ cA : ClassId, s.vm.findClass ("[" ++ ty.toString) = some cA ∧ ArrOfT s cA ty := by
  obtain ⟨cA, kA, comp, h1, h2, h3⟩ := Cond.arrayClass_spec h
  exact ⟨cA, h1, fun n z => ⟨fun k h => (by cases h), kA, h2, comp, h3⟩⟩
/-- what a call of a constructor asks -/
theorem xcI {s : State} {args : Array Value} {y : MethodName} {cc : ByteArray} {idx ms : Nat} (hts : ∀ w ∈ XT, w.before args s = true) (hc : Cond.code y cc 1 none ∈ XT) (hi : Cond.initialized y.cls ∈ XT) (hl : Cond.methodLink R_L idx y ∈ XT) (hin : Cond.instanceMethod y ∈ XT) (hy : y.name = "<init>") (hd : y.cls ≠ "java/lang/invoke/MethodHandle" ∧ y.cls ≠ "java/lang/invoke/VarHandle" ∧ (parseMethodDescriptor y.desc).map (fun d => d.parameters.length) = some 0) :
    CallB room_1 s args R_L idx y cc 1 none (Cond.code y cc 1 none :: XT) { frames := 1, cells := 1, slots := ms, locals := 20 } 1 ms 0 ∧ y.name = "<init>" ∧ (Cond.instanceMethod y).before args s = true := by
  refine ⟨⟨rfl, rfl, Nat.le_of_ble_eq_true rfl, Nat.le_of_ble_eq_true rfl, xpaid xGT hts hc, List.mem_cons_self, hts _ hc, hts _ hi, ⟨hd.1, hd.2.1⟩, fun sig h => ?_, hts _ hl⟩, hy, hts _ hin⟩
  have h2 := hd.2.2
  rw [h] at h2
  exact (Option.some.inj h2).symm
set_option maxHeartbeats 4000000 in
set_option maxRecDepth 100000 in
/-- from the entry, for every script of at most 3584 ints, the law comes to its end with true -/
theorem whole_start {p : Program} {e : Env} {s : State} {m : MethodId} {below : List Frame} {meth : Method} {c : Code} (l : Launch) (hfl : l.stackTraces = false) {scr L : Nat} {xs : Nat → Int32} (hL : L ≤ 3584) (C0 : lw_At p s m meth c scr L xs) : W p l e room_1 s m #[Value.ref scr] below meth c s.heap [] 0 0 (lw_Z below #[Value.ref scr] s) (entryFrame m ([Value.ref scr] : List Value).toArray 8) := by
  obtain ⟨hx, hb, hr, hml, hown, htb, hX, hsc, hlk, hgv⟩ := C0
  have E : CallFix p m c code 8 s #[Value.ref scr] XT R_L := ⟨hx, hb, hml, hown, fun w hw => htb w (List.mem_filter.mp hw).1⟩
  have hgs := flat_of_before _ hgv
  have hN : xNc s := ⟨va_Nc.of (hgs (.not (.castable E_IO E_IA)) (by decide +kernel)), va_Nc.of (hgs (.not (.castable E_UO E_IA)) (by decide +kernel))⟩
  have hQ0 : vx_Zq Bundle.tN "UNASSIGNED_STACK" Bundle.steD (xnew s) s s.heap ∧ vx_Zq Bundle.tN "SUPPRESSED_SENTINEL" Bundle.listD (xnew s) s s.heap :=
    ⟨vx_Zqof (htb _ (by decide +kernel)) (htb _ (by decide +kernel)) (hgs (.isRef (.static Bundle.tN "UNASSIGNED_STACK" Bundle.steD)) (by decide +kernel)) (fun a ha z => Nat.not_le.mpr ha z),
     vx_Zqof (htb _ (by decide +kernel)) (htb _ (by decide +kernel)) (hgs (.isRef (.static Bundle.tN "SUPPRESSED_SENTINEL" Bundle.listD)) (by decide +kernel)) (fun a ha z => Nat.not_le.mpr ha z)⟩
  obtain ⟨cX, iX, hKX⟩ := u_known E.2.2.2.2 in_X (E.2.2.2.2 _ is_X)
  obtain ⟨cM, iM, hKM⟩ := u_known E.2.2.2.2 in_M (E.2.2.2.2 _ is_M)
  obtain ⟨cJ, hJ, hJa⟩ := xarr (E.2.2.2.2 _ ar_long)
  obtain ⟨cZ, hZ, hZa⟩ := xarr (E.2.2.2.2 _ ar_boolean)
  obtain ⟨D, hD1, hD2⟩ : ∃ D : va_G, (D.1 0 = cX ∧ D.2 0 = iX) ∧ D.1 1 = cM ∧ D.2 1 = iM := ⟨(fun k => if k = 0 then cX else cM, fun k => if k = 0 then iX else iM), ⟨rfl, rfl⟩, rfl, rfl⟩
  have hK : va_K D xcl (xty cJ cZ) s := by
    refine ⟨fun k q hq => ?_, fun k q hq => ?_⟩
    · match k with
      | 0 =>
        cases Option.some.inj hq
        rw [hD1.1, hD1.2]
        exact hKX
      | 1 =>
        cases Option.some.inj hq
        rw [hD2.1, hD2.2]
        exact hKM
      | k + 2 => cases hq
    · match k with
      | 0 => cases Option.some.inj hq; exact ⟨hJa, hJ⟩
      | 1 => cases Option.some.inj hq; exact ⟨hZa, hZ⟩
      | k + 2 => cases hq
  have hS : va_S (xnew s) s.heap s.heap [] := va_S.rf
  have hP0 : ∀ H : Heap, va_P D xcl [] H := fun H k q h => by cases h
  have hD0 : ∀ A : Nat → Prop, va_D A [] := fun A => ⟨fun i j p q hi => (by cases hi), fun k q hk => (by cases hk)⟩
  refine xl_entry _ (Nat.le_of_ble_eq_true rfl) (fun ls hl => ?_)
  have hl : lv_has ls 8 [(0, .ref scr)] := hl
  refine va_new (ci := 0) (fs := [.null, .int 0, .int 0]) (C := R_X) (T := F_X) (N := 3) (A := xnew s) (H0 := s.heap) (ws := []) E.1 E.2.1 E.2.2.2.2 in_X t_X t_X_ok E.2.2.2.1 (E.2.2.2.2 _ cl_L_X) (E.2.2.2.2 _ is_X) (E.2.2.2.2 _ in_X_ini) hK (hP0 _) (hD0 _) hS (fun q h => h) rfl (fun j hj => by rcases (show j = 0 ∨ j = 1 ∨ j = 2 by omega) with rfl | rfl | rfl <;> rfl) (by decide) (by decide) d_L_law_0 (fun x H1 hP1 hA1 hS1 => ?_)
  have hP1 : va_P D xcl [(x, .inr (0, [.null, .int 0, .int 0]))] H1 := hP1
  have hxs : s.heap.size ≤ x := hA1.2 0 (x, .inr (0, [.null, .int 0, .int 0])) rfl
  have hxl : x < H1.size := (hP1 0 _ rfl).lt
  refine lv_dup E.1 E.2.1 d_L_law_3 rfl ?_
  refine va_callv (va_runI (As := []) (rest := [.ref x]) E (c_init l D x H1.size cJ cZ) (xcI E.2.2.2.2 cw_X_init in_X_ini lk_L_X_init im_X_init rfl (by decide +kernel)) ⟨fun a U g mk h => ⟨h.1, h.2.1, h.2.2.1, h.2.2.2.1, va_K.moved (u := U) (U := U.calling g mk a) (Vm.Alike.refl U.vm) h.2.2.2.2⟩, fun U hU hW => ⟨rfl, by rw [hU], by exact hxl, by rw [hU]; exact hP1, va_K.moved hW.alike hK⟩⟩ rfl rfl hl.1 rfl (lv_room (Nat.le_of_ble_eq_true rfl)) d_L_law_4 ⟨by decide, by decide⟩) hS1 (fun q _ h => h.elim (fun z => by rw [z]; exact hxs) (fun z => Nat.le_trans hS1.1 z)) (fun q h => h.elim (fun z => by rw [z]; exact hxs) (fun z => Nat.le_trans hS1.1 z)) (fun w t H2 locs2 ht hvm hw hB hz2 hk2 hS2 => ?_)
  have hPX2 : PX D x w cJ (fun _ => false) 0 0 H2 := by rw [← ht]; exact hB
  clear hB
  have hws : s.heap.size ≤ w := Nat.le_trans hS1.1 hw
  have hxw : x ≠ w := by omega
  refine va_forget hS2.2.2 ?_
  have hS2 : va_S (xnew s) s.heap H2 [] := ⟨hS2.1, hS2.2.1, fun _ h => by cases h⟩
  have hlt2 := hPX2.lt
  refine W.eq (g2 := F0 m 7 ls [.ref x]) rfl ?_
  refine lv_astore_n E.1 E.2.1 d_L_law_7 rfl hl (by decide) rfl (fun ls hl => ?_)
  have hl : lv_has ls 8 [(1, .ref x), (0, .ref scr)] := hl
  refine va_new (ci := 1) (fs := [.int 0, .null, .int 0, .int 0, .int 0, .int 0]) (C := R_M) (T := F_M) (N := 6) (A := fun q => H2.size ≤ q) (H0 := H2) (ws := []) E.1 E.2.1 E.2.2.2.2 in_M t_M t_M_ok E.2.2.2.1 (E.2.2.2.2 _ cl_L_M) (E.2.2.2.2 _ is_M) (E.2.2.2.2 _ in_M_ini) hK (hP0 _) (hD0 _) va_S.rf (fun q h => h) rfl (fun j hj => by rcases (show j = 0 ∨ j = 1 ∨ j = 2 ∨ j = 3 ∨ j = 4 ∨ j = 5 by omega) with rfl | rfl | rfl | rfl | rfl | rfl <;> rfl) (by decide) (by decide) d_L_law_8 (fun b H3 hP3 hA3 hS3 => ?_)
  have hP3 : va_P D xcl [(b, .inr (1, [.int 0, .null, .int 0, .int 0, .int 0, .int 0]))] H3 := hP3
  have hbs : H2.size ≤ b := hA3.2 0 (b, .inr (1, [.int 0, .null, .int 0, .int 0, .int 0, .int 0])) rfl
  have hbl : b < H3.size := (hP3 0 _ rfl).lt
  refine lv_dup E.1 E.2.1 d_L_law_11 rfl ?_
  refine va_callv (va_runI (As := []) (rest := [.ref b]) E (m_init l D b H3.size cJ cZ) (xcI E.2.2.2.2 cw_M_init in_M_ini lk_L_M_init im_M_init rfl (by decide +kernel)) ⟨fun a U g mk h => ⟨h.1, h.2.1, h.2.2.1, h.2.2.2.1, va_K.moved (u := U) (U := U.calling g mk a) (Vm.Alike.refl U.vm) h.2.2.2.2⟩, fun U hU hW => ⟨rfl, by rw [hU], by exact hbl, by rw [hU]; exact hP3, va_K.moved hW.alike hK⟩⟩ rfl rfl hl.1 rfl (lv_room (Nat.le_of_ble_eq_true rfl)) d_L_law_12 ⟨by decide, by decide⟩) hS3 (fun q _ h => h.elim (fun z => by rw [z]; exact hbs) (fun z => Nat.le_trans hS3.1 z)) (fun q h => h.elim (fun z => by rw [z]; exact hbs) (fun z => Nat.le_trans hS3.1 z)) (fun r t4 H4 locs4 ht4 hvm4 hrr hB4 hz4 hk4 hS4 => ?_)
  have hPM4 : PM D b r cZ (fun _ => false) 0 0 0 0 false H4 := by rw [← ht4]; exact hB4
  clear hB4
  have hlt4 := hPM4.lt
  have hPX4 : PX D x w cJ (fun _ => false) 0 0 H4 := hPX2.kept (hS4.2.1 x hlt2.1 (Nat.not_le.mpr hlt2.1)) (hS4.2.1 w hlt2.2 (Nat.not_le.mpr hlt2.2))
  have hsz := hS2.1
  have hS4' : va_S (xnew s) s.heap H4 [] := ⟨Nat.le_trans hS2.1 hS4.1, fun q h1 h2 => (hS4.2.1 q (Nat.lt_of_lt_of_le h1 hS2.1) (fun z => Nat.not_le.mpr (Nat.lt_of_lt_of_le h1 hS2.1) z)).trans (hS2.2.1 q h1 h2), fun _ h => by cases h⟩
  refine va_forget (fun q hq => Nat.le_trans hsz (hS4.2.2 q hq)) ?_
  refine W.eq (g2 := F0 m 15 ls [.ref b]) rfl ?_
  refine lv_astore_n E.1 E.2.1 d_L_law_15 rfl hl (by decide) rfl (fun ls hl => ?_)
  have hl : lv_has ls 8 [(2, .ref b), (1, .ref x), (0, .ref scr)] := hl
  refine lv_iconst (v := 1) E.1 E.2.1 d_L_law_16 (by decide) ?_
  refine va_newaK (atype := .long) (N := 1) (rest := []) E.1 E.2.1 (E.2.2.2.2 _ ar_long) (g := F0 m 17 ls [.int 1]) rfl d_L_law_17 rfl (by decide) (nI_clamp (n := 1) (by decide)) (by decide) (by decide) (by decide) (h := H4.size) rfl (fun H5 cA hc5 hz5 ho5 hA5 hn5 => ?_)
  have hcA : cA = cJ := Option.some.inj (hn5.symm.trans hJ)
  subst hcA
  have hO5 : xOut D H4.size cA (fun _ => 0) H5 := by
    intro k q hq
    match k with
    | 0 =>
      cases Option.some.inj hq
      show H5[H4.size]? = some (vp_cell cA (1, .inr (.inl (fun _ => 0))))
      rw [xnewL 1 cA]
      exact hc5
    | k + 1 => cases hq
  have hPX5 := hPX4.kept (ho5 x hPX4.lt.1) (ho5 w hPX4.lt.2)
  have hPM5 := hPM4.kept (ho5 b hlt4.1) (ho5 r hlt4.2)
  have hS5 : va_S (xnew s) s.heap H5 [] := ⟨by have := hS4'.1; omega, fun q h1 h2 => (ho5 q (Nat.lt_of_lt_of_le h1 hS4'.1)).trans (hS4'.2.1 q h1 h2), fun _ h => by cases h⟩
  refine W.eq (g2 := F0 m 19 ls [.ref H4.size]) rfl ?_
  refine lv_astore_n E.1 E.2.1 d_L_law_19 rfl hl (by decide) rfl (fun ls hl => ?_)
  have hl : lv_has ls 8 [(3, .ref H4.size), (2, .ref b), (1, .ref x), (0, .ref scr)] := hl
  refine lv_iconst (v := 0) E.1 E.2.1 d_L_law_20 (by decide) ?_
  refine lv_istore E.1 E.2.1 d_L_law_21 hl (by decide) rfl (fun ls hl => ?_)
  have hl : lv_has ls 8 [(4, .int 0), (3, .ref H4.size), (2, .ref b), (1, .ref x), (0, .ref scr)] := hl
  have hlx := hPX4.lt
  have C : xCx p l s m c scr L xs D x w b r H4.size cA cZ := ⟨E, hfl, hK, hN, hQ0, hX, hsc, hL, ⟨hxs, hws, by omega, by omega, by omega⟩, ⟨hxw, by omega⟩, ⟨by omega, by omega, by omega, by omega⟩, by omega, by omega, by omega, by omega⟩
  refine W.widen (k := 5 + 0) (n := 66570 + 6 * 0) (by decide) (by decide) ?_
  exact k_loop C hr hlk L 0 (fun _ => false, 0, 0) (fun _ => 0) 0 0 false H5 ls (Nat.zero_le _) (by omega) ⟨Nat.zero_le _, Nat.le_refl _⟩ hPX5 hPM5 hO5 hS5 hl
end XL36
end
section
/-! The claim out of the walk (rows lw_ of the skeleton; the launch's flags handed down). -/
set_option maxHeartbeats 4000000 in
theorem lw_walk (l : Launch) (hfl : l.stackTraces = false) (b : Addr) (xs : List Int32) : MetFree l x (headSpec (Jvm.Cond.code x code maxLocals ret :: tables_1) room_1) (lw_P b xs) (fun _ _ _ _ _ => True) lw_Q := by
  refine MetFree.of_bodyS (code := code) (maxLocals := maxLocals) (ret := ret) (by decide) ?_ ?_
  · intro args s m h hn
    obtain ⟨meth, c, h1, h2, h3, h4, h5, h6, -, -⟩ := Cond.code_spec hn (atoms_spec (ws := Jvm.Cond.code x code maxLocals ret :: tables_1) h _ List.mem_cons_self)
    exact ⟨meth, c, h1, h2, h3, h4, h5, h6⟩
  · intro p e s m args below meth c s₁ B hml0 hP _
    obtain ⟨rfl, hx, hbd, hgv⟩ := hP
    obtain ⟨scr, harrAt, hlist, hof, hsmall⟩ := hx
    obtain ⟨hcb, hkn, -, -⟩ := State.arrayAt?_spec harrAt
    have hown : s.vm.findClass R_law = some m.cls := findClass_of_methodNamed B.named
    have hts0 : ∀ c ∈ (Jvm.Cond.code x code maxLocals ret :: tables_1), c.before #[Value.ref b] s = true := atoms_spec (ws := Jvm.Cond.code x code maxLocals ret :: tables_1) B.pre
    have hts : ∀ w ∈ lw_tbl, w.before #[Value.ref b] s = true := k2_hts_sels lw_privs (fun w hw => hts0 w (List.mem_cons_of_mem _ hw)) lw_privs_ok
    have hml : c.maxLocals = 8 := B.maxLocals_eq (hts0 _ List.mem_cons_self)
    have X₀ : Stand p l e room_1 s m #[Value.ref b] below meth c s₁ [] 0 0 := Stand.of_body B
    have hh0 : s₁.heap = s.heap := by rw [B.state]; rfl
    have hsz : scr.slots.size = xs.length := by rw [← Array.length_toList, hlist, List.length_map]
    have hval : ∀ j : Nat, j < xs.length → scr.slots[j]? = some (.int (xs.getD j 0)) := fun j hj => by
      rw [← Array.getElem?_toList, hlist]
      simp [hj]
    have hbl : b < s.heap.size := (Array.getElem?_eq_some_iff.mp hcb).1
    have hX : va_X b xs.length (fun j => xs.getD j 0) s s.heap := ⟨scr, hcb, hof, hkn, hsz, hval⟩
    have K : W p l e room_1 s m #[Value.ref b] below meth c s₁.heap [] 0 0 (lw_Z below #[Value.ref b] s) (entryFrame m ([Value.ref b] : List Value).toArray 8) := by
      rw [hh0]
      exact whole_start l hfl hbd ⟨B.exec, B.bytes, B.returns, hml, hown, hts, hX, hbl, B.notSynchronized, hgv⟩
    obtain ⟨t, a1, o, b1, b2, b3⟩ := K s₁ rfl X₀
    exact ⟨t, o, a1, b1, b2, b3⟩
theorem lw_pre_spec {args : Array Value} {s : State} (h : (Jvm.Cond.and given_1 narrow_1).before args s = true) (hr : rest_1_c.before args s = true) : ∃ (b : Addr) (xs : List Int32), lw_P b xs args s := by
  have hs := flat_of_before _ h
  have hq := flat_of_before _ hr
  have hc : (Cond.count 1).before args s = true := hs _ (by decide +kernel)
  have harr : (Cond.arrayOf (.arg 0) .int).before args s = true := hs _ (by decide +kernel)
  have hle : (Cond.le (.length (.arg 0)) (.int 3584)).before args s = true := hs _ (by decide +kernel)
  have hlen : (Cond.isInt (.length (.arg 0))).before args s = true := hq _ (by decide +kernel)
  have hall : (Cond.all (.arg 0) (.isInt (.elem (.arg 0) (.index 0)))).before args s = true := hq _ (by decide +kernel)
  obtain ⟨b, xs, hb, hx⟩ := State.ints_of_pre rfl harr hlen hall
  have hsm : xs.length < 2 ^ 31 := hx.choose_spec.2.2.2
  have hev : (Term.length (.arg 0)).eval args s none [] s = some (.int xs.length.toInt32) := hx.length_eval hb
  have hv := Cond.le_ints hev (show (Term.int 3584).eval args s none [] s = some (.int 3584) from rfl)
  have hd : xs.length.toInt32 ≤ 3584 := by
    simpa [Cond.before, Cond.holds, hv] using hle
  have hN : xs.length ≤ 3584 := (Int32.ofNat_le_ofNat hsm (by decide)).mp (show Int32.ofNat xs.length ≤ Int32.ofNat 3584 from hd)
  exact ⟨b, xs, Cond.one_arg hc (show args[0]? = some (.ref b) from hb), hx, hN, h⟩
theorem lw_comes (l : Launch) (hfl : l.stackTraces = false) : Comes l x (Jvm.Cond.code x code maxLocals ret :: tables_1) room_1 (fun tb e args s => Calls_1 tb e args s ∧ rest_1 tb e args s ∧ Pre_1 tb e args s)
    (fun _ _ args s o t => lw_Q args s o t) := by
  intro p e ha hc hk s m args below hf hfit hheap happ hpre
  obtain ⟨b, xs, hP⟩ := lw_pre_spec hpre.2.2 hpre.2.1
  obtain ⟨k, o, h1, h2, h3, hQ⟩ := lw_walk l hfl b xs p e ha hc hk s m args below hf ((Spec.applies_iff_loose hf).mp happ).1 hP trivial
  exact ⟨k, o, h1, h2, h3, hQ⟩
theorem lw_frame {s t : State} {o : Outcome} {args : Array Value} (h : Framed s o t [] 601024 7293034) :
    Framed s o t (fieldLocs frame_1_writes args s ++ arrayLocs frame_1_arrays args s ++ staticLocs frame_1_statics s) 601024 7293034 := h
theorem lw_limb (L : Cond) (hL : ∀ (args : Array Value) (s t : State), L.after args s (.returned (some (.int 1))) t = true) :
    ArmFor flags0 classFile x code maxLocals ret World_1 tables_1 room_1 Calls_1 rest_1 Pre_1
      (fun tb e a s o t => postC L tb e a s o t ∧ Framed s o t (fieldLocs frame_1_writes a s ++ arrayLocs frame_1_arrays a s ++ staticLocs frame_1_statics s) 601024 7293034) := by
  intro l hflags _ _ p e ha hc hk s m args below hf hfit hheap happ hpre
  have hfl : l.stackTraces = false := by
    unfold Launch.stackTraces
    rw [hflags]
    decide
  obtain ⟨k, o, h1, h2, h3, rfl, hF⟩ := lw_comes l hfl p e ha hc hk s m args below hf hfit hheap happ hpre
  exact ⟨k, _, h1, h2, h3, hL args s _, lw_frame hF⟩
theorem i_vc : Claimed_1_1 ∧ Claimed_1_2 := ⟨lw_limb limb_1_1 (fun args s t => by simp [limb_1_1, Cond.after, Cond.holds, Cond.value]), lw_limb limb_1_2 (fun args s t => Cond.after_iff.mpr (by
  first | (rw [show limb_1_2 = Cond.eq .result (.int 1) from rfl, Cond.eq_ints (x := 1) (y := 1) rfl rfl]; simp; done) | (simp [limb_1_2, Cond.value, Term.eval]; done)))⟩
end
