/-! The words of each throw. -/
def xst : List Cond := [.isRef (.static Bundle.tN "UNASSIGNED_STACK" Bundle.steD), .isRef (.static Bundle.tN "SUPPRESSED_SENTINEL" Bundle.listD), .laysStatic Bundle.tN "UNASSIGNED_STACK" Bundle.steD, .laysStatic Bundle.tN "SUPPRESSED_SENTINEL" Bundle.listD]
def xwT (E tx : String) (ia ib ic : Nat) : Prop := Cond.classLink R_X ia E ∈ XT ∧ Cond.initialized E ∈ XT ∧ Cond.stringRef R_X ib tx ∈ XT ∧ (∀ w ∈ Bundle.ownAtoms R_X ic E ["java/lang/RuntimeException", "java/lang/Exception"], w ∈ XT ∨ w ∈ xst) ∧ Bundle.fit E = true
set_option maxRecDepth 100000 in
theorem oa_IA : ∀ w ∈ Bundle.ownAtoms R_X 35 E_IA ["java/lang/RuntimeException", "java/lang/Exception"], w ∈ XT ∨ w ∈ xst := by decide +kernel
set_option maxRecDepth 100000 in
theorem oa_IO : ∀ w ∈ Bundle.ownAtoms R_X 123 E_IO ["java/lang/RuntimeException", "java/lang/Exception"], w ∈ XT ∨ w ∈ xst := by decide +kernel
set_option maxRecDepth 100000 in
theorem oa_UO : ∀ w ∈ Bundle.ownAtoms R_X 84 E_UO ["java/lang/RuntimeException", "java/lang/Exception"], w ∈ XT ∨ w ∈ xst := by decide +kernel
theorem tw_IA_requireWidth : xwT E_IA "the width is not 0 .. 64" 31 112 35 := ⟨cl_X_IA, in_IA_ini, xT_in 84 rfl rfl, oa_IA, by decide +kernel⟩
theorem tw_IO_requireRoom : xwT E_IO "the row would have more than 65536 bits" 119 121 123 := ⟨cl_X_IO, in_IO_ini, xT_in 125 rfl rfl, oa_IO, by decide +kernel⟩
theorem tw_IA_putRange : xwT E_IA "the number is not in the range" 31 33 35 := ⟨cl_X_IA, in_IA_ini, xT_in 148 rfl rfl, oa_IA, by decide +kernel⟩
theorem tw_IA_putLength : xwT E_IA "the length is below 0" 31 42 35 := ⟨cl_X_IA, in_IA_ini, xT_in 166 rfl rfl, oa_IA, by decide +kernel⟩
theorem tw_IA_requireKind : xwT E_IA "there is no such kind" 31 114 35 := ⟨cl_X_IA, in_IA_ini, xT_in 187 rfl rfl, oa_IA, by decide +kernel⟩
theorem tw_UO_bitsAt : xwT E_UO "the bits that are left are too few" 80 129 84 := ⟨cl_X_UO, in_UO_ini, xT_in 233 rfl rfl, oa_UO, by decide +kernel⟩
theorem tw_IA_takeRange : xwT E_IA "the range is empty" 31 72 35 := ⟨cl_X_IA, in_IA_ini, xT_in 251 rfl rfl, oa_IA, by decide +kernel⟩
theorem tw_UO_takeRange : xwT E_UO "the field is beyond the range" 80 82 84 := ⟨cl_X_UO, in_UO_ini, xT_in 259 rfl rfl, oa_UO, by decide +kernel⟩
theorem tw_UO_longLengthAt : xwT E_UO "the length has a shorter form" 80 137 84 := ⟨cl_X_UO, in_UO_ini, xT_in 275 rfl rfl, oa_UO, by decide +kernel⟩
theorem tw_UO_piecesAt : xwT E_UO "the pieces are not 1 .. 4" 80 139 84 := ⟨cl_X_UO, in_UO_ini, xT_in 280 rfl rfl, oa_UO, by decide +kernel⟩
theorem tw_UO_smallAt : xwT E_UO "the small number has a shorter form" 80 141 84 := ⟨cl_X_UO, in_UO_ini, xT_in 298 rfl rfl, oa_UO, by decide +kernel⟩
theorem tw_UO_numberAt_17 : xwT E_UO "the bytes are not 1 .. 8" 80 143 84 := ⟨cl_X_UO, in_UO_ini, xT_in 296 rfl rfl, oa_UO, by decide +kernel⟩
theorem tw_UO_numberAt_78 : xwT E_UO "the number has a shorter form" 80 145 84 := ⟨cl_X_UO, in_UO_ini, xT_in 297 rfl rfl, oa_UO, by decide +kernel⟩
theorem tw_IA_requireCut : xwT E_IA "the row does not reach so far" 31 116 35 := ⟨cl_X_IA, in_IA_ini, xT_in 310 rfl rfl, oa_IA, by decide +kernel⟩
theorem tw_IA_turn : xwT E_IA "there is no such bit" 31 102 35 := ⟨cl_X_IA, in_IA_ini, xT_in 318 rfl rfl, oa_IA, by decide +kernel⟩
theorem tw_IA_count : xwT E_IA "there is no such count" 31 110 35 := ⟨cl_X_IA, in_IA_ini, xT_in 333 rfl rfl, oa_IA, by decide +kernel⟩
