-- ===== PART A: goes FIRST, ahead of the names: the tables' words, and 'selects' of the private methods out of them =====
/-- a private method of a class that the tables say can be made, by its rows of tables_1 -/
def lw_okq (q : MethodName × Nat) : Prop := (q.1.cls ≠ "java/lang/invoke/MethodHandle" ∧ q.1.cls ≠ "java/lang/invoke/VarHandle") ∧ Cond.instantiable q.1.cls q.2 ∈ tables_1 ∧ Cond.privateMethod q.1 ∈ tables_1 ∧ Cond.instanceMethod q.1 ∈ tables_1
theorem lw_p0 : lw_okq (⟨"DeclarativeRows$Uses", "isRow", "(I)Z"⟩, 3) := ⟨⟨by decide +kernel, by decide +kernel⟩, List.mem_of_getElem? (i := 58) (by decide +kernel), List.mem_of_getElem? (i := 175) (by decide +kernel), List.mem_of_getElem? (i := 176) (by decide +kernel)⟩
theorem lw_p1 : lw_okq (⟨"DeclarativeRows$Checks", "isRow", "(I)Z"⟩, 4) := ⟨⟨by decide +kernel, by decide +kernel⟩, List.mem_of_getElem? (i := 38) (by decide +kernel), List.mem_of_getElem? (i := 187) (by decide +kernel), List.mem_of_getElem? (i := 188) (by decide +kernel)⟩
theorem lw_p2 : lw_okq (⟨"DeclarativeRows", "takerOfException", "(I)I"⟩, 9) := ⟨⟨by decide +kernel, by decide +kernel⟩, List.mem_of_getElem? (i := 10) (by decide +kernel), List.mem_of_getElem? (i := 208) (by decide +kernel), List.mem_of_getElem? (i := 209) (by decide +kernel)⟩
theorem lw_p3 : lw_okq (⟨"DeclarativeRows", "come", "(IIIZ)I"⟩, 9) := ⟨⟨by decide +kernel, by decide +kernel⟩, List.mem_of_getElem? (i := 10) (by decide +kernel), List.mem_of_getElem? (i := 221) (by decide +kernel), List.mem_of_getElem? (i := 222) (by decide +kernel)⟩
theorem lw_p4 : lw_okq (⟨"DeclarativeRows$Running", "isRow", "(I)Z"⟩, 3) := ⟨⟨by decide +kernel, by decide +kernel⟩, List.mem_of_getElem? (i := 84) (by decide +kernel), List.mem_of_getElem? (i := 233) (by decide +kernel), List.mem_of_getElem? (i := 234) (by decide +kernel)⟩
theorem lw_p5 : lw_okq (⟨"DeclarativeRows", "takerOfFile", "(I)I"⟩, 9) := ⟨⟨by decide +kernel, by decide +kernel⟩, List.mem_of_getElem? (i := 10) (by decide +kernel), List.mem_of_getElem? (i := 286) (by decide +kernel), List.mem_of_getElem? (i := 287) (by decide +kernel)⟩
theorem lw_p6 : lw_okq (⟨"DeclarativeRowsModel", "isException", "(I)Z"⟩, 24) := ⟨⟨by decide +kernel, by decide +kernel⟩, List.mem_of_getElem? (i := 323) (by decide +kernel), List.mem_of_getElem? (i := 413) (by decide +kernel), List.mem_of_getElem? (i := 414) (by decide +kernel)⟩
theorem lw_p7 : lw_okq (⟨"DeclarativeRowsModel", "isChecked", "(II)Z"⟩, 24) := ⟨⟨by decide +kernel, by decide +kernel⟩, List.mem_of_getElem? (i := 323) (by decide +kernel), List.mem_of_getElem? (i := 429) (by decide +kernel), List.mem_of_getElem? (i := 430) (by decide +kernel)⟩
theorem lw_p8 : lw_okq (⟨"DeclarativeRowsModel", "isAt", "(II)Z"⟩, 24) := ⟨⟨by decide +kernel, by decide +kernel⟩, List.mem_of_getElem? (i := 323) (by decide +kernel), List.mem_of_getElem? (i := 433) (by decide +kernel), List.mem_of_getElem? (i := 434) (by decide +kernel)⟩
theorem lw_p9 : lw_okq (⟨"DeclarativeRowsModel", "takerOf", "(I)I"⟩, 24) := ⟨⟨by decide +kernel, by decide +kernel⟩, List.mem_of_getElem? (i := 323) (by decide +kernel), List.mem_of_getElem? (i := 437) (by decide +kernel), List.mem_of_getElem? (i := 438) (by decide +kernel)⟩
theorem lw_p10 : lw_okq (⟨"DeclarativeRowsModel", "first", "(II)I"⟩, 24) := ⟨⟨by decide +kernel, by decide +kernel⟩, List.mem_of_getElem? (i := 323) (by decide +kernel), List.mem_of_getElem? (i := 441) (by decide +kernel), List.mem_of_getElem? (i := 442) (by decide +kernel)⟩
theorem lw_p11 : lw_okq (⟨"DeclarativeRowsModel", "come", "(IIIZ)I"⟩, 24) := ⟨⟨by decide +kernel, by decide +kernel⟩, List.mem_of_getElem? (i := 323) (by decide +kernel), List.mem_of_getElem? (i := 445) (by decide +kernel), List.mem_of_getElem? (i := 446) (by decide +kernel)⟩
theorem lw_p12 : lw_okq (⟨"DeclarativeRowsModel", "isRunning", "(I)Z"⟩, 24) := ⟨⟨by decide +kernel, by decide +kernel⟩, List.mem_of_getElem? (i := 323) (by decide +kernel), List.mem_of_getElem? (i := 449) (by decide +kernel), List.mem_of_getElem? (i := 450) (by decide +kernel)⟩
def lw_privs_1 : List (MethodName × Nat) := [(⟨"DeclarativeRows$Uses", "isRow", "(I)Z"⟩, 3), (⟨"DeclarativeRows$Checks", "isRow", "(I)Z"⟩, 4), (⟨"DeclarativeRows", "takerOfException", "(I)I"⟩, 9), (⟨"DeclarativeRows", "come", "(IIIZ)I"⟩, 9), (⟨"DeclarativeRows$Running", "isRow", "(I)Z"⟩, 3), (⟨"DeclarativeRows", "takerOfFile", "(I)I"⟩, 9), (⟨"DeclarativeRowsModel", "isException", "(I)Z"⟩, 24), (⟨"DeclarativeRowsModel", "isChecked", "(II)Z"⟩, 24), (⟨"DeclarativeRowsModel", "isAt", "(II)Z"⟩, 24), (⟨"DeclarativeRowsModel", "takerOf", "(I)I"⟩, 24), (⟨"DeclarativeRowsModel", "first", "(II)I"⟩, 24), (⟨"DeclarativeRowsModel", "come", "(IIIZ)I"⟩, 24), (⟨"DeclarativeRowsModel", "isRunning", "(I)Z"⟩, 24)]
theorem lw_r1 : ∀ q ∈ lw_privs_1, lw_okq q := List.forall_mem_cons.mpr ⟨lw_p0, List.forall_mem_cons.mpr ⟨lw_p1, List.forall_mem_cons.mpr ⟨lw_p2, List.forall_mem_cons.mpr ⟨lw_p3, List.forall_mem_cons.mpr ⟨lw_p4, List.forall_mem_cons.mpr ⟨lw_p5, List.forall_mem_cons.mpr ⟨lw_p6, List.forall_mem_cons.mpr ⟨lw_p7, List.forall_mem_cons.mpr ⟨lw_p8, List.forall_mem_cons.mpr ⟨lw_p9, List.forall_mem_cons.mpr ⟨lw_p10, List.forall_mem_cons.mpr ⟨lw_p11, List.forall_mem_cons.mpr ⟨lw_p12, fun _ h => absurd h List.not_mem_nil⟩⟩⟩⟩⟩⟩⟩⟩⟩⟩⟩⟩⟩
def lw_privs : List (MethodName × Nat) := lw_privs_1
def lw_tbl : List Cond := k2_sels lw_privs ++ tables_1
theorem lw_privs_ok : ∀ q ∈ lw_privs, lw_okq q := lw_r1
def RTr : String := "DeclarativeRows$Tree"
def TTr : u_T := fun k => match k with
  | 0 => ("DeclarativeRows$Tree", "names", "[I", true)
  | 1 => ("DeclarativeRows$Tree", "parents", "[I", true)
  | 2 => ("DeclarativeRows$Tree", "latestOfLevel", "[I", true)
  | _ => ("DeclarativeRows$Tree", "size", "I", false)
def tyTr : Nat → FieldType := fun k => match k with
  | 0 => .array .int
  | 1 => .array .int
  | 2 => .array .int
  | _ => .int
abbrev wsTr0 : List Cond := u_ws RTr TTr 4
set_option maxRecDepth 20000 in
theorem nmTr : ∀ a, a < 4 → ∀ b, b < 4 → a ≠ b → (TTr a).2.1 ≠ (TTr b).2.1 := by decide +kernel
set_option maxRecDepth 20000 in
theorem tyTr_ok : ∀ k, k < 4 → parseFieldDescriptor (TTr k).2.2.1 = some (tyTr k) := by decide +kernel
set_option maxRecDepth 20000 in
theorem inTr : ∀ w ∈ wsTr0, w ∈ lw_tbl := by decide +kernel
def RCk : String := "DeclarativeRows$Checks"
def TCk : u_T := fun k => match k with
  | 0 => ("DeclarativeRows$Checks", "exceptions", "[I", true)
  | 1 => ("DeclarativeRows$Checks", "places", "[I", true)
  | 2 => ("DeclarativeRows$Checks", "switches", "[Z", true)
  | _ => ("DeclarativeRows$Checks", "size", "I", false)
def tyCk : Nat → FieldType := fun k => match k with
  | 0 => .array .int
  | 1 => .array .int
  | 2 => .array .boolean
  | _ => .int
abbrev wsCk0 : List Cond := u_ws RCk TCk 4
set_option maxRecDepth 20000 in
theorem nmCk : ∀ a, a < 4 → ∀ b, b < 4 → a ≠ b → (TCk a).2.1 ≠ (TCk b).2.1 := by decide +kernel
set_option maxRecDepth 20000 in
theorem tyCk_ok : ∀ k, k < 4 → parseFieldDescriptor (TCk k).2.2.1 = some (tyCk k) := by decide +kernel
set_option maxRecDepth 20000 in
theorem inCk : ∀ w ∈ wsCk0, w ∈ lw_tbl := by decide +kernel
def RUs : String := "DeclarativeRows$Uses"
def TUs : u_T := fun k => match k with
  | 0 => ("DeclarativeRows$Uses", "kinds", "[I", true)
  | 1 => ("DeclarativeRows$Uses", "subjects", "[I", true)
  | _ => ("DeclarativeRows$Uses", "size", "I", false)
def tyUs : Nat → FieldType := fun k => match k with
  | 0 => .array .int
  | 1 => .array .int
  | _ => .int
abbrev wsUs0 : List Cond := u_ws RUs TUs 3
set_option maxRecDepth 20000 in
theorem nmUs : ∀ a, a < 3 → ∀ b, b < 3 → a ≠ b → (TUs a).2.1 ≠ (TUs b).2.1 := by decide +kernel
set_option maxRecDepth 20000 in
theorem tyUs_ok : ∀ k, k < 3 → parseFieldDescriptor (TUs k).2.2.1 = some (tyUs k) := by decide +kernel
set_option maxRecDepth 20000 in
theorem inUs : ∀ w ∈ wsUs0, w ∈ lw_tbl := by decide +kernel
def ROm : String := "DeclarativeRows$OpenModes"
def TOm : u_T := fun k => match k with
  | _ => ("DeclarativeRows$OpenModes", "modes", "[I", true)
def tyOm : Nat → FieldType := fun k => match k with
  | _ => .array .int
abbrev wsOm0 : List Cond := u_ws ROm TOm 1
set_option maxRecDepth 20000 in
theorem nmOm : ∀ a, a < 1 → ∀ b, b < 1 → a ≠ b → (TOm a).2.1 ≠ (TOm b).2.1 := by decide +kernel
set_option maxRecDepth 20000 in
theorem tyOm_ok : ∀ k, k < 1 → parseFieldDescriptor (TOm k).2.2.1 = some (tyOm k) := by decide +kernel
set_option maxRecDepth 20000 in
theorem inOm : ∀ w ∈ wsOm0, w ∈ lw_tbl := by decide +kernel
def RRn : String := "DeclarativeRows$Running"
def TRn : u_T := fun k => match k with
  | 0 => ("DeclarativeRows$Running", "takers", "[I", true)
  | 1 => ("DeclarativeRows$Running", "places", "[I", true)
  | _ => ("DeclarativeRows$Running", "size", "I", false)
def tyRn : Nat → FieldType := fun k => match k with
  | 0 => .array .int
  | 1 => .array .int
  | _ => .int
abbrev wsRn0 : List Cond := u_ws RRn TRn 3
set_option maxRecDepth 20000 in
theorem nmRn : ∀ a, a < 3 → ∀ b, b < 3 → a ≠ b → (TRn a).2.1 ≠ (TRn b).2.1 := by decide +kernel
set_option maxRecDepth 20000 in
theorem tyRn_ok : ∀ k, k < 3 → parseFieldDescriptor (TRn k).2.2.1 = some (tyRn k) := by decide +kernel
set_option maxRecDepth 20000 in
theorem inRn : ∀ w ∈ wsRn0, w ∈ lw_tbl := by decide +kernel
def RLt : String := "DeclarativeRows$Latest"
def TLt : u_T := fun k => match k with
  | 0 => ("DeclarativeRows$Latest", "number", "I", false)
  | 1 => ("DeclarativeRows$Latest", "place", "I", false)
  | 2 => ("DeclarativeRows$Latest", "taker", "I", false)
  | _ => ("DeclarativeRows$Latest", "program", "I", false)
def tyLt : Nat → FieldType := fun k => match k with
  | 0 => .int
  | 1 => .int
  | 2 => .int
  | _ => .int
abbrev wsLt0 : List Cond := u_ws RLt TLt 4
set_option maxRecDepth 20000 in
theorem nmLt : ∀ a, a < 4 → ∀ b, b < 4 → a ≠ b → (TLt a).2.1 ≠ (TLt b).2.1 := by decide +kernel
set_option maxRecDepth 20000 in
theorem tyLt_ok : ∀ k, k < 4 → parseFieldDescriptor (TLt k).2.2.1 = some (tyLt k) := by decide +kernel
set_option maxRecDepth 20000 in
theorem inLt : ∀ w ∈ wsLt0, w ∈ lw_tbl := by decide +kernel
def RRw : String := "DeclarativeRows"
def TRw : u_T := fun k => match k with
  | 0 => ("DeclarativeRows", "tree", "LDeclarativeRows$Tree;", true)
  | 1 => ("DeclarativeRows", "checks", "LDeclarativeRows$Checks;", true)
  | 2 => ("DeclarativeRows", "uses", "LDeclarativeRows$Uses;", true)
  | 3 => ("DeclarativeRows", "openModes", "LDeclarativeRows$OpenModes;", true)
  | 4 => ("DeclarativeRows", "running", "LDeclarativeRows$Running;", true)
  | 5 => ("DeclarativeRows", "latest", "LDeclarativeRows$Latest;", true)
  | 6 => ("DeclarativeRows", "raised", "I", false)
  | 7 => ("DeclarativeRows", "untaken", "I", false)
  | _ => ("DeclarativeRows", "ended", "Z", false)
def tyRw : Nat → FieldType := fun k => match k with
  | 0 => .object "DeclarativeRows$Tree"
  | 1 => .object "DeclarativeRows$Checks"
  | 2 => .object "DeclarativeRows$Uses"
  | 3 => .object "DeclarativeRows$OpenModes"
  | 4 => .object "DeclarativeRows$Running"
  | 5 => .object "DeclarativeRows$Latest"
  | 6 => .int
  | 7 => .int
  | _ => .boolean
abbrev wsRw0 : List Cond := u_ws RRw TRw 9
set_option maxRecDepth 20000 in
theorem nmRw : ∀ a, a < 9 → ∀ b, b < 9 → a ≠ b → (TRw a).2.1 ≠ (TRw b).2.1 := by decide +kernel
set_option maxRecDepth 20000 in
theorem tyRw_ok : ∀ k, k < 9 → parseFieldDescriptor (TRw k).2.2.1 = some (tyRw k) := by decide +kernel
set_option maxRecDepth 20000 in
theorem inRw : ∀ w ∈ wsRw0, w ∈ lw_tbl := by decide +kernel
def RMd : String := "DeclarativeRowsModel"
def TMd : u_T := fun k => match k with
  | 0 => ("DeclarativeRowsModel", "code", "I", false)
  | 1 => ("DeclarativeRowsModel", "exceptions", "I", false)
  | 2 => ("DeclarativeRowsModel", "checks", "I", false)
  | 3 => ("DeclarativeRowsModel", "uses", "I", false)
  | 4 => ("DeclarativeRowsModel", "running", "I", false)
  | 5 => ("DeclarativeRowsModel", "raised", "I", false)
  | 6 => ("DeclarativeRowsModel", "taken", "I", false)
  | 7 => ("DeclarativeRowsModel", "ended", "Z", false)
  | 8 => ("DeclarativeRowsModel", "levels", "[I", true)
  | 9 => ("DeclarativeRowsModel", "names", "[I", true)
  | 10 => ("DeclarativeRowsModel", "aboves", "[I", true)
  | 11 => ("DeclarativeRowsModel", "checked", "[I", true)
  | 12 => ("DeclarativeRowsModel", "froms", "[I", true)
  | 13 => ("DeclarativeRowsModel", "ons", "[Z", true)
  | 14 => ("DeclarativeRowsModel", "kinds", "[I", true)
  | 15 => ("DeclarativeRowsModel", "ofs", "[I", true)
  | 16 => ("DeclarativeRowsModel", "modes", "[I", true)
  | 17 => ("DeclarativeRowsModel", "runs", "[I", true)
  | 18 => ("DeclarativeRowsModel", "places", "[I", true)
  | 19 => ("DeclarativeRowsModel", "last", "I", false)
  | 20 => ("DeclarativeRowsModel", "lastPlace", "I", false)
  | 21 => ("DeclarativeRowsModel", "lastTaker", "I", false)
  | 22 => ("DeclarativeRowsModel", "program", "I", false)
  | _ => ("DeclarativeRowsModel", "any", "Z", false)
def tyMd : Nat → FieldType := fun k => match k with
  | 0 => .int
  | 1 => .int
  | 2 => .int
  | 3 => .int
  | 4 => .int
  | 5 => .int
  | 6 => .int
  | 7 => .boolean
  | 8 => .array .int
  | 9 => .array .int
  | 10 => .array .int
  | 11 => .array .int
  | 12 => .array .int
  | 13 => .array .boolean
  | 14 => .array .int
  | 15 => .array .int
  | 16 => .array .int
  | 17 => .array .int
  | 18 => .array .int
  | 19 => .int
  | 20 => .int
  | 21 => .int
  | 22 => .int
  | _ => .boolean
abbrev wsMd0 : List Cond := u_ws RMd TMd 24
set_option maxRecDepth 20000 in
theorem nmMd : ∀ a, a < 24 → ∀ b, b < 24 → a ≠ b → (TMd a).2.1 ≠ (TMd b).2.1 := by decide +kernel
set_option maxRecDepth 20000 in
theorem tyMd_ok : ∀ k, k < 24 → parseFieldDescriptor (TMd k).2.2.1 = some (tyMd k) := by decide +kernel
set_option maxRecDepth 20000 in
theorem inMd : ∀ w ∈ wsMd0, w ∈ lw_tbl := by decide +kernel
def RL : String := "DeclarativeRowsLaw"
abbrev cL_law : ByteArray := code
abbrev cRw_init : ByteArray := prog_1_method_1_code
def yRw_init : MethodName := ⟨RRw, "<init>", "()V"⟩
abbrev cTr_init : ByteArray := prog_6_method_1_code
def yTr_init : MethodName := ⟨RTr, "<init>", "()V"⟩
abbrev cCk_init : ByteArray := prog_2_method_1_code
def yCk_init : MethodName := ⟨RCk, "<init>", "()V"⟩
abbrev cUs_init : ByteArray := prog_7_method_1_code
def yUs_init : MethodName := ⟨RUs, "<init>", "()V"⟩
abbrev cOm_init : ByteArray := prog_4_method_1_code
def yOm_init : MethodName := ⟨ROm, "<init>", "()V"⟩
abbrev cRn_init : ByteArray := prog_5_method_1_code
def yRn_init : MethodName := ⟨RRn, "<init>", "()V"⟩
abbrev cLt_init : ByteArray := prog_3_method_1_code
def yLt_init : MethodName := ⟨RLt, "<init>", "()V"⟩
abbrev cRw_exception : ByteArray := prog_1_method_2_code
def yRw_exception : MethodName := ⟨RRw, "exception", "(II)I"⟩
abbrev cRw_isBelow : ByteArray := prog_1_method_15_code
def yRw_isBelow : MethodName := ⟨RRw, "isBelow", "(II)Z"⟩
abbrev cTr_latestOf : ByteArray := prog_6_method_4_code
def yTr_latestOf : MethodName := ⟨RTr, "latestOf", "(I)I"⟩
abbrev cTr_add : ByteArray := prog_6_method_5_code
def yTr_add : MethodName := ⟨RTr, "add", "(II)I"⟩
abbrev cRw_use : ByteArray := prog_1_method_3_code
def yRw_use : MethodName := ⟨RRw, "use", "(II)I"⟩
abbrev cTr_has : ByteArray := prog_6_method_3_code
def yTr_has : MethodName := ⟨RTr, "has", "(I)Z"⟩
abbrev cUs_add : ByteArray := prog_7_method_3_code
def yUs_add : MethodName := ⟨RUs, "add", "(II)I"⟩
abbrev cUs_isRow : ByteArray := prog_7_method_5_code
def yUs_isRow : MethodName := ⟨RUs, "isRow", "(I)Z"⟩
abbrev cRw_check : ByteArray := prog_1_method_4_code
def yRw_check : MethodName := ⟨RRw, "check", "(IIZ)I"⟩
abbrev cCk_add : ByteArray := prog_2_method_3_code
def yCk_add : MethodName := ⟨RCk, "add", "(IIZ)I"⟩
abbrev cCk_isRow : ByteArray := prog_2_method_5_code
def yCk_isRow : MethodName := ⟨RCk, "isRow", "(I)Z"⟩
abbrev cRw_raise : ByteArray := prog_1_method_5_code
def yRw_raise : MethodName := ⟨RRw, "raise", "(II)I"⟩
abbrev cCk_areOn : ByteArray := prog_2_method_4_code
def yCk_areOn : MethodName := ⟨RCk, "areOn", "(LDeclarativeRows$Tree;II)Z"⟩
abbrev cTr_isSameOrAbove : ByteArray := prog_6_method_8_code
def yTr_isSameOrAbove : MethodName := ⟨RTr, "isSameOrAbove", "(II)Z"⟩
abbrev cTr_above : ByteArray := prog_6_method_6_code
def yTr_above : MethodName := ⟨RTr, "above", "(I)I"⟩
abbrev cRw_takerOfException : ByteArray := prog_1_method_16_code
def yRw_takerOfException : MethodName := ⟨RRw, "takerOfException", "(I)I"⟩
abbrev cUs_firstFor : ByteArray := prog_7_method_4_code
def yUs_firstFor : MethodName := ⟨RUs, "firstFor", "(II)I"⟩
abbrev cTr_isFatal : ByteArray := prog_6_method_7_code
def yTr_isFatal : MethodName := ⟨RTr, "isFatal", "(I)Z"⟩
abbrev cRw_come : ByteArray := prog_1_method_18_code
def yRw_come : MethodName := ⟨RRw, "come", "(IIIZ)I"⟩
abbrev cLt_put : ByteArray := prog_3_method_2_code
def yLt_put : MethodName := ⟨RLt, "put", "(III)V"⟩
abbrev cRn_holds : ByteArray := prog_5_method_6_code
def yRn_holds : MethodName := ⟨RRn, "holds", "(I)Z"⟩
abbrev cRn_isRow : ByteArray := prog_5_method_7_code
def yRn_isRow : MethodName := ⟨RRn, "isRow", "(I)Z"⟩
abbrev cRn_start : ByteArray := prog_5_method_3_code
def yRn_start : MethodName := ⟨RRn, "start", "(II)Z"⟩
abbrev cRw_taken : ByteArray := prog_1_method_6_code
def yRw_taken : MethodName := ⟨RRw, "taken", "(I)I"⟩
abbrev cRn_useAt : ByteArray := prog_5_method_4_code
def yRn_useAt : MethodName := ⟨RRn, "useAt", "(I)I"⟩
abbrev cRw_resume : ByteArray := prog_1_method_7_code
def yRw_resume : MethodName := ⟨RRw, "resume", "(II)I"⟩
abbrev cRn_size : ByteArray := prog_5_method_2_code
def yRn_size : MethodName := ⟨RRn, "size", "()I"⟩
abbrev cRn_endLatest : ByteArray := prog_5_method_5_code
def yRn_endLatest : MethodName := ⟨RRn, "endLatest", "()I"⟩
abbrev cRw_nested : ByteArray := prog_1_method_8_code
def yRw_nested : MethodName := ⟨RRw, "nested", "(I)I"⟩
abbrev cRw_propagate : ByteArray := prog_1_method_9_code
def yRw_propagate : MethodName := ⟨RRw, "propagate", "(I)I"⟩
abbrev cLt_passTo : ByteArray := prog_3_method_3_code
def yLt_passTo : MethodName := ⟨RLt, "passTo", "(I)I"⟩
abbrev cRw_last : ByteArray := prog_1_method_10_code
def yRw_last : MethodName := ⟨RRw, "last", "(I)I"⟩
abbrev cLt_tell : ByteArray := prog_3_method_4_code
def yLt_tell : MethodName := ⟨RLt, "tell", "(I)I"⟩
abbrev cRw_status : ByteArray := prog_1_method_11_code
def yRw_status : MethodName := ⟨RRw, "status", "(II)I"⟩
abbrev cRw_takerOfFile : ByteArray := prog_1_method_17_code
def yRw_takerOfFile : MethodName := ⟨RRw, "takerOfFile", "(I)I"⟩
abbrev cOm_of : ByteArray := prog_4_method_2_code
def yOm_of : MethodName := ⟨ROm, "of", "(I)I"⟩
abbrev cRw_mode : ByteArray := prog_1_method_12_code
def yRw_mode : MethodName := ⟨RRw, "mode", "(II)I"⟩
abbrev cOm_put : ByteArray := prog_4_method_3_code
def yOm_put : MethodName := ⟨ROm, "put", "(II)V"⟩
abbrev cRw_ends : ByteArray := prog_1_method_13_code
def yRw_ends : MethodName := ⟨RRw, "ends", "()Z"⟩
abbrev cRw_count : ByteArray := prog_1_method_14_code
def yRw_count : MethodName := ⟨RRw, "count", "(I)I"⟩
abbrev cTr_size : ByteArray := prog_6_method_2_code
def yTr_size : MethodName := ⟨RTr, "size", "()I"⟩
abbrev cCk_size : ByteArray := prog_2_method_2_code
def yCk_size : MethodName := ⟨RCk, "size", "()I"⟩
abbrev cUs_size : ByteArray := prog_7_method_2_code
def yUs_size : MethodName := ⟨RUs, "size", "()I"⟩
abbrev cMd_init : ByteArray := prog_9_method_1_code
def yMd_init : MethodName := ⟨RMd, "<init>", "()V"⟩
abbrev cMd_exception : ByteArray := prog_9_method_5_code
def yMd_exception : MethodName := ⟨RMd, "exception", "(II)I"⟩
abbrev cMd_use : ByteArray := prog_9_method_6_code
def yMd_use : MethodName := ⟨RMd, "use", "(II)I"⟩
abbrev cMd_isFile : ByteArray := prog_9_method_4_code
def yMd_isFile : MethodName := ⟨RMd, "isFile", "(I)Z"⟩
abbrev cMd_isException : ByteArray := prog_9_method_3_code
def yMd_isException : MethodName := ⟨RMd, "isException", "(I)Z"⟩
abbrev cMd_check : ByteArray := prog_9_method_7_code
def yMd_check : MethodName := ⟨RMd, "check", "(IIZ)I"⟩
abbrev cMd_mode : ByteArray := prog_9_method_8_code
def yMd_mode : MethodName := ⟨RMd, "mode", "(II)I"⟩
abbrev cMd_raise : ByteArray := prog_9_method_15_code
def yMd_raise : MethodName := ⟨RMd, "raise", "(II)I"⟩
abbrev cMd_isChecked : ByteArray := prog_9_method_10_code
def yMd_isChecked : MethodName := ⟨RMd, "isChecked", "(II)Z"⟩
abbrev cMd_isAt : ByteArray := prog_9_method_9_code
def yMd_isAt : MethodName := ⟨RMd, "isAt", "(II)Z"⟩
abbrev cMd_takerOf : ByteArray := prog_9_method_12_code
def yMd_takerOf : MethodName := ⟨RMd, "takerOf", "(I)I"⟩
abbrev cMd_first : ByteArray := prog_9_method_11_code
def yMd_first : MethodName := ⟨RMd, "first", "(II)I"⟩
abbrev cMd_come : ByteArray := prog_9_method_14_code
def yMd_come : MethodName := ⟨RMd, "come", "(IIIZ)I"⟩
abbrev cMd_isRunning : ByteArray := prog_9_method_13_code
def yMd_isRunning : MethodName := ⟨RMd, "isRunning", "(I)Z"⟩
abbrev cMd_status : ByteArray := prog_9_method_16_code
def yMd_status : MethodName := ⟨RMd, "status", "(II)I"⟩
abbrev cMd_resume : ByteArray := prog_9_method_17_code
def yMd_resume : MethodName := ⟨RMd, "resume", "(II)I"⟩
abbrev cMd_propagate : ByteArray := prog_9_method_18_code
def yMd_propagate : MethodName := ⟨RMd, "propagate", "(I)I"⟩
abbrev cMd_taken : ByteArray := prog_9_method_19_code
def yMd_taken : MethodName := ⟨RMd, "taken", "(I)I"⟩
abbrev cMd_nested : ByteArray := prog_9_method_20_code
def yMd_nested : MethodName := ⟨RMd, "nested", "(I)I"⟩
abbrev cMd_last : ByteArray := prog_9_method_21_code
def yMd_last : MethodName := ⟨RMd, "last", "(I)I"⟩
abbrev cMd_ends : ByteArray := prog_9_method_22_code
def yMd_ends : MethodName := ⟨RMd, "ends", "()Z"⟩
abbrev cMd_count : ByteArray := prog_9_method_23_code
def yMd_count : MethodName := ⟨RMd, "count", "(I)I"⟩
def wsTr_init : List Cond := .code yTr_init cTr_init 1 none :: ([.methodLink RTr 3 objectInit, .instanceMethod objectInit, .code objectInit ⟨#[0xb1]⟩ 1 none, .arrayClass .int, .fieldLink RTr 9 "DeclarativeRows$Tree" "names" "[I", .fieldLink RTr 15 "DeclarativeRows$Tree" "parents" "[I", .fieldLink RTr 18 "DeclarativeRows$Tree" "latestOfLevel" "[I", .fieldLink RTr 21 "DeclarativeRows$Tree" "size" "I"] ++ wsTr0)
def wsCk_init : List Cond := .code yCk_init cCk_init 1 none :: ([.methodLink RCk 3 objectInit, .instanceMethod objectInit, .code objectInit ⟨#[0xb1]⟩ 1 none, .arrayClass .int, .fieldLink RCk 9 "DeclarativeRows$Checks" "exceptions" "[I", .fieldLink RCk 15 "DeclarativeRows$Checks" "places" "[I", .arrayClass .boolean, .fieldLink RCk 18 "DeclarativeRows$Checks" "switches" "[Z", .fieldLink RCk 22 "DeclarativeRows$Checks" "size" "I"] ++ wsCk0)
def wsUs_init : List Cond := .code yUs_init cUs_init 1 none :: ([.methodLink RUs 3 objectInit, .instanceMethod objectInit, .code objectInit ⟨#[0xb1]⟩ 1 none, .arrayClass .int, .fieldLink RUs 9 "DeclarativeRows$Uses" "kinds" "[I", .fieldLink RUs 15 "DeclarativeRows$Uses" "subjects" "[I", .fieldLink RUs 18 "DeclarativeRows$Uses" "size" "I"] ++ wsUs0)
def wsOm_init : List Cond := .code yOm_init cOm_init 2 none :: ([.methodLink ROm 3 objectInit, .instanceMethod objectInit, .code objectInit ⟨#[0xb1]⟩ 1 none, .arrayClass .int, .fieldLink ROm 9 "DeclarativeRows$OpenModes" "modes" "[I"] ++ wsOm0)
def wsRn_init : List Cond := .code yRn_init cRn_init 1 none :: ([.methodLink RRn 3 objectInit, .instanceMethod objectInit, .code objectInit ⟨#[0xb1]⟩ 1 none, .arrayClass .int, .fieldLink RRn 9 "DeclarativeRows$Running" "takers" "[I", .fieldLink RRn 15 "DeclarativeRows$Running" "places" "[I", .fieldLink RRn 18 "DeclarativeRows$Running" "size" "I"] ++ wsRn0)
def wsLt_init : List Cond := .code yLt_init cLt_init 1 none :: ([.methodLink RLt 3 objectInit, .instanceMethod objectInit, .code objectInit ⟨#[0xb1]⟩ 1 none, .fieldLink RLt 9 "DeclarativeRows$Latest" "number" "I", .fieldLink RLt 15 "DeclarativeRows$Latest" "place" "I", .fieldLink RLt 18 "DeclarativeRows$Latest" "taker" "I", .fieldLink RLt 21 "DeclarativeRows$Latest" "program" "I"] ++ wsLt0)
def wsRw_init : List Cond := .code yRw_init cRw_init 1 none :: ([.methodLink RRw 1 objectInit, .instanceMethod objectInit, .code objectInit ⟨#[0xb1]⟩ 1 none, .classLink RRw 7 RTr, .instantiable RTr 4, .initialized RTr, .fieldLink RRw 10 "DeclarativeRows" "tree" "LDeclarativeRows$Tree;", .classLink RRw 16 RCk, .instantiable RCk 4, .initialized RCk, .fieldLink RRw 19 "DeclarativeRows" "checks" "LDeclarativeRows$Checks;", .classLink RRw 23 RUs, .instantiable RUs 3, .initialized RUs, .fieldLink RRw 26 "DeclarativeRows" "uses" "LDeclarativeRows$Uses;", .classLink RRw 30 ROm, .instantiable ROm 1, .initialized ROm, .fieldLink RRw 33 "DeclarativeRows" "openModes" "LDeclarativeRows$OpenModes;", .classLink RRw 37 RRn, .instantiable RRn 3, .initialized RRn, .fieldLink RRw 40 "DeclarativeRows" "running" "LDeclarativeRows$Running;", .classLink RRw 44 RLt, .instantiable RLt 4, .initialized RLt, .fieldLink RRw 47 "DeclarativeRows" "latest" "LDeclarativeRows$Latest;", .fieldLink RRw 51 "DeclarativeRows" "raised" "I", .fieldLink RRw 55 "DeclarativeRows" "untaken" "I", .fieldLink RRw 58 "DeclarativeRows" "ended" "Z", .instanceMethod yTr_init, .code yTr_init cTr_init 1 none, .methodLink RTr 3 objectInit, .arrayClass .int, .fieldLink RTr 9 "DeclarativeRows$Tree" "names" "[I", .fieldLink RTr 15 "DeclarativeRows$Tree" "parents" "[I", .fieldLink RTr 18 "DeclarativeRows$Tree" "latestOfLevel" "[I", .fieldLink RTr 21 "DeclarativeRows$Tree" "size" "I", .instanceMethod yCk_init, .code yCk_init cCk_init 1 none, .methodLink RCk 3 objectInit, .fieldLink RCk 9 "DeclarativeRows$Checks" "exceptions" "[I", .fieldLink RCk 15 "DeclarativeRows$Checks" "places" "[I", .arrayClass .boolean, .fieldLink RCk 18 "DeclarativeRows$Checks" "switches" "[Z", .fieldLink RCk 22 "DeclarativeRows$Checks" "size" "I", .instanceMethod yUs_init, .code yUs_init cUs_init 1 none, .methodLink RUs 3 objectInit, .fieldLink RUs 9 "DeclarativeRows$Uses" "kinds" "[I", .fieldLink RUs 15 "DeclarativeRows$Uses" "subjects" "[I", .fieldLink RUs 18 "DeclarativeRows$Uses" "size" "I", .methodLink RRw 32 yOm_init, .instanceMethod yOm_init, .code yOm_init cOm_init 2 none, .methodLink ROm 3 objectInit, .fieldLink ROm 9 "DeclarativeRows$OpenModes" "modes" "[I", .instanceMethod yRn_init, .code yRn_init cRn_init 1 none, .methodLink RRn 3 objectInit, .fieldLink RRn 9 "DeclarativeRows$Running" "takers" "[I", .fieldLink RRn 15 "DeclarativeRows$Running" "places" "[I", .fieldLink RRn 18 "DeclarativeRows$Running" "size" "I", .instanceMethod yLt_init, .code yLt_init cLt_init 1 none, .methodLink RLt 3 objectInit, .fieldLink RLt 9 "DeclarativeRows$Latest" "number" "I", .fieldLink RLt 15 "DeclarativeRows$Latest" "place" "I", .fieldLink RLt 18 "DeclarativeRows$Latest" "taker" "I", .fieldLink RLt 21 "DeclarativeRows$Latest" "program" "I"] ++ wsRw0 ++ wsTr0 ++ wsCk0 ++ wsUs0 ++ wsOm0 ++ wsRn0 ++ wsLt0)
def wsRw_isBelow : List Cond := .code yRw_isBelow cRw_isBelow 2 (some .boolean) :: ([] ++ wsRw0)
def wsTr_latestOf : List Cond := .code yTr_latestOf cTr_latestOf 2 (some .int) :: ([.fieldLink RTr 18 "DeclarativeRows$Tree" "latestOfLevel" "[I"] ++ wsTr0)
def wsTr_add : List Cond := .code yTr_add cTr_add 4 (some .int) :: ([.fieldLink RTr 21 "DeclarativeRows$Tree" "size" "I", .fieldLink RTr 9 "DeclarativeRows$Tree" "names" "[I", .fieldLink RTr 15 "DeclarativeRows$Tree" "parents" "[I", .fieldLink RTr 18 "DeclarativeRows$Tree" "latestOfLevel" "[I", .methodLink RTr 25 yTr_latestOf, .instanceMethod yTr_latestOf, .selects RTr yTr_latestOf yTr_latestOf, .initialized RTr, .code yTr_latestOf cTr_latestOf 2 (some .int)] ++ wsTr0)
def wsRw_exception : List Cond := .code yRw_exception cRw_exception 3 (some .int) :: ([.fieldLink RRw 10 "DeclarativeRows" "tree" "LDeclarativeRows$Tree;", .methodLink RRw 62 yRw_isBelow, .static yRw_isBelow, .initialized RRw, .code yRw_isBelow cRw_isBelow 2 (some .boolean), .methodLink RRw 66 yTr_latestOf, .instanceMethod yTr_latestOf, .selects RTr yTr_latestOf yTr_latestOf, .initialized RTr, .code yTr_latestOf cTr_latestOf 2 (some .int), .fieldLink RTr 18 "DeclarativeRows$Tree" "latestOfLevel" "[I", .methodLink RRw 70 yTr_add, .instanceMethod yTr_add, .selects RTr yTr_add yTr_add, .code yTr_add cTr_add 4 (some .int), .fieldLink RTr 21 "DeclarativeRows$Tree" "size" "I", .fieldLink RTr 9 "DeclarativeRows$Tree" "names" "[I", .fieldLink RTr 15 "DeclarativeRows$Tree" "parents" "[I", .methodLink RTr 25 yTr_latestOf] ++ wsRw0 ++ wsTr0)
def wsTr_has : List Cond := .code yTr_has cTr_has 2 (some .boolean) :: ([.fieldLink RTr 21 "DeclarativeRows$Tree" "size" "I", .fieldLink RTr 9 "DeclarativeRows$Tree" "names" "[I"] ++ wsTr0)
def wsUs_isRow : List Cond := .code yUs_isRow cUs_isRow 2 (some .boolean) :: ([.fieldLink RUs 9 "DeclarativeRows$Uses" "kinds" "[I", .fieldLink RUs 15 "DeclarativeRows$Uses" "subjects" "[I"] ++ wsUs0)
def wsUs_add : List Cond := .code yUs_add cUs_add 3 (some .int) :: ([.fieldLink RUs 18 "DeclarativeRows$Uses" "size" "I", .fieldLink RUs 9 "DeclarativeRows$Uses" "kinds" "[I", .fieldLink RUs 15 "DeclarativeRows$Uses" "subjects" "[I", .methodLink RUs 22 yUs_isRow, .instanceMethod yUs_isRow, .selects RUs yUs_isRow yUs_isRow, .initialized RUs, .code yUs_isRow cUs_isRow 2 (some .boolean)] ++ wsUs0)
def wsRw_use : List Cond := .code yRw_use cRw_use 3 (some .int) :: ([.fieldLink RRw 10 "DeclarativeRows" "tree" "LDeclarativeRows$Tree;", .fieldLink RRw 26 "DeclarativeRows" "uses" "LDeclarativeRows$Uses;", .methodLink RRw 74 yTr_has, .instanceMethod yTr_has, .selects RTr yTr_has yTr_has, .initialized RTr, .code yTr_has cTr_has 2 (some .boolean), .fieldLink RTr 21 "DeclarativeRows$Tree" "size" "I", .fieldLink RTr 9 "DeclarativeRows$Tree" "names" "[I", .methodLink RRw 78 yUs_add, .instanceMethod yUs_add, .selects RUs yUs_add yUs_add, .initialized RUs, .code yUs_add cUs_add 3 (some .int), .fieldLink RUs 18 "DeclarativeRows$Uses" "size" "I", .fieldLink RUs 9 "DeclarativeRows$Uses" "kinds" "[I", .fieldLink RUs 15 "DeclarativeRows$Uses" "subjects" "[I", .methodLink RUs 22 yUs_isRow, .instanceMethod yUs_isRow, .selects RUs yUs_isRow yUs_isRow, .code yUs_isRow cUs_isRow 2 (some .boolean), .methodLink RRw 62 yRw_isBelow, .static yRw_isBelow, .initialized RRw, .code yRw_isBelow cRw_isBelow 2 (some .boolean)] ++ wsRw0 ++ wsTr0 ++ wsUs0)
def wsCk_isRow : List Cond := .code yCk_isRow cCk_isRow 2 (some .boolean) :: ([.fieldLink RCk 9 "DeclarativeRows$Checks" "exceptions" "[I", .fieldLink RCk 15 "DeclarativeRows$Checks" "places" "[I", .fieldLink RCk 18 "DeclarativeRows$Checks" "switches" "[Z"] ++ wsCk0)
def wsCk_add : List Cond := .code yCk_add cCk_add 4 (some .int) :: ([.fieldLink RCk 22 "DeclarativeRows$Checks" "size" "I", .fieldLink RCk 9 "DeclarativeRows$Checks" "exceptions" "[I", .fieldLink RCk 15 "DeclarativeRows$Checks" "places" "[I", .fieldLink RCk 18 "DeclarativeRows$Checks" "switches" "[Z", .methodLink RCk 26 yCk_isRow, .instanceMethod yCk_isRow, .selects RCk yCk_isRow yCk_isRow, .initialized RCk, .code yCk_isRow cCk_isRow 2 (some .boolean)] ++ wsCk0)
def wsRw_check : List Cond := .code yRw_check cRw_check 4 (some .int) :: ([.fieldLink RRw 10 "DeclarativeRows" "tree" "LDeclarativeRows$Tree;", .fieldLink RRw 19 "DeclarativeRows" "checks" "LDeclarativeRows$Checks;", .methodLink RRw 74 yTr_has, .instanceMethod yTr_has, .selects RTr yTr_has yTr_has, .initialized RTr, .code yTr_has cTr_has 2 (some .boolean), .fieldLink RTr 21 "DeclarativeRows$Tree" "size" "I", .fieldLink RTr 9 "DeclarativeRows$Tree" "names" "[I", .methodLink RRw 62 yRw_isBelow, .static yRw_isBelow, .initialized RRw, .code yRw_isBelow cRw_isBelow 2 (some .boolean), .methodLink RRw 79 yCk_add, .instanceMethod yCk_add, .selects RCk yCk_add yCk_add, .initialized RCk, .code yCk_add cCk_add 4 (some .int), .fieldLink RCk 22 "DeclarativeRows$Checks" "size" "I", .fieldLink RCk 9 "DeclarativeRows$Checks" "exceptions" "[I", .fieldLink RCk 15 "DeclarativeRows$Checks" "places" "[I", .fieldLink RCk 18 "DeclarativeRows$Checks" "switches" "[Z", .methodLink RCk 26 yCk_isRow, .instanceMethod yCk_isRow, .selects RCk yCk_isRow yCk_isRow, .code yCk_isRow cCk_isRow 2 (some .boolean)] ++ wsRw0 ++ wsTr0 ++ wsCk0)
def wsTr_above : List Cond := .code yTr_above cTr_above 2 (some .int) :: ([.fieldLink RTr 15 "DeclarativeRows$Tree" "parents" "[I", .methodLink RTr 29 yTr_has, .instanceMethod yTr_has, .selects RTr yTr_has yTr_has, .initialized RTr, .code yTr_has cTr_has 2 (some .boolean), .fieldLink RTr 21 "DeclarativeRows$Tree" "size" "I", .fieldLink RTr 9 "DeclarativeRows$Tree" "names" "[I"] ++ wsTr0)
def wsTr_isSameOrAbove : List Cond := .code yTr_isSameOrAbove cTr_isSameOrAbove 5 (some .boolean) :: ([.methodLink RTr 29 yTr_has, .instanceMethod yTr_has, .selects RTr yTr_has yTr_has, .initialized RTr, .code yTr_has cTr_has 2 (some .boolean), .fieldLink RTr 21 "DeclarativeRows$Tree" "size" "I", .fieldLink RTr 9 "DeclarativeRows$Tree" "names" "[I", .methodLink RTr 33 yTr_above, .instanceMethod yTr_above, .selects RTr yTr_above yTr_above, .code yTr_above cTr_above 2 (some .int), .fieldLink RTr 15 "DeclarativeRows$Tree" "parents" "[I"] ++ wsTr0)
def wsCk_areOn : List Cond := .code yCk_areOn cCk_areOn 7 (some .boolean) :: ([.fieldLink RCk 22 "DeclarativeRows$Checks" "size" "I", .fieldLink RCk 15 "DeclarativeRows$Checks" "places" "[I", .fieldLink RCk 9 "DeclarativeRows$Checks" "exceptions" "[I", .fieldLink RCk 18 "DeclarativeRows$Checks" "switches" "[Z", .methodLink RCk 26 yCk_isRow, .instanceMethod yCk_isRow, .selects RCk yCk_isRow yCk_isRow, .initialized RCk, .code yCk_isRow cCk_isRow 2 (some .boolean), .methodLink RCk 30 yTr_isSameOrAbove, .instanceMethod yTr_isSameOrAbove, .selects RTr yTr_isSameOrAbove yTr_isSameOrAbove, .initialized RTr, .code yTr_isSameOrAbove cTr_isSameOrAbove 5 (some .boolean), .methodLink RTr 29 yTr_has, .instanceMethod yTr_has, .selects RTr yTr_has yTr_has, .code yTr_has cTr_has 2 (some .boolean), .fieldLink RTr 21 "DeclarativeRows$Tree" "size" "I", .fieldLink RTr 9 "DeclarativeRows$Tree" "names" "[I", .methodLink RTr 33 yTr_above, .instanceMethod yTr_above, .selects RTr yTr_above yTr_above, .code yTr_above cTr_above 2 (some .int), .fieldLink RTr 15 "DeclarativeRows$Tree" "parents" "[I"] ++ wsCk0 ++ wsTr0)
def wsUs_firstFor : List Cond := .code yUs_firstFor cUs_firstFor 4 (some .int) :: ([.fieldLink RUs 18 "DeclarativeRows$Uses" "size" "I", .fieldLink RUs 9 "DeclarativeRows$Uses" "kinds" "[I", .fieldLink RUs 15 "DeclarativeRows$Uses" "subjects" "[I", .methodLink RUs 22 yUs_isRow, .instanceMethod yUs_isRow, .selects RUs yUs_isRow yUs_isRow, .initialized RUs, .code yUs_isRow cUs_isRow 2 (some .boolean)] ++ wsUs0)
def wsRw_takerOfException : List Cond := .code yRw_takerOfException cRw_takerOfException 5 (some .int) :: ([.fieldLink RRw 10 "DeclarativeRows" "tree" "LDeclarativeRows$Tree;", .fieldLink RRw 26 "DeclarativeRows" "uses" "LDeclarativeRows$Uses;", .methodLink RRw 74 yTr_has, .instanceMethod yTr_has, .selects RTr yTr_has yTr_has, .initialized RTr, .code yTr_has cTr_has 2 (some .boolean), .fieldLink RTr 21 "DeclarativeRows$Tree" "size" "I", .fieldLink RTr 9 "DeclarativeRows$Tree" "names" "[I", .methodLink RRw 125 yUs_firstFor, .instanceMethod yUs_firstFor, .selects RUs yUs_firstFor yUs_firstFor, .initialized RUs, .code yUs_firstFor cUs_firstFor 4 (some .int), .fieldLink RUs 18 "DeclarativeRows$Uses" "size" "I", .fieldLink RUs 9 "DeclarativeRows$Uses" "kinds" "[I", .fieldLink RUs 15 "DeclarativeRows$Uses" "subjects" "[I", .methodLink RUs 22 yUs_isRow, .instanceMethod yUs_isRow, .selects RUs yUs_isRow yUs_isRow, .code yUs_isRow cUs_isRow 2 (some .boolean), .methodLink RRw 128 yTr_above, .instanceMethod yTr_above, .selects RTr yTr_above yTr_above, .code yTr_above cTr_above 2 (some .int), .fieldLink RTr 15 "DeclarativeRows$Tree" "parents" "[I", .methodLink RTr 29 yTr_has] ++ wsRw0 ++ wsTr0 ++ wsUs0)
def wsTr_isFatal : List Cond := .code yTr_isFatal cTr_isFatal 2 (some .boolean) :: ([.fieldLink RTr 9 "DeclarativeRows$Tree" "names" "[I", .methodLink RTr 29 yTr_has, .instanceMethod yTr_has, .selects RTr yTr_has yTr_has, .initialized RTr, .code yTr_has cTr_has 2 (some .boolean), .fieldLink RTr 21 "DeclarativeRows$Tree" "size" "I"] ++ wsTr0)
def wsLt_put : List Cond := .code yLt_put cLt_put 4 none :: ([.fieldLink RLt 9 "DeclarativeRows$Latest" "number" "I", .fieldLink RLt 15 "DeclarativeRows$Latest" "place" "I", .fieldLink RLt 18 "DeclarativeRows$Latest" "taker" "I", .fieldLink RLt 21 "DeclarativeRows$Latest" "program" "I"] ++ wsLt0)
def wsRn_isRow : List Cond := .code yRn_isRow cRn_isRow 2 (some .boolean) :: ([.fieldLink RRn 9 "DeclarativeRows$Running" "takers" "[I", .fieldLink RRn 15 "DeclarativeRows$Running" "places" "[I"] ++ wsRn0)
def wsRn_holds : List Cond := .code yRn_holds cRn_holds 3 (some .boolean) :: ([.fieldLink RRn 18 "DeclarativeRows$Running" "size" "I", .fieldLink RRn 9 "DeclarativeRows$Running" "takers" "[I", .methodLink RRn 22 yRn_isRow, .instanceMethod yRn_isRow, .selects RRn yRn_isRow yRn_isRow, .initialized RRn, .code yRn_isRow cRn_isRow 2 (some .boolean), .fieldLink RRn 15 "DeclarativeRows$Running" "places" "[I"] ++ wsRn0)
def wsRn_start : List Cond := .code yRn_start cRn_start 3 (some .boolean) :: ([.fieldLink RRn 18 "DeclarativeRows$Running" "size" "I", .fieldLink RRn 9 "DeclarativeRows$Running" "takers" "[I", .fieldLink RRn 15 "DeclarativeRows$Running" "places" "[I", .methodLink RRn 22 yRn_isRow, .instanceMethod yRn_isRow, .selects RRn yRn_isRow yRn_isRow, .initialized RRn, .code yRn_isRow cRn_isRow 2 (some .boolean)] ++ wsRn0)
def wsRw_come : List Cond := .code yRw_come cRw_come 5 (some .int) :: ([.fieldLink RRw 47 "DeclarativeRows" "latest" "LDeclarativeRows$Latest;", .fieldLink RRw 51 "DeclarativeRows" "raised" "I", .fieldLink RRw 55 "DeclarativeRows" "untaken" "I", .fieldLink RRw 58 "DeclarativeRows" "ended" "Z", .fieldLink RRw 40 "DeclarativeRows" "running" "LDeclarativeRows$Running;", .methodLink RRw 134 yLt_put, .instanceMethod yLt_put, .selects RLt yLt_put yLt_put, .initialized RLt, .code yLt_put cLt_put 4 none, .fieldLink RLt 9 "DeclarativeRows$Latest" "number" "I", .fieldLink RLt 15 "DeclarativeRows$Latest" "place" "I", .fieldLink RLt 18 "DeclarativeRows$Latest" "taker" "I", .fieldLink RLt 21 "DeclarativeRows$Latest" "program" "I", .methodLink RRw 106 yRn_holds, .instanceMethod yRn_holds, .selects RRn yRn_holds yRn_holds, .initialized RRn, .code yRn_holds cRn_holds 3 (some .boolean), .fieldLink RRn 18 "DeclarativeRows$Running" "size" "I", .fieldLink RRn 9 "DeclarativeRows$Running" "takers" "[I", .methodLink RRn 22 yRn_isRow, .instanceMethod yRn_isRow, .selects RRn yRn_isRow yRn_isRow, .code yRn_isRow cRn_isRow 2 (some .boolean), .fieldLink RRn 15 "DeclarativeRows$Running" "places" "[I", .methodLink RRw 137 yRn_start, .instanceMethod yRn_start, .selects RRn yRn_start yRn_start, .code yRn_start cRn_start 3 (some .boolean)] ++ wsRw0 ++ wsLt0 ++ wsRn0)
def wsRw_raise : List Cond := .code yRw_raise cRw_raise 3 (some .int) :: ([.fieldLink RRw 10 "DeclarativeRows" "tree" "LDeclarativeRows$Tree;", .fieldLink RRw 58 "DeclarativeRows" "ended" "Z", .fieldLink RRw 19 "DeclarativeRows" "checks" "LDeclarativeRows$Checks;", .methodLink RRw 74 yTr_has, .instanceMethod yTr_has, .selects RTr yTr_has yTr_has, .initialized RTr, .code yTr_has cTr_has 2 (some .boolean), .fieldLink RTr 21 "DeclarativeRows$Tree" "size" "I", .fieldLink RTr 9 "DeclarativeRows$Tree" "names" "[I", .methodLink RRw 62 yRw_isBelow, .static yRw_isBelow, .initialized RRw, .code yRw_isBelow cRw_isBelow 2 (some .boolean), .methodLink RRw 82 yCk_areOn, .instanceMethod yCk_areOn, .selects RCk yCk_areOn yCk_areOn, .initialized RCk, .code yCk_areOn cCk_areOn 7 (some .boolean), .fieldLink RCk 22 "DeclarativeRows$Checks" "size" "I", .fieldLink RCk 15 "DeclarativeRows$Checks" "places" "[I", .fieldLink RCk 9 "DeclarativeRows$Checks" "exceptions" "[I", .fieldLink RCk 18 "DeclarativeRows$Checks" "switches" "[Z", .methodLink RCk 26 yCk_isRow, .instanceMethod yCk_isRow, .selects RCk yCk_isRow yCk_isRow, .code yCk_isRow cCk_isRow 2 (some .boolean), .methodLink RCk 30 yTr_isSameOrAbove, .instanceMethod yTr_isSameOrAbove, .selects RTr yTr_isSameOrAbove yTr_isSameOrAbove, .code yTr_isSameOrAbove cTr_isSameOrAbove 5 (some .boolean), .methodLink RTr 29 yTr_has, .methodLink RTr 33 yTr_above, .instanceMethod yTr_above, .selects RTr yTr_above yTr_above, .code yTr_above cTr_above 2 (some .int), .fieldLink RTr 15 "DeclarativeRows$Tree" "parents" "[I", .methodLink RRw 86 yRw_takerOfException, .instanceMethod yRw_takerOfException, .selects RRw yRw_takerOfException yRw_takerOfException, .code yRw_takerOfException cRw_takerOfException 5 (some .int), .fieldLink RRw 26 "DeclarativeRows" "uses" "LDeclarativeRows$Uses;", .methodLink RRw 125 yUs_firstFor, .instanceMethod yUs_firstFor, .selects RUs yUs_firstFor yUs_firstFor, .initialized RUs, .code yUs_firstFor cUs_firstFor 4 (some .int), .fieldLink RUs 18 "DeclarativeRows$Uses" "size" "I", .fieldLink RUs 9 "DeclarativeRows$Uses" "kinds" "[I", .fieldLink RUs 15 "DeclarativeRows$Uses" "subjects" "[I", .methodLink RUs 22 yUs_isRow, .instanceMethod yUs_isRow, .selects RUs yUs_isRow yUs_isRow, .code yUs_isRow cUs_isRow 2 (some .boolean), .methodLink RRw 128 yTr_above, .methodLink RRw 89 yTr_isFatal, .instanceMethod yTr_isFatal, .selects RTr yTr_isFatal yTr_isFatal, .code yTr_isFatal cTr_isFatal 2 (some .boolean), .methodLink RRw 92 yRw_come, .instanceMethod yRw_come, .selects RRw yRw_come yRw_come, .code yRw_come cRw_come 5 (some .int), .fieldLink RRw 47 "DeclarativeRows" "latest" "LDeclarativeRows$Latest;", .fieldLink RRw 51 "DeclarativeRows" "raised" "I", .fieldLink RRw 55 "DeclarativeRows" "untaken" "I", .fieldLink RRw 40 "DeclarativeRows" "running" "LDeclarativeRows$Running;", .methodLink RRw 134 yLt_put, .instanceMethod yLt_put, .selects RLt yLt_put yLt_put, .initialized RLt, .code yLt_put cLt_put 4 none, .fieldLink RLt 9 "DeclarativeRows$Latest" "number" "I", .fieldLink RLt 15 "DeclarativeRows$Latest" "place" "I", .fieldLink RLt 18 "DeclarativeRows$Latest" "taker" "I", .fieldLink RLt 21 "DeclarativeRows$Latest" "program" "I", .methodLink RRw 106 yRn_holds, .instanceMethod yRn_holds, .selects RRn yRn_holds yRn_holds, .initialized RRn, .code yRn_holds cRn_holds 3 (some .boolean), .fieldLink RRn 18 "DeclarativeRows$Running" "size" "I", .fieldLink RRn 9 "DeclarativeRows$Running" "takers" "[I", .methodLink RRn 22 yRn_isRow, .instanceMethod yRn_isRow, .selects RRn yRn_isRow yRn_isRow, .code yRn_isRow cRn_isRow 2 (some .boolean), .fieldLink RRn 15 "DeclarativeRows$Running" "places" "[I", .methodLink RRw 137 yRn_start, .instanceMethod yRn_start, .selects RRn yRn_start yRn_start, .code yRn_start cRn_start 3 (some .boolean)] ++ wsRw0 ++ wsTr0 ++ wsCk0 ++ wsUs0 ++ wsLt0 ++ wsRn0)
def wsRn_useAt : List Cond := .code yRn_useAt cRn_useAt 3 (some .int) :: ([.fieldLink RRn 18 "DeclarativeRows$Running" "size" "I", .fieldLink RRn 9 "DeclarativeRows$Running" "takers" "[I", .static yRw_isBelow, .initialized RRw, .code yRw_isBelow cRw_isBelow 2 (some .boolean), .methodLink RRn 22 yRn_isRow, .instanceMethod yRn_isRow, .selects RRn yRn_isRow yRn_isRow, .initialized RRn, .code yRn_isRow cRn_isRow 2 (some .boolean), .fieldLink RRn 15 "DeclarativeRows$Running" "places" "[I"] ++ wsRn0 ++ wsRw0)
def wsRw_taken : List Cond := .code yRw_taken cRw_taken 2 (some .int) :: ([.fieldLink RRw 40 "DeclarativeRows" "running" "LDeclarativeRows$Running;", .methodLink RRw 96 yRn_useAt, .instanceMethod yRn_useAt, .selects RRn yRn_useAt yRn_useAt, .initialized RRn, .code yRn_useAt cRn_useAt 3 (some .int), .fieldLink RRn 18 "DeclarativeRows$Running" "size" "I", .fieldLink RRn 9 "DeclarativeRows$Running" "takers" "[I", .static yRw_isBelow, .initialized RRw, .code yRw_isBelow cRw_isBelow 2 (some .boolean), .methodLink RRn 22 yRn_isRow, .instanceMethod yRn_isRow, .selects RRn yRn_isRow yRn_isRow, .code yRn_isRow cRn_isRow 2 (some .boolean), .fieldLink RRn 15 "DeclarativeRows$Running" "places" "[I"] ++ wsRw0 ++ wsRn0)
def wsRn_size : List Cond := .code yRn_size cRn_size 1 (some .int) :: ([.fieldLink RRn 18 "DeclarativeRows$Running" "size" "I"] ++ wsRn0)
def wsRn_endLatest : List Cond := .code yRn_endLatest cRn_endLatest 2 (some .int) :: ([.fieldLink RRn 18 "DeclarativeRows$Running" "size" "I", .fieldLink RRn 15 "DeclarativeRows$Running" "places" "[I", .methodLink RRn 22 yRn_isRow, .instanceMethod yRn_isRow, .selects RRn yRn_isRow yRn_isRow, .initialized RRn, .code yRn_isRow cRn_isRow 2 (some .boolean), .fieldLink RRn 9 "DeclarativeRows$Running" "takers" "[I"] ++ wsRn0)
def wsRw_resume : List Cond := .code yRw_resume cRw_resume 4 (some .int) :: ([.fieldLink RRw 58 "DeclarativeRows" "ended" "Z", .fieldLink RRw 40 "DeclarativeRows" "running" "LDeclarativeRows$Running;", .methodLink RRw 62 yRw_isBelow, .static yRw_isBelow, .initialized RRw, .code yRw_isBelow cRw_isBelow 2 (some .boolean), .methodLink RRw 99 yRn_size, .instanceMethod yRn_size, .selects RRn yRn_size yRn_size, .initialized RRn, .code yRn_size cRn_size 1 (some .int), .fieldLink RRn 18 "DeclarativeRows$Running" "size" "I", .methodLink RRw 96 yRn_useAt, .instanceMethod yRn_useAt, .selects RRn yRn_useAt yRn_useAt, .code yRn_useAt cRn_useAt 3 (some .int), .fieldLink RRn 9 "DeclarativeRows$Running" "takers" "[I", .methodLink RRn 22 yRn_isRow, .instanceMethod yRn_isRow, .selects RRn yRn_isRow yRn_isRow, .code yRn_isRow cRn_isRow 2 (some .boolean), .fieldLink RRn 15 "DeclarativeRows$Running" "places" "[I", .methodLink RRw 103 yRn_endLatest, .instanceMethod yRn_endLatest, .selects RRn yRn_endLatest yRn_endLatest, .code yRn_endLatest cRn_endLatest 2 (some .int)] ++ wsRw0 ++ wsRn0)
def wsRw_nested : List Cond := .code yRw_nested cRw_nested 2 (some .int) :: ([.fieldLink RRw 10 "DeclarativeRows" "tree" "LDeclarativeRows$Tree;", .fieldLink RRw 40 "DeclarativeRows" "running" "LDeclarativeRows$Running;", .methodLink RRw 74 yTr_has, .instanceMethod yTr_has, .selects RTr yTr_has yTr_has, .initialized RTr, .code yTr_has cTr_has 2 (some .boolean), .fieldLink RTr 21 "DeclarativeRows$Tree" "size" "I", .fieldLink RTr 9 "DeclarativeRows$Tree" "names" "[I", .methodLink RRw 86 yRw_takerOfException, .instanceMethod yRw_takerOfException, .selects RRw yRw_takerOfException yRw_takerOfException, .initialized RRw, .code yRw_takerOfException cRw_takerOfException 5 (some .int), .fieldLink RRw 26 "DeclarativeRows" "uses" "LDeclarativeRows$Uses;", .methodLink RRw 125 yUs_firstFor, .instanceMethod yUs_firstFor, .selects RUs yUs_firstFor yUs_firstFor, .initialized RUs, .code yUs_firstFor cUs_firstFor 4 (some .int), .fieldLink RUs 18 "DeclarativeRows$Uses" "size" "I", .fieldLink RUs 9 "DeclarativeRows$Uses" "kinds" "[I", .fieldLink RUs 15 "DeclarativeRows$Uses" "subjects" "[I", .methodLink RUs 22 yUs_isRow, .instanceMethod yUs_isRow, .selects RUs yUs_isRow yUs_isRow, .code yUs_isRow cUs_isRow 2 (some .boolean), .methodLink RRw 128 yTr_above, .instanceMethod yTr_above, .selects RTr yTr_above yTr_above, .code yTr_above cTr_above 2 (some .int), .fieldLink RTr 15 "DeclarativeRows$Tree" "parents" "[I", .methodLink RTr 29 yTr_has, .methodLink RRw 106 yRn_holds, .instanceMethod yRn_holds, .selects RRn yRn_holds yRn_holds, .initialized RRn, .code yRn_holds cRn_holds 3 (some .boolean), .fieldLink RRn 18 "DeclarativeRows$Running" "size" "I", .fieldLink RRn 9 "DeclarativeRows$Running" "takers" "[I", .methodLink RRn 22 yRn_isRow, .instanceMethod yRn_isRow, .selects RRn yRn_isRow yRn_isRow, .code yRn_isRow cRn_isRow 2 (some .boolean), .fieldLink RRn 15 "DeclarativeRows$Running" "places" "[I"] ++ wsRw0 ++ wsTr0 ++ wsUs0 ++ wsRn0)
def wsLt_passTo : List Cond := .code yLt_passTo cLt_passTo 2 (some .int) :: ([.fieldLink RLt 9 "DeclarativeRows$Latest" "number" "I", .fieldLink RLt 21 "DeclarativeRows$Latest" "program" "I"] ++ wsLt0)
def wsRw_propagate : List Cond := .code yRw_propagate cRw_propagate 2 (some .int) :: ([.fieldLink RRw 47 "DeclarativeRows" "latest" "LDeclarativeRows$Latest;", .methodLink RRw 62 yRw_isBelow, .static yRw_isBelow, .initialized RRw, .code yRw_isBelow cRw_isBelow 2 (some .boolean), .methodLink RRw 109 yLt_passTo, .instanceMethod yLt_passTo, .selects RLt yLt_passTo yLt_passTo, .initialized RLt, .code yLt_passTo cLt_passTo 2 (some .int), .fieldLink RLt 9 "DeclarativeRows$Latest" "number" "I", .fieldLink RLt 21 "DeclarativeRows$Latest" "program" "I"] ++ wsRw0 ++ wsLt0)
def wsLt_tell : List Cond := .code yLt_tell cLt_tell 2 (some .int) :: ([.fieldLink RLt 9 "DeclarativeRows$Latest" "number" "I", .fieldLink RLt 15 "DeclarativeRows$Latest" "place" "I", .fieldLink RLt 18 "DeclarativeRows$Latest" "taker" "I", .fieldLink RLt 21 "DeclarativeRows$Latest" "program" "I"] ++ wsLt0)
def wsRw_last : List Cond := .code yRw_last cRw_last 2 (some .int) :: ([.fieldLink RRw 47 "DeclarativeRows" "latest" "LDeclarativeRows$Latest;", .methodLink RRw 112 yLt_tell, .instanceMethod yLt_tell, .selects RLt yLt_tell yLt_tell, .initialized RLt, .code yLt_tell cLt_tell 2 (some .int), .fieldLink RLt 9 "DeclarativeRows$Latest" "number" "I", .fieldLink RLt 15 "DeclarativeRows$Latest" "place" "I", .fieldLink RLt 18 "DeclarativeRows$Latest" "taker" "I", .fieldLink RLt 21 "DeclarativeRows$Latest" "program" "I"] ++ wsRw0 ++ wsLt0)
def wsOm_of : List Cond := .code yOm_of cOm_of 2 (some .int) :: ([.fieldLink ROm 9 "DeclarativeRows$OpenModes" "modes" "[I", .static yRw_isBelow, .initialized RRw, .code yRw_isBelow cRw_isBelow 2 (some .boolean)] ++ wsOm0 ++ wsRw0)
def wsRw_takerOfFile : List Cond := .code yRw_takerOfFile cRw_takerOfFile 3 (some .int) :: ([.fieldLink RRw 26 "DeclarativeRows" "uses" "LDeclarativeRows$Uses;", .fieldLink RRw 33 "DeclarativeRows" "openModes" "LDeclarativeRows$OpenModes;", .methodLink RRw 125 yUs_firstFor, .instanceMethod yUs_firstFor, .selects RUs yUs_firstFor yUs_firstFor, .initialized RUs, .code yUs_firstFor cUs_firstFor 4 (some .int), .fieldLink RUs 18 "DeclarativeRows$Uses" "size" "I", .fieldLink RUs 9 "DeclarativeRows$Uses" "kinds" "[I", .fieldLink RUs 15 "DeclarativeRows$Uses" "subjects" "[I", .methodLink RUs 22 yUs_isRow, .instanceMethod yUs_isRow, .selects RUs yUs_isRow yUs_isRow, .code yUs_isRow cUs_isRow 2 (some .boolean), .methodLink RRw 131 yOm_of, .instanceMethod yOm_of, .selects ROm yOm_of yOm_of, .initialized ROm, .code yOm_of cOm_of 2 (some .int), .fieldLink ROm 9 "DeclarativeRows$OpenModes" "modes" "[I", .static yRw_isBelow, .initialized RRw, .code yRw_isBelow cRw_isBelow 2 (some .boolean)] ++ wsRw0 ++ wsUs0 ++ wsOm0)
def wsRw_status : List Cond := .code yRw_status cRw_status 3 (some .int) :: ([.fieldLink RRw 58 "DeclarativeRows" "ended" "Z", .methodLink RRw 62 yRw_isBelow, .static yRw_isBelow, .initialized RRw, .code yRw_isBelow cRw_isBelow 2 (some .boolean), .methodLink RRw 115 yRw_takerOfFile, .instanceMethod yRw_takerOfFile, .selects RRw yRw_takerOfFile yRw_takerOfFile, .code yRw_takerOfFile cRw_takerOfFile 3 (some .int), .fieldLink RRw 26 "DeclarativeRows" "uses" "LDeclarativeRows$Uses;", .fieldLink RRw 33 "DeclarativeRows" "openModes" "LDeclarativeRows$OpenModes;", .methodLink RRw 125 yUs_firstFor, .instanceMethod yUs_firstFor, .selects RUs yUs_firstFor yUs_firstFor, .initialized RUs, .code yUs_firstFor cUs_firstFor 4 (some .int), .fieldLink RUs 18 "DeclarativeRows$Uses" "size" "I", .fieldLink RUs 9 "DeclarativeRows$Uses" "kinds" "[I", .fieldLink RUs 15 "DeclarativeRows$Uses" "subjects" "[I", .methodLink RUs 22 yUs_isRow, .instanceMethod yUs_isRow, .selects RUs yUs_isRow yUs_isRow, .code yUs_isRow cUs_isRow 2 (some .boolean), .methodLink RRw 131 yOm_of, .instanceMethod yOm_of, .selects ROm yOm_of yOm_of, .initialized ROm, .code yOm_of cOm_of 2 (some .int), .fieldLink ROm 9 "DeclarativeRows$OpenModes" "modes" "[I", .methodLink RRw 92 yRw_come, .instanceMethod yRw_come, .selects RRw yRw_come yRw_come, .code yRw_come cRw_come 5 (some .int), .fieldLink RRw 47 "DeclarativeRows" "latest" "LDeclarativeRows$Latest;", .fieldLink RRw 51 "DeclarativeRows" "raised" "I", .fieldLink RRw 55 "DeclarativeRows" "untaken" "I", .fieldLink RRw 40 "DeclarativeRows" "running" "LDeclarativeRows$Running;", .methodLink RRw 134 yLt_put, .instanceMethod yLt_put, .selects RLt yLt_put yLt_put, .initialized RLt, .code yLt_put cLt_put 4 none, .fieldLink RLt 9 "DeclarativeRows$Latest" "number" "I", .fieldLink RLt 15 "DeclarativeRows$Latest" "place" "I", .fieldLink RLt 18 "DeclarativeRows$Latest" "taker" "I", .fieldLink RLt 21 "DeclarativeRows$Latest" "program" "I", .methodLink RRw 106 yRn_holds, .instanceMethod yRn_holds, .selects RRn yRn_holds yRn_holds, .initialized RRn, .code yRn_holds cRn_holds 3 (some .boolean), .fieldLink RRn 18 "DeclarativeRows$Running" "size" "I", .fieldLink RRn 9 "DeclarativeRows$Running" "takers" "[I", .methodLink RRn 22 yRn_isRow, .instanceMethod yRn_isRow, .selects RRn yRn_isRow yRn_isRow, .code yRn_isRow cRn_isRow 2 (some .boolean), .fieldLink RRn 15 "DeclarativeRows$Running" "places" "[I", .methodLink RRw 137 yRn_start, .instanceMethod yRn_start, .selects RRn yRn_start yRn_start, .code yRn_start cRn_start 3 (some .boolean)] ++ wsRw0 ++ wsUs0 ++ wsOm0 ++ wsLt0 ++ wsRn0)
def wsOm_put : List Cond := .code yOm_put cOm_put 3 none :: ([.fieldLink ROm 9 "DeclarativeRows$OpenModes" "modes" "[I", .static yRw_isBelow, .initialized RRw, .code yRw_isBelow cRw_isBelow 2 (some .boolean)] ++ wsOm0 ++ wsRw0)
def wsRw_mode : List Cond := .code yRw_mode cRw_mode 3 (some .int) :: ([.fieldLink RRw 33 "DeclarativeRows" "openModes" "LDeclarativeRows$OpenModes;", .methodLink RRw 62 yRw_isBelow, .static yRw_isBelow, .initialized RRw, .code yRw_isBelow cRw_isBelow 2 (some .boolean), .methodLink RRw 118 yOm_put, .instanceMethod yOm_put, .selects ROm yOm_put yOm_put, .initialized ROm, .code yOm_put cOm_put 3 none, .fieldLink ROm 9 "DeclarativeRows$OpenModes" "modes" "[I"] ++ wsRw0 ++ wsOm0)
def wsRw_ends : List Cond := .code yRw_ends cRw_ends 1 (some .boolean) :: ([.fieldLink RRw 58 "DeclarativeRows" "ended" "Z"] ++ wsRw0)
def wsTr_size : List Cond := .code yTr_size cTr_size 1 (some .int) :: ([.fieldLink RTr 21 "DeclarativeRows$Tree" "size" "I"] ++ wsTr0)
def wsCk_size : List Cond := .code yCk_size cCk_size 1 (some .int) :: ([.fieldLink RCk 22 "DeclarativeRows$Checks" "size" "I"] ++ wsCk0)
def wsUs_size : List Cond := .code yUs_size cUs_size 1 (some .int) :: ([.fieldLink RUs 18 "DeclarativeRows$Uses" "size" "I"] ++ wsUs0)
def wsRw_count : List Cond := .code yRw_count cRw_count 2 (some .int) :: ([.fieldLink RRw 10 "DeclarativeRows" "tree" "LDeclarativeRows$Tree;", .fieldLink RRw 19 "DeclarativeRows" "checks" "LDeclarativeRows$Checks;", .fieldLink RRw 26 "DeclarativeRows" "uses" "LDeclarativeRows$Uses;", .fieldLink RRw 40 "DeclarativeRows" "running" "LDeclarativeRows$Running;", .fieldLink RRw 51 "DeclarativeRows" "raised" "I", .fieldLink RRw 55 "DeclarativeRows" "untaken" "I", .methodLink RRw 122 yTr_size, .instanceMethod yTr_size, .selects RTr yTr_size yTr_size, .initialized RTr, .code yTr_size cTr_size 1 (some .int), .fieldLink RTr 21 "DeclarativeRows$Tree" "size" "I", .methodLink RRw 123 yCk_size, .instanceMethod yCk_size, .selects RCk yCk_size yCk_size, .initialized RCk, .code yCk_size cCk_size 1 (some .int), .fieldLink RCk 22 "DeclarativeRows$Checks" "size" "I", .methodLink RRw 124 yUs_size, .instanceMethod yUs_size, .selects RUs yUs_size yUs_size, .initialized RUs, .code yUs_size cUs_size 1 (some .int), .fieldLink RUs 18 "DeclarativeRows$Uses" "size" "I", .methodLink RRw 99 yRn_size, .instanceMethod yRn_size, .selects RRn yRn_size yRn_size, .initialized RRn, .code yRn_size cRn_size 1 (some .int), .fieldLink RRn 18 "DeclarativeRows$Running" "size" "I"] ++ wsRw0 ++ wsTr0 ++ wsCk0 ++ wsUs0 ++ wsRn0)
def wsMd_init : List Cond := .code yMd_init cMd_init 2 none :: ([.methodLink RMd 1 objectInit, .instanceMethod objectInit, .code objectInit ⟨#[0xb1]⟩ 1 none, .arrayClass .int, .fieldLink RMd 7 "DeclarativeRowsModel" "levels" "[I", .fieldLink RMd 13 "DeclarativeRowsModel" "names" "[I", .fieldLink RMd 16 "DeclarativeRowsModel" "aboves" "[I", .fieldLink RMd 19 "DeclarativeRowsModel" "checked" "[I", .fieldLink RMd 22 "DeclarativeRowsModel" "froms" "[I", .arrayClass .boolean, .fieldLink RMd 25 "DeclarativeRowsModel" "ons" "[Z", .fieldLink RMd 29 "DeclarativeRowsModel" "kinds" "[I", .fieldLink RMd 32 "DeclarativeRowsModel" "ofs" "[I", .fieldLink RMd 35 "DeclarativeRowsModel" "modes" "[I", .fieldLink RMd 38 "DeclarativeRowsModel" "runs" "[I", .fieldLink RMd 41 "DeclarativeRowsModel" "places" "[I"] ++ wsMd0)
def wsMd_exception : List Cond := .code yMd_exception cMd_exception 5 (some .int) :: ([.fieldLink RMd 44 "DeclarativeRowsModel" "code" "I", .fieldLink RMd 48 "DeclarativeRowsModel" "exceptions" "I", .fieldLink RMd 7 "DeclarativeRowsModel" "levels" "[I", .fieldLink RMd 13 "DeclarativeRowsModel" "names" "[I", .fieldLink RMd 16 "DeclarativeRowsModel" "aboves" "[I"] ++ wsMd0)
def wsMd_isFile : List Cond := .code yMd_isFile cMd_isFile 1 (some .boolean) :: ([] ++ wsMd0)
def wsMd_isException : List Cond := .code yMd_isException cMd_isException 2 (some .boolean) :: ([.fieldLink RMd 48 "DeclarativeRowsModel" "exceptions" "I"] ++ wsMd0)
def wsMd_use : List Cond := .code yMd_use cMd_use 3 (some .int) :: ([.fieldLink RMd 44 "DeclarativeRowsModel" "code" "I", .fieldLink RMd 58 "DeclarativeRowsModel" "uses" "I", .fieldLink RMd 29 "DeclarativeRowsModel" "kinds" "[I", .fieldLink RMd 32 "DeclarativeRowsModel" "ofs" "[I", .methodLink RMd 51 yMd_isFile, .static yMd_isFile, .initialized RMd, .code yMd_isFile cMd_isFile 1 (some .boolean), .methodLink RMd 55 yMd_isException, .instanceMethod yMd_isException, .selects RMd yMd_isException yMd_isException, .code yMd_isException cMd_isException 2 (some .boolean), .fieldLink RMd 48 "DeclarativeRowsModel" "exceptions" "I"] ++ wsMd0)
def wsMd_check : List Cond := .code yMd_check cMd_check 4 (some .int) :: ([.fieldLink RMd 44 "DeclarativeRowsModel" "code" "I", .fieldLink RMd 61 "DeclarativeRowsModel" "checks" "I", .fieldLink RMd 19 "DeclarativeRowsModel" "checked" "[I", .fieldLink RMd 22 "DeclarativeRowsModel" "froms" "[I", .fieldLink RMd 25 "DeclarativeRowsModel" "ons" "[Z", .methodLink RMd 55 yMd_isException, .instanceMethod yMd_isException, .selects RMd yMd_isException yMd_isException, .initialized RMd, .code yMd_isException cMd_isException 2 (some .boolean), .fieldLink RMd 48 "DeclarativeRowsModel" "exceptions" "I"] ++ wsMd0)
def wsMd_mode : List Cond := .code yMd_mode cMd_mode 3 (some .int) :: ([.fieldLink RMd 44 "DeclarativeRowsModel" "code" "I", .fieldLink RMd 35 "DeclarativeRowsModel" "modes" "[I", .methodLink RMd 51 yMd_isFile, .static yMd_isFile, .initialized RMd, .code yMd_isFile cMd_isFile 1 (some .boolean)] ++ wsMd0)
def wsMd_isAt : List Cond := .code yMd_isAt cMd_isAt 4 (some .boolean) :: ([.fieldLink RMd 16 "DeclarativeRowsModel" "aboves" "[I"] ++ wsMd0)
def wsMd_isChecked : List Cond := .code yMd_isChecked cMd_isChecked 6 (some .boolean) :: ([.fieldLink RMd 61 "DeclarativeRowsModel" "checks" "I", .fieldLink RMd 22 "DeclarativeRowsModel" "froms" "[I", .fieldLink RMd 19 "DeclarativeRowsModel" "checked" "[I", .fieldLink RMd 25 "DeclarativeRowsModel" "ons" "[Z", .methodLink RMd 64 yMd_isAt, .instanceMethod yMd_isAt, .selects RMd yMd_isAt yMd_isAt, .initialized RMd, .code yMd_isAt cMd_isAt 4 (some .boolean), .fieldLink RMd 16 "DeclarativeRowsModel" "aboves" "[I"] ++ wsMd0)
def wsMd_first : List Cond := .code yMd_first cMd_first 5 (some .int) :: ([.fieldLink RMd 58 "DeclarativeRowsModel" "uses" "I", .fieldLink RMd 29 "DeclarativeRowsModel" "kinds" "[I", .fieldLink RMd 32 "DeclarativeRowsModel" "ofs" "[I"] ++ wsMd0)
def wsMd_takerOf : List Cond := .code yMd_takerOf cMd_takerOf 4 (some .int) :: ([.fieldLink RMd 16 "DeclarativeRowsModel" "aboves" "[I", .methodLink RMd 68 yMd_first, .instanceMethod yMd_first, .selects RMd yMd_first yMd_first, .initialized RMd, .code yMd_first cMd_first 5 (some .int), .fieldLink RMd 58 "DeclarativeRowsModel" "uses" "I", .fieldLink RMd 29 "DeclarativeRowsModel" "kinds" "[I", .fieldLink RMd 32 "DeclarativeRowsModel" "ofs" "[I"] ++ wsMd0)
def wsMd_isRunning : List Cond := .code yMd_isRunning cMd_isRunning 4 (some .boolean) :: ([.fieldLink RMd 72 "DeclarativeRowsModel" "running" "I", .fieldLink RMd 38 "DeclarativeRowsModel" "runs" "[I"] ++ wsMd0)
def wsMd_come : List Cond := .code yMd_come cMd_come 5 (some .int) :: ([.fieldLink RMd 75 "DeclarativeRowsModel" "raised" "I", .fieldLink RMd 78 "DeclarativeRowsModel" "any" "Z", .fieldLink RMd 82 "DeclarativeRowsModel" "last" "I", .fieldLink RMd 85 "DeclarativeRowsModel" "lastPlace" "I", .fieldLink RMd 88 "DeclarativeRowsModel" "lastTaker" "I", .fieldLink RMd 91 "DeclarativeRowsModel" "program" "I", .fieldLink RMd 94 "DeclarativeRowsModel" "taken" "I", .fieldLink RMd 97 "DeclarativeRowsModel" "ended" "Z", .fieldLink RMd 72 "DeclarativeRowsModel" "running" "I", .fieldLink RMd 38 "DeclarativeRowsModel" "runs" "[I", .fieldLink RMd 41 "DeclarativeRowsModel" "places" "[I", .methodLink RMd 100 yMd_isRunning, .instanceMethod yMd_isRunning, .selects RMd yMd_isRunning yMd_isRunning, .initialized RMd, .code yMd_isRunning cMd_isRunning 4 (some .boolean)] ++ wsMd0)
def wsMd_raise : List Cond := .code yMd_raise cMd_raise 3 (some .int) :: ([.fieldLink RMd 44 "DeclarativeRowsModel" "code" "I", .fieldLink RMd 97 "DeclarativeRowsModel" "ended" "Z", .fieldLink RMd 13 "DeclarativeRowsModel" "names" "[I", .methodLink RMd 55 yMd_isException, .instanceMethod yMd_isException, .selects RMd yMd_isException yMd_isException, .initialized RMd, .code yMd_isException cMd_isException 2 (some .boolean), .fieldLink RMd 48 "DeclarativeRowsModel" "exceptions" "I", .methodLink RMd 103 yMd_isChecked, .instanceMethod yMd_isChecked, .selects RMd yMd_isChecked yMd_isChecked, .code yMd_isChecked cMd_isChecked 6 (some .boolean), .fieldLink RMd 61 "DeclarativeRowsModel" "checks" "I", .fieldLink RMd 22 "DeclarativeRowsModel" "froms" "[I", .fieldLink RMd 19 "DeclarativeRowsModel" "checked" "[I", .fieldLink RMd 25 "DeclarativeRowsModel" "ons" "[Z", .methodLink RMd 64 yMd_isAt, .instanceMethod yMd_isAt, .selects RMd yMd_isAt yMd_isAt, .code yMd_isAt cMd_isAt 4 (some .boolean), .fieldLink RMd 16 "DeclarativeRowsModel" "aboves" "[I", .methodLink RMd 106 yMd_takerOf, .instanceMethod yMd_takerOf, .selects RMd yMd_takerOf yMd_takerOf, .code yMd_takerOf cMd_takerOf 4 (some .int), .methodLink RMd 68 yMd_first, .instanceMethod yMd_first, .selects RMd yMd_first yMd_first, .code yMd_first cMd_first 5 (some .int), .fieldLink RMd 58 "DeclarativeRowsModel" "uses" "I", .fieldLink RMd 29 "DeclarativeRowsModel" "kinds" "[I", .fieldLink RMd 32 "DeclarativeRowsModel" "ofs" "[I", .methodLink RMd 110 yMd_come, .instanceMethod yMd_come, .selects RMd yMd_come yMd_come, .code yMd_come cMd_come 5 (some .int), .fieldLink RMd 75 "DeclarativeRowsModel" "raised" "I", .fieldLink RMd 78 "DeclarativeRowsModel" "any" "Z", .fieldLink RMd 82 "DeclarativeRowsModel" "last" "I", .fieldLink RMd 85 "DeclarativeRowsModel" "lastPlace" "I", .fieldLink RMd 88 "DeclarativeRowsModel" "lastTaker" "I", .fieldLink RMd 91 "DeclarativeRowsModel" "program" "I", .fieldLink RMd 94 "DeclarativeRowsModel" "taken" "I", .fieldLink RMd 72 "DeclarativeRowsModel" "running" "I", .fieldLink RMd 38 "DeclarativeRowsModel" "runs" "[I", .fieldLink RMd 41 "DeclarativeRowsModel" "places" "[I", .methodLink RMd 100 yMd_isRunning, .instanceMethod yMd_isRunning, .selects RMd yMd_isRunning yMd_isRunning, .code yMd_isRunning cMd_isRunning 4 (some .boolean)] ++ wsMd0)
def wsMd_status : List Cond := .code yMd_status cMd_status 4 (some .int) :: ([.fieldLink RMd 44 "DeclarativeRowsModel" "code" "I", .fieldLink RMd 97 "DeclarativeRowsModel" "ended" "Z", .fieldLink RMd 35 "DeclarativeRowsModel" "modes" "[I", .methodLink RMd 51 yMd_isFile, .static yMd_isFile, .initialized RMd, .code yMd_isFile cMd_isFile 1 (some .boolean), .methodLink RMd 68 yMd_first, .instanceMethod yMd_first, .selects RMd yMd_first yMd_first, .code yMd_first cMd_first 5 (some .int), .fieldLink RMd 58 "DeclarativeRowsModel" "uses" "I", .fieldLink RMd 29 "DeclarativeRowsModel" "kinds" "[I", .fieldLink RMd 32 "DeclarativeRowsModel" "ofs" "[I", .methodLink RMd 110 yMd_come, .instanceMethod yMd_come, .selects RMd yMd_come yMd_come, .code yMd_come cMd_come 5 (some .int), .fieldLink RMd 75 "DeclarativeRowsModel" "raised" "I", .fieldLink RMd 78 "DeclarativeRowsModel" "any" "Z", .fieldLink RMd 82 "DeclarativeRowsModel" "last" "I", .fieldLink RMd 85 "DeclarativeRowsModel" "lastPlace" "I", .fieldLink RMd 88 "DeclarativeRowsModel" "lastTaker" "I", .fieldLink RMd 91 "DeclarativeRowsModel" "program" "I", .fieldLink RMd 94 "DeclarativeRowsModel" "taken" "I", .fieldLink RMd 72 "DeclarativeRowsModel" "running" "I", .fieldLink RMd 38 "DeclarativeRowsModel" "runs" "[I", .fieldLink RMd 41 "DeclarativeRowsModel" "places" "[I", .methodLink RMd 100 yMd_isRunning, .instanceMethod yMd_isRunning, .selects RMd yMd_isRunning yMd_isRunning, .code yMd_isRunning cMd_isRunning 4 (some .boolean)] ++ wsMd0)
def wsMd_resume : List Cond := .code yMd_resume cMd_resume 3 (some .int) :: ([.fieldLink RMd 44 "DeclarativeRowsModel" "code" "I", .fieldLink RMd 97 "DeclarativeRowsModel" "ended" "Z", .fieldLink RMd 72 "DeclarativeRowsModel" "running" "I", .fieldLink RMd 38 "DeclarativeRowsModel" "runs" "[I", .fieldLink RMd 41 "DeclarativeRowsModel" "places" "[I"] ++ wsMd0)
def wsMd_propagate : List Cond := .code yMd_propagate cMd_propagate 2 (some .int) :: ([.fieldLink RMd 44 "DeclarativeRowsModel" "code" "I", .fieldLink RMd 78 "DeclarativeRowsModel" "any" "Z", .fieldLink RMd 82 "DeclarativeRowsModel" "last" "I", .fieldLink RMd 91 "DeclarativeRowsModel" "program" "I"] ++ wsMd0)
def wsMd_taken : List Cond := .code yMd_taken cMd_taken 2 (some .int) :: ([.fieldLink RMd 44 "DeclarativeRowsModel" "code" "I", .fieldLink RMd 72 "DeclarativeRowsModel" "running" "I", .fieldLink RMd 38 "DeclarativeRowsModel" "runs" "[I"] ++ wsMd0)
def wsMd_nested : List Cond := .code yMd_nested cMd_nested 3 (some .int) :: ([.fieldLink RMd 44 "DeclarativeRowsModel" "code" "I", .methodLink RMd 55 yMd_isException, .instanceMethod yMd_isException, .selects RMd yMd_isException yMd_isException, .initialized RMd, .code yMd_isException cMd_isException 2 (some .boolean), .fieldLink RMd 48 "DeclarativeRowsModel" "exceptions" "I", .methodLink RMd 106 yMd_takerOf, .instanceMethod yMd_takerOf, .selects RMd yMd_takerOf yMd_takerOf, .code yMd_takerOf cMd_takerOf 4 (some .int), .fieldLink RMd 16 "DeclarativeRowsModel" "aboves" "[I", .methodLink RMd 68 yMd_first, .instanceMethod yMd_first, .selects RMd yMd_first yMd_first, .code yMd_first cMd_first 5 (some .int), .fieldLink RMd 58 "DeclarativeRowsModel" "uses" "I", .fieldLink RMd 29 "DeclarativeRowsModel" "kinds" "[I", .fieldLink RMd 32 "DeclarativeRowsModel" "ofs" "[I", .methodLink RMd 100 yMd_isRunning, .instanceMethod yMd_isRunning, .selects RMd yMd_isRunning yMd_isRunning, .code yMd_isRunning cMd_isRunning 4 (some .boolean), .fieldLink RMd 72 "DeclarativeRowsModel" "running" "I", .fieldLink RMd 38 "DeclarativeRowsModel" "runs" "[I"] ++ wsMd0)
def wsMd_last : List Cond := .code yMd_last cMd_last 2 (some .int) :: ([.fieldLink RMd 44 "DeclarativeRowsModel" "code" "I", .fieldLink RMd 78 "DeclarativeRowsModel" "any" "Z", .fieldLink RMd 82 "DeclarativeRowsModel" "last" "I", .fieldLink RMd 85 "DeclarativeRowsModel" "lastPlace" "I", .fieldLink RMd 88 "DeclarativeRowsModel" "lastTaker" "I", .fieldLink RMd 91 "DeclarativeRowsModel" "program" "I"] ++ wsMd0)
def wsMd_ends : List Cond := .code yMd_ends cMd_ends 1 (some .boolean) :: ([.fieldLink RMd 44 "DeclarativeRowsModel" "code" "I", .fieldLink RMd 97 "DeclarativeRowsModel" "ended" "Z"] ++ wsMd0)
def wsMd_count : List Cond := .code yMd_count cMd_count 2 (some .int) :: ([.fieldLink RMd 44 "DeclarativeRowsModel" "code" "I", .fieldLink RMd 48 "DeclarativeRowsModel" "exceptions" "I", .fieldLink RMd 61 "DeclarativeRowsModel" "checks" "I", .fieldLink RMd 58 "DeclarativeRowsModel" "uses" "I", .fieldLink RMd 72 "DeclarativeRowsModel" "running" "I", .fieldLink RMd 75 "DeclarativeRowsModel" "raised" "I", .fieldLink RMd 94 "DeclarativeRowsModel" "taken" "I"] ++ wsMd0)
set_option maxRecDepth 20000 in
theorem gRw_init_Tr_init : GoodIn wsRw_init (wsTr_init) := goodIn_p _ [32, 3] rfl (by decide +kernel)
set_option maxRecDepth 20000 in
theorem gRw_init_Ck_init : GoodIn wsRw_init (wsCk_init) := goodIn_p _ [40, 3] rfl (by decide +kernel)
set_option maxRecDepth 20000 in
theorem gRw_init_Us_init : GoodIn wsRw_init (wsUs_init) := goodIn_p _ [48, 3] rfl (by decide +kernel)
set_option maxRecDepth 20000 in
theorem gRw_init_Om_init : GoodIn wsRw_init (wsOm_init) := goodIn_p _ [55, 3] rfl (by decide +kernel)
set_option maxRecDepth 20000 in
theorem gRw_init_Rn_init : GoodIn wsRw_init (wsRn_init) := goodIn_p _ [59, 3] rfl (by decide +kernel)
set_option maxRecDepth 20000 in
theorem gRw_init_Lt_init : GoodIn wsRw_init (wsLt_init) := goodIn_p _ [65, 3] rfl (by decide +kernel)
set_option maxRecDepth 20000 in
theorem gTr_add_Tr_latestOf : GoodIn wsTr_add (wsV RTr 25 RTr yTr_latestOf wsTr_latestOf) := goodIn_p _ [9] rfl (by decide +kernel)
set_option maxRecDepth 20000 in
theorem gRw_exception_Rw_isBelow : GoodIn wsRw_exception (va_wsS RRw 62 yRw_isBelow wsRw_isBelow) := goodIn_p _ [5] rfl (by decide +kernel)
set_option maxRecDepth 20000 in
theorem gRw_exception_Tr_latestOf : GoodIn wsRw_exception (wsV RRw 66 RTr yTr_latestOf wsTr_latestOf) := goodIn_p _ [10] rfl (by decide +kernel)
set_option maxRecDepth 20000 in
theorem gRw_exception_Tr_add : GoodIn wsRw_exception (wsV RRw 70 RTr yTr_add wsTr_add) := goodIn_p _ [15, 10] rfl (by decide +kernel)
set_option maxRecDepth 20000 in
theorem gUs_add_Us_isRow : GoodIn wsUs_add (wsV RUs 22 RUs yUs_isRow wsUs_isRow) := goodIn_p _ [8] rfl (by decide +kernel)
set_option maxRecDepth 20000 in
theorem gRw_use_Tr_has : GoodIn wsRw_use (wsV RRw 74 RTr yTr_has wsTr_has) := goodIn_p _ [7] rfl (by decide +kernel)
set_option maxRecDepth 20000 in
theorem gRw_use_Us_add : GoodIn wsRw_use (wsV RRw 78 RUs yUs_add wsUs_add) := goodIn_p _ [14, 21] rfl (by decide +kernel)
set_option maxRecDepth 20000 in
theorem gRw_use_Rw_isBelow : GoodIn wsRw_use (va_wsS RRw 62 yRw_isBelow wsRw_isBelow) := goodIn_p _ [25] rfl (by decide +kernel)
set_option maxRecDepth 20000 in
theorem gCk_add_Ck_isRow : GoodIn wsCk_add (wsV RCk 26 RCk yCk_isRow wsCk_isRow) := goodIn_p _ [9] rfl (by decide +kernel)
set_option maxRecDepth 20000 in
theorem gRw_check_Tr_has : GoodIn wsRw_check (wsV RRw 74 RTr yTr_has wsTr_has) := goodIn_p _ [7] rfl (by decide +kernel)
set_option maxRecDepth 20000 in
theorem gRw_check_Rw_isBelow : GoodIn wsRw_check (va_wsS RRw 62 yRw_isBelow wsRw_isBelow) := goodIn_p _ [13] rfl (by decide +kernel)
set_option maxRecDepth 20000 in
theorem gRw_check_Ck_add : GoodIn wsRw_check (wsV RRw 79 RCk yCk_add wsCk_add) := goodIn_p _ [18, 26] rfl (by decide +kernel)
set_option maxRecDepth 20000 in
theorem gTr_above_Tr_has : GoodIn wsTr_above (wsV RTr 29 RTr yTr_has wsTr_has) := goodIn_p _ [6] rfl (by decide +kernel)
set_option maxRecDepth 20000 in
theorem gTr_isSameOrAbove_Tr_has : GoodIn wsTr_isSameOrAbove (wsV RTr 29 RTr yTr_has wsTr_has) := goodIn_p _ [5] rfl (by decide +kernel)
set_option maxRecDepth 20000 in
theorem gTr_isSameOrAbove_Tr_above : GoodIn wsTr_isSameOrAbove (wsV RTr 33 RTr yTr_above wsTr_above) := goodIn_p _ [11, 5] rfl (by decide +kernel)
set_option maxRecDepth 20000 in
theorem gCk_areOn_Ck_isRow : GoodIn wsCk_areOn (wsV RCk 26 RCk yCk_isRow wsCk_isRow) := goodIn_p _ [9] rfl (by decide +kernel)
set_option maxRecDepth 20000 in
theorem gCk_areOn_Tr_isSameOrAbove : GoodIn wsCk_areOn (wsV RCk 30 RTr yTr_isSameOrAbove wsTr_isSameOrAbove) := goodIn_p _ [14, 18, 24] rfl (by decide +kernel)
set_option maxRecDepth 20000 in
theorem gUs_firstFor_Us_isRow : GoodIn wsUs_firstFor (wsV RUs 22 RUs yUs_isRow wsUs_isRow) := goodIn_p _ [8] rfl (by decide +kernel)
set_option maxRecDepth 20000 in
theorem gRw_takerOfException_Tr_has : GoodIn wsRw_takerOfException (wsV RRw 74 RTr yTr_has wsTr_has) := goodIn_p _ [7] rfl (by decide +kernel)
set_option maxRecDepth 20000 in
theorem gRw_takerOfException_Us_firstFor : GoodIn wsRw_takerOfException (wsV RRw 125 RUs yUs_firstFor wsUs_firstFor) := goodIn_p _ [14, 21] rfl (by decide +kernel)
set_option maxRecDepth 20000 in
theorem gRw_takerOfException_Tr_above : GoodIn wsRw_takerOfException (wsV RRw 128 RTr yTr_above wsTr_above) := goodIn_p _ [25, 7] rfl (by decide +kernel)
set_option maxRecDepth 20000 in
theorem gTr_isFatal_Tr_has : GoodIn wsTr_isFatal (wsV RTr 29 RTr yTr_has wsTr_has) := goodIn_p _ [6] rfl (by decide +kernel)
set_option maxRecDepth 20000 in
theorem gRn_holds_Rn_isRow : GoodIn wsRn_holds (wsV RRn 22 RRn yRn_isRow wsRn_isRow) := goodIn_p _ [7] rfl (by decide +kernel)
set_option maxRecDepth 20000 in
theorem gRn_start_Rn_isRow : GoodIn wsRn_start (wsV RRn 22 RRn yRn_isRow wsRn_isRow) := goodIn_p _ [8] rfl (by decide +kernel)
set_option maxRecDepth 20000 in
theorem gRw_come_Lt_put : GoodIn wsRw_come (wsV RRw 134 RLt yLt_put wsLt_put) := goodIn_p _ [10] rfl (by decide +kernel)
set_option maxRecDepth 20000 in
theorem gRw_come_Rn_holds : GoodIn wsRw_come (wsV RRw 106 RRn yRn_holds wsRn_holds) := goodIn_p _ [19, 25] rfl (by decide +kernel)
set_option maxRecDepth 20000 in
theorem gRw_come_Rn_start : GoodIn wsRw_come (wsV RRw 137 RRn yRn_start wsRn_start) := goodIn_p _ [30, 25] rfl (by decide +kernel)
set_option maxRecDepth 20000 in
theorem gRw_raise_Tr_has : GoodIn wsRw_raise (wsV RRw 74 RTr yTr_has wsTr_has) := goodIn_p _ [8] rfl (by decide +kernel)
set_option maxRecDepth 20000 in
theorem gRw_raise_Rw_isBelow : GoodIn wsRw_raise (va_wsS RRw 62 yRw_isBelow wsRw_isBelow) := goodIn_p _ [14] rfl (by decide +kernel)
set_option maxRecDepth 20000 in
theorem gRw_raise_Ck_areOn : GoodIn wsRw_raise (wsV RRw 82 RCk yCk_areOn wsCk_areOn) := goodIn_p _ [19, 27, 31, 8, 36] rfl (by decide +kernel)
set_option maxRecDepth 20000 in
theorem gRw_raise_Rw_takerOfException : GoodIn wsRw_raise (wsV RRw 86 RRw yRw_takerOfException wsRw_takerOfException) := goodIn_p _ [41, 8, 47, 54, 36] rfl (by decide +kernel)
set_option maxRecDepth 20000 in
theorem gRw_raise_Tr_isFatal : GoodIn wsRw_raise (wsV RRw 89 RTr yTr_isFatal wsTr_isFatal) := goodIn_p _ [59, 8] rfl (by decide +kernel)
set_option maxRecDepth 20000 in
theorem gRw_raise_Rw_come : GoodIn wsRw_raise (wsV RRw 92 RRw yRw_come wsRw_come) := goodIn_p _ [63, 72, 81, 87, 92] rfl (by decide +kernel)
set_option maxRecDepth 20000 in
theorem gRn_useAt_Rw_isBelow : GoodIn wsRn_useAt (wsRw_isBelow) := goodIn_p _ [5] rfl (by decide +kernel)
set_option maxRecDepth 20000 in
theorem gRn_useAt_Rn_isRow : GoodIn wsRn_useAt (wsV RRn 22 RRn yRn_isRow wsRn_isRow) := goodIn_p _ [10] rfl (by decide +kernel)
set_option maxRecDepth 20000 in
theorem gRw_taken_Rn_useAt : GoodIn wsRw_taken (wsV RRw 96 RRn yRn_useAt wsRn_useAt) := goodIn_p _ [6, 11, 15] rfl (by decide +kernel)
set_option maxRecDepth 20000 in
theorem gRn_endLatest_Rn_isRow : GoodIn wsRn_endLatest (wsV RRn 22 RRn yRn_isRow wsRn_isRow) := goodIn_p _ [7] rfl (by decide +kernel)
set_option maxRecDepth 20000 in
theorem gRw_resume_Rw_isBelow : GoodIn wsRw_resume (va_wsS RRw 62 yRw_isBelow wsRw_isBelow) := goodIn_p _ [6] rfl (by decide +kernel)
set_option maxRecDepth 20000 in
theorem gRw_resume_Rn_size : GoodIn wsRw_resume (wsV RRw 99 RRn yRn_size wsRn_size) := goodIn_p _ [11] rfl (by decide +kernel)
set_option maxRecDepth 20000 in
theorem gRw_resume_Rn_useAt : GoodIn wsRw_resume (wsV RRw 96 RRn yRn_useAt wsRn_useAt) := goodIn_p _ [16, 6, 21] rfl (by decide +kernel)
set_option maxRecDepth 20000 in
theorem gRw_resume_Rn_endLatest : GoodIn wsRw_resume (wsV RRw 103 RRn yRn_endLatest wsRn_endLatest) := goodIn_p _ [26, 21] rfl (by decide +kernel)
set_option maxRecDepth 20000 in
theorem gRw_nested_Tr_has : GoodIn wsRw_nested (wsV RRw 74 RTr yTr_has wsTr_has) := goodIn_p _ [7] rfl (by decide +kernel)
set_option maxRecDepth 20000 in
theorem gRw_nested_Rw_takerOfException : GoodIn wsRw_nested (wsV RRw 86 RRw yRw_takerOfException wsRw_takerOfException) := goodIn_p _ [14, 7, 20, 27, 31] rfl (by decide +kernel)
set_option maxRecDepth 20000 in
theorem gRw_nested_Rn_holds : GoodIn wsRw_nested (wsV RRw 106 RRn yRn_holds wsRn_holds) := goodIn_p _ [38, 44] rfl (by decide +kernel)
set_option maxRecDepth 20000 in
theorem gRw_propagate_Rw_isBelow : GoodIn wsRw_propagate (va_wsS RRw 62 yRw_isBelow wsRw_isBelow) := goodIn_p _ [5] rfl (by decide +kernel)
set_option maxRecDepth 20000 in
theorem gRw_propagate_Lt_passTo : GoodIn wsRw_propagate (wsV RRw 109 RLt yLt_passTo wsLt_passTo) := goodIn_p _ [10] rfl (by decide +kernel)
set_option maxRecDepth 20000 in
theorem gRw_last_Lt_tell : GoodIn wsRw_last (wsV RRw 112 RLt yLt_tell wsLt_tell) := goodIn_p _ [6] rfl (by decide +kernel)
set_option maxRecDepth 20000 in
theorem gOm_of_Rw_isBelow : GoodIn wsOm_of (wsRw_isBelow) := goodIn_p _ [4] rfl (by decide +kernel)
set_option maxRecDepth 20000 in
theorem gRw_takerOfFile_Us_firstFor : GoodIn wsRw_takerOfFile (wsV RRw 125 RUs yUs_firstFor wsUs_firstFor) := goodIn_p _ [7, 14] rfl (by decide +kernel)
set_option maxRecDepth 20000 in
theorem gRw_takerOfFile_Om_of : GoodIn wsRw_takerOfFile (wsV RRw 131 ROm yOm_of wsOm_of) := goodIn_p _ [19, 23] rfl (by decide +kernel)
set_option maxRecDepth 20000 in
theorem gRw_status_Rw_isBelow : GoodIn wsRw_status (va_wsS RRw 62 yRw_isBelow wsRw_isBelow) := goodIn_p _ [5] rfl (by decide +kernel)
set_option maxRecDepth 20000 in
theorem gRw_status_Rw_takerOfFile : GoodIn wsRw_status (wsV RRw 115 RRw yRw_takerOfFile wsRw_takerOfFile) := goodIn_p _ [9, 16, 23, 28, 5] rfl (by decide +kernel)
set_option maxRecDepth 20000 in
theorem gRw_status_Rw_come : GoodIn wsRw_status (wsV RRw 92 RRw yRw_come wsRw_come) := goodIn_p _ [33, 42, 51, 57, 62] rfl (by decide +kernel)
set_option maxRecDepth 20000 in
theorem gOm_put_Rw_isBelow : GoodIn wsOm_put (wsRw_isBelow) := goodIn_p _ [4] rfl (by decide +kernel)
set_option maxRecDepth 20000 in
theorem gRw_mode_Rw_isBelow : GoodIn wsRw_mode (va_wsS RRw 62 yRw_isBelow wsRw_isBelow) := goodIn_p _ [5] rfl (by decide +kernel)
set_option maxRecDepth 20000 in
theorem gRw_mode_Om_put : GoodIn wsRw_mode (wsV RRw 118 ROm yOm_put wsOm_put) := goodIn_p _ [10, 5] rfl (by decide +kernel)
set_option maxRecDepth 20000 in
theorem gRw_count_Tr_size : GoodIn wsRw_count (wsV RRw 122 RTr yTr_size wsTr_size) := goodIn_p _ [11] rfl (by decide +kernel)
set_option maxRecDepth 20000 in
theorem gRw_count_Ck_size : GoodIn wsRw_count (wsV RRw 123 RCk yCk_size wsCk_size) := goodIn_p _ [17] rfl (by decide +kernel)
set_option maxRecDepth 20000 in
theorem gRw_count_Us_size : GoodIn wsRw_count (wsV RRw 124 RUs yUs_size wsUs_size) := goodIn_p _ [23] rfl (by decide +kernel)
set_option maxRecDepth 20000 in
theorem gRw_count_Rn_size : GoodIn wsRw_count (wsV RRw 99 RRn yRn_size wsRn_size) := goodIn_p _ [29] rfl (by decide +kernel)
set_option maxRecDepth 20000 in
theorem gMd_use_Md_isFile : GoodIn wsMd_use (va_wsS RMd 51 yMd_isFile wsMd_isFile) := goodIn_p _ [8] rfl (by decide +kernel)
set_option maxRecDepth 20000 in
theorem gMd_use_Md_isException : GoodIn wsMd_use (wsV RMd 55 RMd yMd_isException wsMd_isException) := goodIn_p _ [12] rfl (by decide +kernel)
set_option maxRecDepth 20000 in
theorem gMd_check_Md_isException : GoodIn wsMd_check (wsV RMd 55 RMd yMd_isException wsMd_isException) := goodIn_p _ [10] rfl (by decide +kernel)
set_option maxRecDepth 20000 in
theorem gMd_mode_Md_isFile : GoodIn wsMd_mode (va_wsS RMd 51 yMd_isFile wsMd_isFile) := goodIn_p _ [6] rfl (by decide +kernel)
set_option maxRecDepth 20000 in
theorem gMd_isChecked_Md_isAt : GoodIn wsMd_isChecked (wsV RMd 64 RMd yMd_isAt wsMd_isAt) := goodIn_p _ [9] rfl (by decide +kernel)
set_option maxRecDepth 20000 in
theorem gMd_takerOf_Md_first : GoodIn wsMd_takerOf (wsV RMd 68 RMd yMd_first wsMd_first) := goodIn_p _ [6] rfl (by decide +kernel)
set_option maxRecDepth 20000 in
theorem gMd_come_Md_isRunning : GoodIn wsMd_come (wsV RMd 100 RMd yMd_isRunning wsMd_isRunning) := goodIn_p _ [16] rfl (by decide +kernel)
set_option maxRecDepth 20000 in
theorem gMd_raise_Md_isException : GoodIn wsMd_raise (wsV RMd 55 RMd yMd_isException wsMd_isException) := goodIn_p _ [8] rfl (by decide +kernel)
set_option maxRecDepth 20000 in
theorem gMd_raise_Md_isChecked : GoodIn wsMd_raise (wsV RMd 103 RMd yMd_isChecked wsMd_isChecked) := goodIn_p _ [13, 21] rfl (by decide +kernel)
set_option maxRecDepth 20000 in
theorem gMd_raise_Md_takerOf : GoodIn wsMd_raise (wsV RMd 106 RMd yMd_takerOf wsMd_takerOf) := goodIn_p _ [26, 30] rfl (by decide +kernel)
set_option maxRecDepth 20000 in
theorem gMd_raise_Md_come : GoodIn wsMd_raise (wsV RMd 110 RMd yMd_come wsMd_come) := goodIn_p _ [37, 51] rfl (by decide +kernel)
set_option maxRecDepth 20000 in
theorem gMd_status_Md_isFile : GoodIn wsMd_status (va_wsS RMd 51 yMd_isFile wsMd_isFile) := goodIn_p _ [7] rfl (by decide +kernel)
set_option maxRecDepth 20000 in
theorem gMd_status_Md_first : GoodIn wsMd_status (wsV RMd 68 RMd yMd_first wsMd_first) := goodIn_p _ [11] rfl (by decide +kernel)
set_option maxRecDepth 20000 in
theorem gMd_status_Md_come : GoodIn wsMd_status (wsV RMd 110 RMd yMd_come wsMd_come) := goodIn_p _ [18, 32] rfl (by decide +kernel)
set_option maxRecDepth 20000 in
theorem gMd_nested_Md_isException : GoodIn wsMd_nested (wsV RMd 55 RMd yMd_isException wsMd_isException) := goodIn_p _ [6] rfl (by decide +kernel)
set_option maxRecDepth 20000 in
theorem gMd_nested_Md_takerOf : GoodIn wsMd_nested (wsV RMd 106 RMd yMd_takerOf wsMd_takerOf) := goodIn_p _ [11, 16] rfl (by decide +kernel)
set_option maxRecDepth 20000 in
theorem gMd_nested_Md_isRunning : GoodIn wsMd_nested (wsV RMd 100 RMd yMd_isRunning wsMd_isRunning) := goodIn_p _ [23] rfl (by decide +kernel)
abbrev vwCl : List vw_C := [(RTr, TTr, 4), (RCk, TCk, 4), (RUs, TUs, 3), (ROm, TOm, 1), (RRn, TRn, 3), (RLt, TLt, 4), (RRw, TRw, 9), (RMd, TMd, 24)]
