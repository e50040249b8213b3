section
-- ===== PART A: goes FIRST, ahead of the names: the tables' words, and 'selects' of the private methods out of them =====
/-- a private method of a class that the tables say can be made, by its rows of tables_1 -/
def lw_okq (q : MethodName × Nat) : Prop := (q.1.cls ≠ "java/lang/invoke/MethodHandle" ∧ q.1.cls ≠ "java/lang/invoke/VarHandle") ∧ Cond.instantiable q.1.cls q.2 ∈ tables_1 ∧ Cond.privateMethod q.1 ∈ tables_1 ∧ Cond.instanceMethod q.1 ∈ tables_1
theorem lw_p0 : lw_okq (⟨"DawnTales", "startAnew", "()V"⟩, 11) := ⟨⟨by decide +kernel, by decide +kernel⟩, List.mem_of_getElem? (i := 19) (by decide +kernel), List.mem_of_getElem? (i := 294) (by decide +kernel), List.mem_of_getElem? (i := 295) (by decide +kernel)⟩
theorem lw_p1 : lw_okq (⟨"DawnTales", "isAsHeard", "(I)Z"⟩, 11) := ⟨⟨by decide +kernel, by decide +kernel⟩, List.mem_of_getElem? (i := 19) (by decide +kernel), List.mem_of_getElem? (i := 747) (by decide +kernel), List.mem_of_getElem? (i := 748) (by decide +kernel)⟩
theorem lw_p2 : lw_okq (⟨"DawnTalesModel", "plain", "()V"⟩, 37) := ⟨⟨by decide +kernel, by decide +kernel⟩, List.mem_of_getElem? (i := 831) (by decide +kernel), List.mem_of_getElem? (i := 837) (by decide +kernel), List.mem_of_getElem? (i := 838) (by decide +kernel)⟩
theorem lw_p3 : lw_okq (⟨"DawnTalesModel", "takes", "()V"⟩, 37) := ⟨⟨by decide +kernel, by decide +kernel⟩, List.mem_of_getElem? (i := 831) (by decide +kernel), List.mem_of_getElem? (i := 841) (by decide +kernel), List.mem_of_getElem? (i := 842) (by decide +kernel)⟩
theorem lw_p4 : lw_okq (⟨"DawnTalesModel", "beginsAnew", "()V"⟩, 37) := ⟨⟨by decide +kernel, by decide +kernel⟩, List.mem_of_getElem? (i := 831) (by decide +kernel), List.mem_of_getElem? (i := 845) (by decide +kernel), List.mem_of_getElem? (i := 846) (by decide +kernel)⟩
theorem lw_p5 : lw_okq (⟨"DawnTalesModel", "hoursOf", "(I)I"⟩, 37) := ⟨⟨by decide +kernel, by decide +kernel⟩, List.mem_of_getElem? (i := 831) (by decide +kernel), List.mem_of_getElem? (i := 849) (by decide +kernel), List.mem_of_getElem? (i := 850) (by decide +kernel)⟩
theorem lw_p6 : lw_okq (⟨"DawnTalesModel", "reads", "()V"⟩, 37) := ⟨⟨by decide +kernel, by decide +kernel⟩, List.mem_of_getElem? (i := 831) (by decide +kernel), List.mem_of_getElem? (i := 981) (by decide +kernel), List.mem_of_getElem? (i := 982) (by decide +kernel)⟩
theorem lw_p7 : lw_okq (⟨"DawnTalesModel", "readLetters", "()V"⟩, 37) := ⟨⟨by decide +kernel, by decide +kernel⟩, List.mem_of_getElem? (i := 831) (by decide +kernel), List.mem_of_getElem? (i := 990) (by decide +kernel), List.mem_of_getElem? (i := 991) (by decide +kernel)⟩
theorem lw_p8 : lw_okq (⟨"DawnTalesModel", "readNumber", "()V"⟩, 37) := ⟨⟨by decide +kernel, by decide +kernel⟩, List.mem_of_getElem? (i := 831) (by decide +kernel), List.mem_of_getElem? (i := 999) (by decide +kernel), List.mem_of_getElem? (i := 1000) (by decide +kernel)⟩
theorem lw_p9 : lw_okq (⟨"DawnTalesModel", "readItem", "()Z"⟩, 37) := ⟨⟨by decide +kernel, by decide +kernel⟩, List.mem_of_getElem? (i := 831) (by decide +kernel), List.mem_of_getElem? (i := 1003) (by decide +kernel), List.mem_of_getElem? (i := 1004) (by decide +kernel)⟩
theorem lw_p10 : lw_okq (⟨"DawnTalesModel", "readTale", "()Z"⟩, 37) := ⟨⟨by decide +kernel, by decide +kernel⟩, List.mem_of_getElem? (i := 831) (by decide +kernel), List.mem_of_getElem? (i := 1007) (by decide +kernel), List.mem_of_getElem? (i := 1008) (by decide +kernel)⟩
theorem lw_p11 : lw_okq (⟨"DawnTalesModel", "number", "(II)Z"⟩, 37) := ⟨⟨by decide +kernel, by decide +kernel⟩, List.mem_of_getElem? (i := 831) (by decide +kernel), List.mem_of_getElem? (i := 1011) (by decide +kernel), List.mem_of_getElem? (i := 1012) (by decide +kernel)⟩
theorem lw_p12 : lw_okq (⟨"DawnTalesModel", "readNights", "()Z"⟩, 37) := ⟨⟨by decide +kernel, by decide +kernel⟩, List.mem_of_getElem? (i := 831) (by decide +kernel), List.mem_of_getElem? (i := 1015) (by decide +kernel), List.mem_of_getElem? (i := 1016) (by decide +kernel)⟩
theorem lw_p13 : lw_okq (⟨"DawnTalesModel", "isTale", "(I)Z"⟩, 37) := ⟨⟨by decide +kernel, by decide +kernel⟩, List.mem_of_getElem? (i := 831) (by decide +kernel), List.mem_of_getElem? (i := 1024) (by decide +kernel), List.mem_of_getElem? (i := 1025) (by decide +kernel)⟩
theorem lw_p14 : lw_okq (⟨"DawnTalesModel", "has", "()Z"⟩, 37) := ⟨⟨by decide +kernel, by decide +kernel⟩, List.mem_of_getElem? (i := 831) (by decide +kernel), List.mem_of_getElem? (i := 1037) (by decide +kernel), List.mem_of_getElem? (i := 1038) (by decide +kernel)⟩
theorem lw_p15 : lw_okq (⟨"DawnTalesModel", "mayBegin", "([II)Z"⟩, 37) := ⟨⟨by decide +kernel, by decide +kernel⟩, List.mem_of_getElem? (i := 831) (by decide +kernel), List.mem_of_getElem? (i := 1041) (by decide +kernel), List.mem_of_getElem? (i := 1042) (by decide +kernel)⟩
def lw_privs_1 : List (MethodName × Nat) := [(⟨"DawnTales", "startAnew", "()V"⟩, 11), (⟨"DawnTales", "isAsHeard", "(I)Z"⟩, 11), (⟨"DawnTalesModel", "plain", "()V"⟩, 37), (⟨"DawnTalesModel", "takes", "()V"⟩, 37), (⟨"DawnTalesModel", "beginsAnew", "()V"⟩, 37), (⟨"DawnTalesModel", "hoursOf", "(I)I"⟩, 37), (⟨"DawnTalesModel", "reads", "()V"⟩, 37), (⟨"DawnTalesModel", "readLetters", "()V"⟩, 37), (⟨"DawnTalesModel", "readNumber", "()V"⟩, 37), (⟨"DawnTalesModel", "readItem", "()Z"⟩, 37), (⟨"DawnTalesModel", "readTale", "()Z"⟩, 37), (⟨"DawnTalesModel", "number", "(II)Z"⟩, 37), (⟨"DawnTalesModel", "readNights", "()Z"⟩, 37), (⟨"DawnTalesModel", "isTale", "(I)Z"⟩, 37), (⟨"DawnTalesModel", "has", "()Z"⟩, 37), (⟨"DawnTalesModel", "mayBegin", "([II)Z"⟩, 37)]
theorem lw_r1 : ∀ q ∈ lw_privs_1, lw_okq q := List.forall_mem_cons.mpr ⟨lw_p0, List.forall_mem_cons.mpr ⟨lw_p1, List.forall_mem_cons.mpr ⟨lw_p2, List.forall_mem_cons.mpr ⟨lw_p3, List.forall_mem_cons.mpr ⟨lw_p4, List.forall_mem_cons.mpr ⟨lw_p5, List.forall_mem_cons.mpr ⟨lw_p6, List.forall_mem_cons.mpr ⟨lw_p7, List.forall_mem_cons.mpr ⟨lw_p8, List.forall_mem_cons.mpr ⟨lw_p9, List.forall_mem_cons.mpr ⟨lw_p10, List.forall_mem_cons.mpr ⟨lw_p11, List.forall_mem_cons.mpr ⟨lw_p12, List.forall_mem_cons.mpr ⟨lw_p13, List.forall_mem_cons.mpr ⟨lw_p14, List.forall_mem_cons.mpr ⟨lw_p15, fun _ h => absurd h List.not_mem_nil⟩⟩⟩⟩⟩⟩⟩⟩⟩⟩⟩⟩⟩⟩⟩⟩
theorem lw_p16 : lw_okq (⟨"DawnTalesModel", "notes", "()V"⟩, 37) := ⟨⟨by decide +kernel, by decide +kernel⟩, List.mem_of_getElem? (i := 831) (by decide +kernel), List.mem_of_getElem? (i := 1048) (by decide +kernel), List.mem_of_getElem? (i := 1049) (by decide +kernel)⟩
theorem lw_p17 : lw_okq (⟨"DawnTalesModel", "dawns", "([I)Z"⟩, 37) := ⟨⟨by decide +kernel, by decide +kernel⟩, List.mem_of_getElem? (i := 831) (by decide +kernel), List.mem_of_getElem? (i := 1070) (by decide +kernel), List.mem_of_getElem? (i := 1071) (by decide +kernel)⟩
theorem lw_p18 : lw_okq (⟨"DawnTalesModel", "saves", "()I"⟩, 37) := ⟨⟨by decide +kernel, by decide +kernel⟩, List.mem_of_getElem? (i := 831) (by decide +kernel), List.mem_of_getElem? (i := 1091) (by decide +kernel), List.mem_of_getElem? (i := 1092) (by decide +kernel)⟩
theorem lw_p19 : lw_okq (⟨"DawnTalesModel", "finds", "()V"⟩, 37) := ⟨⟨by decide +kernel, by decide +kernel⟩, List.mem_of_getElem? (i := 831) (by decide +kernel), List.mem_of_getElem? (i := 1099) (by decide +kernel), List.mem_of_getElem? (i := 1100) (by decide +kernel)⟩
theorem lw_p20 : lw_okq (⟨"DawnTalesModel", "starts", "(I)Z"⟩, 37) := ⟨⟨by decide +kernel, by decide +kernel⟩, List.mem_of_getElem? (i := 831) (by decide +kernel), List.mem_of_getElem? (i := 1103) (by decide +kernel), List.mem_of_getElem? (i := 1104) (by decide +kernel)⟩
theorem lw_p21 : lw_okq (⟨"DawnTalesModel", "fills", "(I)Z"⟩, 37) := ⟨⟨by decide +kernel, by decide +kernel⟩, List.mem_of_getElem? (i := 831) (by decide +kernel), List.mem_of_getElem? (i := 1107) (by decide +kernel), List.mem_of_getElem? (i := 1108) (by decide +kernel)⟩
theorem lw_p22 : lw_okq (⟨"DawnTalesModel", "isMet", "(I)Z"⟩, 37) := ⟨⟨by decide +kernel, by decide +kernel⟩, List.mem_of_getElem? (i := 831) (by decide +kernel), List.mem_of_getElem? (i := 1111) (by decide +kernel), List.mem_of_getElem? (i := 1112) (by decide +kernel)⟩
theorem lw_p23 : lw_okq (⟨"DawnTalesModel", "code", "()I"⟩, 37) := ⟨⟨by decide +kernel, by decide +kernel⟩, List.mem_of_getElem? (i := 831) (by decide +kernel), List.mem_of_getElem? (i := 1115) (by decide +kernel), List.mem_of_getElem? (i := 1116) (by decide +kernel)⟩
theorem lw_p24 : lw_okq (⟨"DawnTalesModel", "turns", "()Z"⟩, 37) := ⟨⟨by decide +kernel, by decide +kernel⟩, List.mem_of_getElem? (i := 831) (by decide +kernel), List.mem_of_getElem? (i := 1119) (by decide +kernel), List.mem_of_getElem? (i := 1120) (by decide +kernel)⟩
theorem lw_p25 : lw_okq (⟨"DawnTalesModel", "isHeard", "(I)Z"⟩, 37) := ⟨⟨by decide +kernel, by decide +kernel⟩, List.mem_of_getElem? (i := 831) (by decide +kernel), List.mem_of_getElem? (i := 1153) (by decide +kernel), List.mem_of_getElem? (i := 1154) (by decide +kernel)⟩
def lw_privs_2 : List (MethodName × Nat) := [(⟨"DawnTalesModel", "notes", "()V"⟩, 37), (⟨"DawnTalesModel", "dawns", "([I)Z"⟩, 37), (⟨"DawnTalesModel", "saves", "()I"⟩, 37), (⟨"DawnTalesModel", "finds", "()V"⟩, 37), (⟨"DawnTalesModel", "starts", "(I)Z"⟩, 37), (⟨"DawnTalesModel", "fills", "(I)Z"⟩, 37), (⟨"DawnTalesModel", "isMet", "(I)Z"⟩, 37), (⟨"DawnTalesModel", "code", "()I"⟩, 37), (⟨"DawnTalesModel", "turns", "()Z"⟩, 37), (⟨"DawnTalesModel", "isHeard", "(I)Z"⟩, 37)]
theorem lw_r2 : ∀ q ∈ lw_privs_2, lw_okq q := List.forall_mem_cons.mpr ⟨lw_p16, List.forall_mem_cons.mpr ⟨lw_p17, List.forall_mem_cons.mpr ⟨lw_p18, List.forall_mem_cons.mpr ⟨lw_p19, List.forall_mem_cons.mpr ⟨lw_p20, List.forall_mem_cons.mpr ⟨lw_p21, List.forall_mem_cons.mpr ⟨lw_p22, List.forall_mem_cons.mpr ⟨lw_p23, List.forall_mem_cons.mpr ⟨lw_p24, List.forall_mem_cons.mpr ⟨lw_p25, fun _ h => absurd h List.not_mem_nil⟩⟩⟩⟩⟩⟩⟩⟩⟩⟩
def lw_privs : List (MethodName × Nat) := lw_privs_1 ++ (lw_privs_2)
def lw_tbl : List Cond := k2_sels lw_privs ++ tables_1
theorem lw_privs_ok : ∀ q ∈ lw_privs, lw_okq q := by
  show ∀ q ∈ lw_privs_1 ++ (lw_privs_2), lw_okq q
  exact List.forall_mem_append.mpr ⟨lw_r1, lw_r2⟩
end
section
def RX0 : String := "DawnTales$Book"
def TX0 : u_T := fun k => match k with
  | 0 => ("DawnTales$Book", "tales", "I", false)
  | 1 => ("DawnTales$Book", "parts", "[I", true)
  | 2 => ("DawnTales$Book", "within", "[I", true)
  | 3 => ("DawnTales$Book", "nights", "I", false)
  | 4 => ("DawnTales$Book", "nightHours", "[I", true)
  | 5 => ("DawnTales$Book", "memory", "I", false)
  | _ => ("DawnTales$Book", "depth", "I", false)
def tyX0 : Nat → FieldType := fun k => match k with
  | 0 => .int
  | 1 => .array .int
  | 2 => .array .int
  | 3 => .int
  | 4 => .array .int
  | 5 => .int
  | _ => .int
abbrev wsX00 : List Cond := u_ws RX0 TX0 7
theorem nmX0 : ∀ a, a < 7 → ∀ b, b < 7 → a ≠ b → (TX0 a).2.1 ≠ (TX0 b).2.1 := by decide +kernel
theorem tyX0_ok : ∀ k, k < 7 → parseFieldDescriptor (TX0 k).2.2.1 = some (tyX0 k) := by decide +kernel
abbrev cX0_init : ByteArray := prog_2_method_1_code
def yX0_init : MethodName := ⟨RX0, "<init>", "()V"⟩
abbrev cX0_wipe : ByteArray := prog_2_method_2_code
def yX0_wipe : MethodName := ⟨RX0, "wipe", "()V"⟩
abbrev cX0_settle : ByteArray := prog_2_method_3_code
def yX0_settle : MethodName := ⟨RX0, "settle", "()V"⟩
abbrev cX0_copyFrom : ByteArray := prog_2_method_4_code
def yX0_copyFrom : MethodName := ⟨RX0, "copyFrom", "(LDawnTales$Book;)V"⟩
abbrev cX0_lengthenNights : ByteArray := prog_2_method_5_code
def yX0_lengthenNights : MethodName := ⟨RX0, "lengthenNights", "()V"⟩
abbrev cX0_addTale : ByteArray := prog_2_method_6_code
def yX0_addTale : MethodName := ⟨RX0, "addTale", "(II)V"⟩
abbrev cX0_addNight : ByteArray := prog_2_method_7_code
def yX0_addNight : MethodName := ⟨RX0, "addNight", "(I)V"⟩
abbrev cX0_isTale : ByteArray := prog_2_method_8_code
def yX0_isTale : MethodName := ⟨RX0, "isTale", "(I)Z"⟩
abbrev cX0_partsOf : ByteArray := prog_2_method_9_code
def yX0_partsOf : MethodName := ⟨RX0, "partsOf", "(I)I"⟩
abbrev cX0_withinOf : ByteArray := prog_2_method_10_code
def yX0_withinOf : MethodName := ⟨RX0, "withinOf", "(I)I"⟩
abbrev cX0_toldWithin : ByteArray := prog_2_method_11_code
def yX0_toldWithin : MethodName := ⟨RX0, "toldWithin", "(I)I"⟩
abbrev cX0_hoursOf : ByteArray := prog_2_method_12_code
def yX0_hoursOf : MethodName := ⟨RX0, "hoursOf", "(I)I"⟩
def RX1 : String := "DawnTales$BorrowedKind"
def TX1 : u_T := fun k => match k with
  | _ => ("DawnTales$TaleKind", "traced", "J", false)
def tyX1 : Nat → FieldType := fun k => match k with
  | _ => .long
abbrev wsX10 : List Cond := u_ws RX1 TX1 1
theorem nmX1 : ∀ a, a < 1 → ∀ b, b < 1 → a ≠ b → (TX1 a).2.1 ≠ (TX1 b).2.1 := by decide +kernel
theorem tyX1_ok : ∀ k, k < 1 → parseFieldDescriptor (TX1 k).2.2.1 = some (tyX1 k) := by decide +kernel
abbrev cX1_init : ByteArray := prog_3_method_1_code
def yX1_init : MethodName := ⟨RX1, "<init>", "()V"⟩
abbrev cX1_marked : ByteArray := prog_3_method_2_code
def yX1_marked : MethodName := ⟨RX1, "marked", "(LDawnTales$Book;LDawnTales$Telling;I)I"⟩
def RX2 : String := "DawnTales$EndlessKind"
def TX2 : u_T := fun k => match k with
  | _ => ("DawnTales$TaleKind", "traced", "J", false)
def tyX2 : Nat → FieldType := fun k => match k with
  | _ => .long
abbrev wsX20 : List Cond := u_ws RX2 TX2 1
theorem nmX2 : ∀ a, a < 1 → ∀ b, b < 1 → a ≠ b → (TX2 a).2.1 ≠ (TX2 b).2.1 := by decide +kernel
theorem tyX2_ok : ∀ k, k < 1 → parseFieldDescriptor (TX2 k).2.2.1 = some (tyX2 k) := by decide +kernel
abbrev cX2_init : ByteArray := prog_4_method_1_code
def yX2_init : MethodName := ⟨RX2, "<init>", "()V"⟩
abbrev cX2_marked : ByteArray := prog_4_method_2_code
def yX2_marked : MethodName := ⟨RX2, "marked", "(LDawnTales$Book;LDawnTales$Telling;I)I"⟩
def RX3 : String := "DawnTales$JokeKind"
def TX3 : u_T := fun k => match k with
  | _ => ("DawnTales$TaleKind", "traced", "J", false)
def tyX3 : Nat → FieldType := fun k => match k with
  | _ => .long
abbrev wsX30 : List Cond := u_ws RX3 TX3 1
theorem nmX3 : ∀ a, a < 1 → ∀ b, b < 1 → a ≠ b → (TX3 a).2.1 ≠ (TX3 b).2.1 := by decide +kernel
theorem tyX3_ok : ∀ k, k < 1 → parseFieldDescriptor (TX3 k).2.2.1 = some (tyX3 k) := by decide +kernel
abbrev cX3_init : ByteArray := prog_5_method_1_code
def yX3_init : MethodName := ⟨RX3, "<init>", "()V"⟩
abbrev cX3_marked : ByteArray := prog_5_method_2_code
def yX3_marked : MethodName := ⟨RX3, "marked", "(LDawnTales$Book;LDawnTales$Telling;I)I"⟩
def RX4 : String := "DawnTales$RingKind"
def TX4 : u_T := fun k => match k with
  | _ => ("DawnTales$TaleKind", "traced", "J", false)
def tyX4 : Nat → FieldType := fun k => match k with
  | _ => .long
abbrev wsX40 : List Cond := u_ws RX4 TX4 1
theorem nmX4 : ∀ a, a < 1 → ∀ b, b < 1 → a ≠ b → (TX4 a).2.1 ≠ (TX4 b).2.1 := by decide +kernel
theorem tyX4_ok : ∀ k, k < 1 → parseFieldDescriptor (TX4 k).2.2.1 = some (tyX4 k) := by decide +kernel
abbrev cX4_init : ByteArray := prog_6_method_1_code
def yX4_init : MethodName := ⟨RX4, "<init>", "()V"⟩
abbrev cX4_marked : ByteArray := prog_6_method_2_code
def yX4_marked : MethodName := ⟨RX4, "marked", "(LDawnTales$Book;LDawnTales$Telling;I)I"⟩
def RX5 : String := "DawnTales$Rows"
def TX5 : u_T := fun k => match k with
  | 0 => ("DawnTales$Rows", "row", "[I", true)
  | 1 => ("DawnTales$Rows", "saved", "[B", true)
  | 2 => ("DawnTales$Rows", "opened", "[J", true)
  | 3 => ("DawnTales$Rows", "isStuck", "[Z", true)
  | 4 => ("DawnTales$Rows", "size", "I", false)
  | 5 => ("DawnTales$Rows", "fullFrom", "I", false)
  | 6 => ("DawnTales$Rows", "known", "Z", false)
  | 7 => ("DawnTales$Rows", "longerBest", "I", false)
  | 8 => ("DawnTales$Rows", "walker", "LDawnTales$Telling;", true)
  | 9 => ("DawnTales$Rows", "walkedOpen", "[J", true)
  | 10 => ("DawnTales$Rows", "order", "[I", true)
  | 11 => ("DawnTales$Rows", "orderSize", "I", false)
  | 12 => ("DawnTales$Rows", "next", "I", false)
  | _ => ("DawnTales$Rows", "longerBook", "LDawnTales$Book;", true)
def tyX5 : Nat → FieldType := fun k => match k with
  | 0 => .array .int
  | 1 => .array .byte
  | 2 => .array .long
  | 3 => .array .boolean
  | 4 => .int
  | 5 => .int
  | 6 => .boolean
  | 7 => .int
  | 8 => .object "DawnTales$Telling"
  | 9 => .array .long
  | 10 => .array .int
  | 11 => .int
  | 12 => .int
  | _ => .object "DawnTales$Book"
abbrev wsX50 : List Cond := u_ws RX5 TX5 14
theorem nmX5 : ∀ a, a < 14 → ∀ b, b < 14 → a ≠ b → (TX5 a).2.1 ≠ (TX5 b).2.1 := by decide +kernel
theorem tyX5_ok : ∀ k, k < 14 → parseFieldDescriptor (TX5 k).2.2.1 = some (tyX5 k) := by decide +kernel
abbrev cX5_init : ByteArray := prog_7_method_1_code
def yX5_init : MethodName := ⟨RX5, "<init>", "()V"⟩
abbrev cX5_spread : ByteArray := prog_7_method_2_code
def yX5_spread : MethodName := ⟨RX5, "spread", "(II)Z"⟩
abbrev cX5_walk : ByteArray := prog_7_method_3_code
def yX5_walk : MethodName := ⟨RX5, "walk", "(LDawnTales$Book;)I"⟩
abbrev cX5_walkNight : ByteArray := prog_7_method_4_code
def yX5_walkNight : MethodName := ⟨RX5, "walkNight", "(LDawnTales$Book;)V"⟩
abbrev cX5_walkOn : ByteArray := prog_7_method_5_code
def yX5_walkOn : MethodName := ⟨RX5, "walkOn", "(LDawnTales$Book;LDawnTales$Telling;)I"⟩
abbrev cX5_drop : ByteArray := prog_7_method_6_code
def yX5_drop : MethodName := ⟨RX5, "drop", "()V"⟩
abbrev cX5_know : ByteArray := prog_7_method_7_code
def yX5_know : MethodName := ⟨RX5, "know", "(LDawnTales$Book;)V"⟩
abbrev cX5_walkAll : ByteArray := prog_7_method_8_code
def yX5_walkAll : MethodName := ⟨RX5, "walkAll", "(LDawnTales$Book;)V"⟩
abbrev cX5_takeOver : ByteArray := prog_7_method_9_code
def yX5_takeOver : MethodName := ⟨RX5, "takeOver", "(II)V"⟩
abbrev cX5_list : ByteArray := prog_7_method_10_code
def yX5_list : MethodName := ⟨RX5, "list", "(I)V"⟩
abbrev cX5_listLonger : ByteArray := prog_7_method_11_code
def yX5_listLonger : MethodName := ⟨RX5, "listLonger", "(II)V"⟩
abbrev cX5_bestIfLonger : ByteArray := prog_7_method_12_code
def yX5_bestIfLonger : MethodName := ⟨RX5, "bestIfLonger", "(LDawnTales$Book;)I"⟩
abbrev cX5_bestPlace : ByteArray := prog_7_method_13_code
def yX5_bestPlace : MethodName := ⟨RX5, "bestPlace", "()I"⟩
abbrev cX5_fewestPlace : ByteArray := prog_7_method_14_code
def yX5_fewestPlace : MethodName := ⟨RX5, "fewestPlace", "(I)I"⟩
abbrev cX5_mindPlace : ByteArray := prog_7_method_15_code
def yX5_mindPlace : MethodName := ⟨RX5, "mindPlace", "(I)I"⟩
abbrev cX5_inAllThatReach : ByteArray := prog_7_method_16_code
def yX5_inAllThatReach : MethodName := ⟨RX5, "inAllThatReach", "(I)I"⟩
abbrev cX5_mostOpen : ByteArray := prog_7_method_17_code
def yX5_mostOpen : MethodName := ⟨RX5, "mostOpen", "(II)I"⟩
abbrev cX5_rowAt : ByteArray := prog_7_method_18_code
def yX5_rowAt : MethodName := ⟨RX5, "rowAt", "(I)I"⟩
abbrev cX5_savedBy : ByteArray := prog_7_method_19_code
def yX5_savedBy : MethodName := ⟨RX5, "savedBy", "(I)I"⟩
abbrev cX5_sizeAt : ByteArray := prog_7_method_20_code
def yX5_sizeAt : MethodName := ⟨RX5, "sizeAt", "(I)I"⟩
abbrev cX5_openAt : ByteArray := prog_7_method_21_code
def yX5_openAt : MethodName := ⟨RX5, "openAt", "(II)I"⟩
abbrev cX5_shiftOf : ByteArray := prog_7_method_22_code
def yX5_shiftOf : MethodName := ⟨RX5, "shiftOf", "(I)I"⟩
abbrev cX5_bitsOf : ByteArray := prog_7_method_23_code
def yX5_bitsOf : MethodName := ⟨RX5, "bitsOf", "(I)I"⟩
def RX6 : String := "DawnTales$Stand"
def TX6 : u_T := fun k => match k with
  | 0 => ("DawnTales$Stand", "now", "LDawnTales$Telling;", true)
  | 1 => ("DawnTales$Stand", "past", "[LDawnTales$Telling;", true)
  | _ => ("DawnTales$Stand", "known", "I", false)
def tyX6 : Nat → FieldType := fun k => match k with
  | 0 => .object "DawnTales$Telling"
  | 1 => .array (.object "DawnTales$Telling")
  | _ => .int
abbrev wsX60 : List Cond := u_ws RX6 TX6 3
theorem nmX6 : ∀ a, a < 3 → ∀ b, b < 3 → a ≠ b → (TX6 a).2.1 ≠ (TX6 b).2.1 := by decide +kernel
theorem tyX6_ok : ∀ k, k < 3 → parseFieldDescriptor (TX6 k).2.2.1 = some (tyX6 k) := by decide +kernel
abbrev cX6_init : ByteArray := prog_8_method_1_code
def yX6_init : MethodName := ⟨RX6, "<init>", "()V"⟩
abbrev cX6_start : ByteArray := prog_8_method_2_code
def yX6_start : MethodName := ⟨RX6, "start", "(LDawnTales$Book;)V"⟩
abbrev cX6_copyFrom : ByteArray := prog_8_method_3_code
def yX6_copyFrom : MethodName := ⟨RX6, "copyFrom", "(LDawnTales$Stand;)V"⟩
abbrev cX6_remember : ByteArray := prog_8_method_4_code
def yX6_remember : MethodName := ⟨RX6, "remember", "()V"⟩
abbrev cX6_loseOldest : ByteArray := prog_8_method_5_code
def yX6_loseOldest : MethodName := ⟨RX6, "loseOldest", "()V"⟩
abbrev cX6_takeBack : ByteArray := prog_8_method_6_code
def yX6_takeBack : MethodName := ⟨RX6, "takeBack", "()Z"⟩
def RX7 : String := "DawnTales$TaleKind"
def TX7 : u_T := fun k => match k with
  | _ => ("DawnTales$TaleKind", "traced", "J", false)
def tyX7 : Nat → FieldType := fun k => match k with
  | _ => .long
abbrev wsX70 : List Cond := u_ws RX7 TX7 1
theorem nmX7 : ∀ a, a < 1 → ∀ b, b < 1 → a ≠ b → (TX7 a).2.1 ≠ (TX7 b).2.1 := by decide +kernel
theorem tyX7_ok : ∀ k, k < 1 → parseFieldDescriptor (TX7 k).2.2.1 = some (tyX7 k) := by decide +kernel
abbrev cX7_init : ByteArray := prog_9_method_1_code
def yX7_init : MethodName := ⟨RX7, "<init>", "()V"⟩
abbrev cX7_marked : ByteArray := prog_9_method_2_code
def yX7_marked : MethodName := ⟨RX7, "marked", "(LDawnTales$Book;LDawnTales$Telling;I)I"⟩
def RX8 : String := "DawnTales$Telling"
def TX8 : u_T := fun k => match k with
  | 0 => ("DawnTales$Telling", "night", "I", false)
  | 1 => ("DawnTales$Telling", "hoursLeft", "I", false)
  | 2 => ("DawnTales$Telling", "saved", "I", false)
  | 3 => ("DawnTales$Telling", "lives", "Z", false)
  | 4 => ("DawnTales$Telling", "begun", "I", false)
  | 5 => ("DawnTales$Telling", "openBits", "I", false)
  | 6 => ("DawnTales$Telling", "deep", "I", false)
  | 7 => ("DawnTales$Telling", "open", "[I", true)
  | 8 => ("DawnTales$Telling", "left", "[I", true)
  | _ => ("DawnTales$Telling", "lastNight", "[I", true)
def tyX8 : Nat → FieldType := fun k => match k with
  | 0 => .int
  | 1 => .int
  | 2 => .int
  | 3 => .boolean
  | 4 => .int
  | 5 => .int
  | 6 => .int
  | 7 => .array .int
  | 8 => .array .int
  | _ => .array .int
abbrev wsX80 : List Cond := u_ws RX8 TX8 10
theorem nmX8 : ∀ a, a < 10 → ∀ b, b < 10 → a ≠ b → (TX8 a).2.1 ≠ (TX8 b).2.1 := by decide +kernel
theorem tyX8_ok : ∀ k, k < 10 → parseFieldDescriptor (TX8 k).2.2.1 = some (tyX8 k) := by decide +kernel
abbrev cX8_init : ByteArray := prog_10_method_1_code
def yX8_init : MethodName := ⟨RX8, "<init>", "()V"⟩
abbrev cX8_start : ByteArray := prog_10_method_2_code
def yX8_start : MethodName := ⟨RX8, "start", "(LDawnTales$Book;)V"⟩
abbrev cX8_copyFrom : ByteArray := prog_10_method_3_code
def yX8_copyFrom : MethodName := ⟨RX8, "copyFrom", "(LDawnTales$Telling;)V"⟩
abbrev cX8_leftOf : ByteArray := prog_10_method_4_code
def yX8_leftOf : MethodName := ⟨RX8, "leftOf", "(I)I"⟩
abbrev cX8_lastNightOf : ByteArray := prog_10_method_5_code
def yX8_lastNightOf : MethodName := ⟨RX8, "lastNightOf", "(I)I"⟩
abbrev cX8_isBegun : ByteArray := prog_10_method_6_code
def yX8_isBegun : MethodName := ⟨RX8, "isBegun", "(I)Z"⟩
abbrev cX8_openAt : ByteArray := prog_10_method_7_code
def yX8_openAt : MethodName := ⟨RX8, "openAt", "(I)I"⟩
abbrev cX8_innermost : ByteArray := prog_10_method_8_code
def yX8_innermost : MethodName := ⟨RX8, "innermost", "()I"⟩
abbrev cX8_placeOf : ByteArray := prog_10_method_9_code
def yX8_placeOf : MethodName := ⟨RX8, "placeOf", "(I)I"⟩
abbrev cX8_endedBits : ByteArray := prog_10_method_10_code
def yX8_endedBits : MethodName := ⟨RX8, "endedBits", "()I"⟩
abbrev cX8_mayBeginBits : ByteArray := prog_10_method_11_code
def yX8_mayBeginBits : MethodName := ⟨RX8, "mayBeginBits", "(LDawnTales$Book;)I"⟩
abbrev cX8_bitOf : ByteArray := prog_10_method_12_code
def yX8_bitOf : MethodName := ⟨RX8, "bitOf", "(I)I"⟩
abbrev cX8_hasHour : ByteArray := prog_10_method_13_code
def yX8_hasHour : MethodName := ⟨RX8, "hasHour", "()Z"⟩
abbrev cX8_mayBegin : ByteArray := prog_10_method_14_code
def yX8_mayBegin : MethodName := ⟨RX8, "mayBegin", "(LDawnTales$Book;I)Z"⟩
abbrev cX8_mayDawn : ByteArray := prog_10_method_15_code
def yX8_mayDawn : MethodName := ⟨RX8, "mayDawn", "()Z"⟩
abbrev cX8_beginTale : ByteArray := prog_10_method_16_code
def yX8_beginTale : MethodName := ⟨RX8, "beginTale", "(I)V"⟩
abbrev cX8_tellParts : ByteArray := prog_10_method_17_code
def yX8_tellParts : MethodName := ⟨RX8, "tellParts", "(II)V"⟩
abbrev cX8_passHour : ByteArray := prog_10_method_18_code
def yX8_passHour : MethodName := ⟨RX8, "passHour", "()V"⟩
abbrev cX8_goOn : ByteArray := prog_10_method_19_code
def yX8_goOn : MethodName := ⟨RX8, "goOn", "()V"⟩
abbrev cX8_isPause : ByteArray := prog_10_method_20_code
def yX8_isPause : MethodName := ⟨RX8, "isPause", "()Z"⟩
abbrev cX8_isForgotten : ByteArray := prog_10_method_21_code
def yX8_isForgotten : MethodName := ⟨RX8, "isForgotten", "(LDawnTales$Book;)Z"⟩
abbrev cX8_meetDawn : ByteArray := prog_10_method_22_code
def yX8_meetDawn : MethodName := ⟨RX8, "meetDawn", "(LDawnTales$Book;)Z"⟩
def RX9 : String := "DawnTales$Text"
def TX9 : u_T := fun k => match k with
  | 0 => ("DawnTales$Text", "bytes", "[I", true)
  | 1 => ("DawnTales$Text", "length", "I", false)
  | 2 => ("DawnTales$Text", "at", "I", false)
  | 3 => ("DawnTales$Text", "after", "I", false)
  | 4 => ("DawnTales$Text", "token", "I", false)
  | _ => ("DawnTales$Text", "value", "I", false)
def tyX9 : Nat → FieldType := fun k => match k with
  | 0 => .array .int
  | 1 => .int
  | 2 => .int
  | 3 => .int
  | 4 => .int
  | _ => .int
abbrev wsX90 : List Cond := u_ws RX9 TX9 6
theorem nmX9 : ∀ a, a < 6 → ∀ b, b < 6 → a ≠ b → (TX9 a).2.1 ≠ (TX9 b).2.1 := by decide +kernel
theorem tyX9_ok : ∀ k, k < 6 → parseFieldDescriptor (TX9 k).2.2.1 = some (tyX9 k) := by decide +kernel
abbrev cX9_init : ByteArray := prog_11_method_1_code
def yX9_init : MethodName := ⟨RX9, "<init>", "()V"⟩
abbrev cX9_add : ByteArray := prog_11_method_2_code
def yX9_add : MethodName := ⟨RX9, "add", "(I)Z"⟩
abbrev cX9_empty : ByteArray := prog_11_method_3_code
def yX9_empty : MethodName := ⟨RX9, "empty", "()I"⟩
abbrev cX9_readInto : ByteArray := prog_11_method_4_code
def yX9_readInto : MethodName := ⟨RX9, "readInto", "(LDawnTales$Book;)I"⟩
abbrev cX9_readItem : ByteArray := prog_11_method_5_code
def yX9_readItem : MethodName := ⟨RX9, "readItem", "(LDawnTales$Book;)Z"⟩
abbrev cX9_readTale : ByteArray := prog_11_method_6_code
def yX9_readTale : MethodName := ⟨RX9, "readTale", "(LDawnTales$Book;)Z"⟩
abbrev cX9_readNights : ByteArray := prog_11_method_7_code
def yX9_readNights : MethodName := ⟨RX9, "readNights", "(LDawnTales$Book;)Z"⟩
abbrev cX9_readMemory : ByteArray := prog_11_method_8_code
def yX9_readMemory : MethodName := ⟨RX9, "readMemory", "(LDawnTales$Book;)Z"⟩
abbrev cX9_readDepth : ByteArray := prog_11_method_9_code
def yX9_readDepth : MethodName := ⟨RX9, "readDepth", "(LDawnTales$Book;)Z"⟩
abbrev cX9_isNumber : ByteArray := prog_11_method_10_code
def yX9_isNumber : MethodName := ⟨RX9, "isNumber", "(II)Z"⟩
abbrev cX9_nextToken : ByteArray := prog_11_method_11_code
def yX9_nextToken : MethodName := ⟨RX9, "nextToken", "()V"⟩
abbrev cX9_takeLetters : ByteArray := prog_11_method_12_code
def yX9_takeLetters : MethodName := ⟨RX9, "takeLetters", "()V"⟩
abbrev cX9_takeNumber : ByteArray := prog_11_method_13_code
def yX9_takeNumber : MethodName := ⟨RX9, "takeNumber", "()V"⟩
abbrev cX9_byteAt : ByteArray := prog_11_method_14_code
def yX9_byteAt : MethodName := ⟨RX9, "byteAt", "(I)I"⟩
abbrev cX9_isLetter : ByteArray := prog_11_method_15_code
def yX9_isLetter : MethodName := ⟨RX9, "isLetter", "(I)Z"⟩
abbrev cX9_isDigit : ByteArray := prog_11_method_16_code
def yX9_isDigit : MethodName := ⟨RX9, "isDigit", "(I)Z"⟩
def RX10 : String := "DawnTales$TrueKind"
def TX10 : u_T := fun k => match k with
  | _ => ("DawnTales$TaleKind", "traced", "J", false)
def tyX10 : Nat → FieldType := fun k => match k with
  | _ => .long
abbrev wsX100 : List Cond := u_ws RX10 TX10 1
theorem nmX10 : ∀ a, a < 1 → ∀ b, b < 1 → a ≠ b → (TX10 a).2.1 ≠ (TX10 b).2.1 := by decide +kernel
theorem tyX10_ok : ∀ k, k < 1 → parseFieldDescriptor (TX10 k).2.2.1 = some (tyX10 k) := by decide +kernel
abbrev cX10_init : ByteArray := prog_12_method_1_code
def yX10_init : MethodName := ⟨RX10, "<init>", "()V"⟩
abbrev cX10_marked : ByteArray := prog_12_method_2_code
def yX10_marked : MethodName := ⟨RX10, "marked", "(LDawnTales$Book;LDawnTales$Telling;I)I"⟩
def RX11 : String := "DawnTales"
def TX11 : u_T := fun k => match k with
  | 0 => ("DawnTales", "text", "LDawnTales$Text;", true)
  | 1 => ("DawnTales", "book", "LDawnTales$Book;", true)
  | 2 => ("DawnTales", "draft", "LDawnTales$Book;", true)
  | 3 => ("DawnTales", "stand", "LDawnTales$Stand;", true)
  | 4 => ("DawnTales", "images", "[LDawnTales$Stand;", true)
  | 5 => ("DawnTales", "kept", "I", false)
  | 6 => ("DawnTales", "rows", "LDawnTales$Rows;", true)
  | 7 => ("DawnTales", "heardDawn", "[I", true)
  | 8 => ("DawnTales", "heardOpen", "[I", true)
  | 9 => ("DawnTales", "heardCount", "I", false)
  | _ => ("DawnTales", "kinds", "[LDawnTales$TaleKind;", true)
def tyX11 : Nat → FieldType := fun k => match k with
  | 0 => .object "DawnTales$Text"
  | 1 => .object "DawnTales$Book"
  | 2 => .object "DawnTales$Book"
  | 3 => .object "DawnTales$Stand"
  | 4 => .array (.object "DawnTales$Stand")
  | 5 => .int
  | 6 => .object "DawnTales$Rows"
  | 7 => .array .int
  | 8 => .array .int
  | 9 => .int
  | _ => .array (.object "DawnTales$TaleKind")
abbrev wsX110 : List Cond := u_ws RX11 TX11 11
theorem nmX11 : ∀ a, a < 11 → ∀ b, b < 11 → a ≠ b → (TX11 a).2.1 ≠ (TX11 b).2.1 := by decide +kernel
theorem tyX11_ok : ∀ k, k < 11 → parseFieldDescriptor (TX11 k).2.2.1 = some (tyX11 k) := by decide +kernel
abbrev cX11_init : ByteArray := prog_1_method_1_code
def yX11_init : MethodName := ⟨RX11, "<init>", "()V"⟩
abbrev cX11_type : ByteArray := prog_1_method_2_code
def yX11_type : MethodName := ⟨RX11, "type", "(I)I"⟩
abbrev cX11_clear : ByteArray := prog_1_method_3_code
def yX11_clear : MethodName := ⟨RX11, "clear", "()I"⟩
abbrev cX11_tales : ByteArray := prog_1_method_4_code
def yX11_tales : MethodName := ⟨RX11, "tales", "()I"⟩
abbrev cX11_tale : ByteArray := prog_1_method_5_code
def yX11_tale : MethodName := ⟨RX11, "tale", "(II)I"⟩
abbrev cX11_hours : ByteArray := prog_1_method_6_code
def yX11_hours : MethodName := ⟨RX11, "hours", "(I)I"⟩
abbrev cX11_begins : ByteArray := prog_1_method_7_code
def yX11_begins : MethodName := ⟨RX11, "begins", "(I)I"⟩
abbrev cX11_tells : ByteArray := prog_1_method_8_code
def yX11_tells : MethodName := ⟨RX11, "tells", "()I"⟩
abbrev cX11_silent : ByteArray := prog_1_method_9_code
def yX11_silent : MethodName := ⟨RX11, "silent", "()I"⟩
abbrev cX11_dawn : ByteArray := prog_1_method_10_code
def yX11_dawn : MethodName := ⟨RX11, "dawn", "()I"⟩
abbrev cX11_undo : ByteArray := prog_1_method_11_code
def yX11_undo : MethodName := ⟨RX11, "undo", "()I"⟩
abbrev cX11_now : ByteArray := prog_1_method_12_code
def yX11_now : MethodName := ⟨RX11, "now", "(I)I"⟩
abbrev cX11_on : ByteArray := prog_1_method_13_code
def yX11_on : MethodName := ⟨RX11, "on", "()I"⟩
abbrev cX11_by : ByteArray := prog_1_method_14_code
def yX11_by : MethodName := ⟨RX11, "by", "(I)I"⟩
abbrev cX11_best : ByteArray := prog_1_method_15_code
def yX11_best : MethodName := ⟨RX11, "best", "(I)I"⟩
abbrev cX11_fewest : ByteArray := prog_1_method_16_code
def yX11_fewest : MethodName := ⟨RX11, "fewest", "(II)I"⟩
abbrev cX11_mind : ByteArray := prog_1_method_17_code
def yX11_mind : MethodName := ⟨RX11, "mind", "(II)I"⟩
abbrev cX11_bars : ByteArray := prog_1_method_18_code
def yX11_bars : MethodName := ⟨RX11, "bars", "(I)I"⟩
abbrev cX11_longer : ByteArray := prog_1_method_19_code
def yX11_longer : MethodName := ⟨RX11, "longer", "()I"⟩
abbrev cX11_heard : ByteArray := prog_1_method_20_code
def yX11_heard : MethodName := ⟨RX11, "heard", "(II)I"⟩
abbrev cX11_forget : ByteArray := prog_1_method_21_code
def yX11_forget : MethodName := ⟨RX11, "forget", "()I"⟩
abbrev cX11_orders : ByteArray := prog_1_method_22_code
def yX11_orders : MethodName := ⟨RX11, "orders", "(I)I"⟩
abbrev cX11_surely : ByteArray := prog_1_method_23_code
def yX11_surely : MethodName := ⟨RX11, "surely", "(I)I"⟩
abbrev cX11_odds : ByteArray := prog_1_method_24_code
def yX11_odds : MethodName := ⟨RX11, "odds", "(III)J"⟩
abbrev cX11_mark : ByteArray := prog_1_method_25_code
def yX11_mark : MethodName := ⟨RX11, "mark", "(II)I"⟩
abbrev cX11_keep : ByteArray := prog_1_method_26_code
def yX11_keep : MethodName := ⟨RX11, "keep", "(I)I"⟩
abbrev cX11_back : ByteArray := prog_1_method_27_code
def yX11_back : MethodName := ⟨RX11, "back", "(I)I"⟩
abbrev cX11_count : ByteArray := prog_1_method_28_code
def yX11_count : MethodName := ⟨RX11, "count", "(I)I"⟩
abbrev cX11_trace : ByteArray := prog_1_method_29_code
def yX11_trace : MethodName := ⟨RX11, "trace", "()J"⟩
abbrev cX11_startAnew : ByteArray := prog_1_method_30_code
def yX11_startAnew : MethodName := ⟨RX11, "startAnew", "()V"⟩
abbrev cX11_isAsHeard : ByteArray := prog_1_method_31_code
def yX11_isAsHeard : MethodName := ⟨RX11, "isAsHeard", "(I)Z"⟩
abbrev cX11_isDawn : ByteArray := prog_1_method_32_code
def yX11_isDawn : MethodName := ⟨RX11, "isDawn", "(I)Z"⟩
abbrev cX11_isPairPart : ByteArray := prog_1_method_33_code
def yX11_isPairPart : MethodName := ⟨RX11, "isPairPart", "(I)Z"⟩
abbrev cX11_isImage : ByteArray := prog_1_method_34_code
def yX11_isImage : MethodName := ⟨RX11, "isImage", "(I)Z"⟩
abbrev cX11_firstOf : ByteArray := prog_1_method_35_code
def yX11_firstOf : MethodName := ⟨RX11, "firstOf", "(I)I"⟩
abbrev cX11_commonDivisor : ByteArray := prog_1_method_36_code
def yX11_commonDivisor : MethodName := ⟨RX11, "commonDivisor", "(II)I"⟩
def RX12 : String := "DawnTalesModel"
def TX12 : u_T := fun k => match k with
  | 0 => ("DawnTalesModel", "text", "[I", true)
  | 1 => ("DawnTalesModel", "size", "I", false)
  | 2 => ("DawnTalesModel", "at", "I", false)
  | 3 => ("DawnTalesModel", "begin", "I", false)
  | 4 => ("DawnTalesModel", "token", "I", false)
  | 5 => ("DawnTalesModel", "told", "I", false)
  | 6 => ("DawnTalesModel", "readTales", "I", false)
  | 7 => ("DawnTalesModel", "readNights", "I", false)
  | 8 => ("DawnTalesModel", "readMemory", "I", false)
  | 9 => ("DawnTalesModel", "readDepth", "I", false)
  | 10 => ("DawnTalesModel", "readParts", "[I", true)
  | 11 => ("DawnTalesModel", "readWithin", "[I", true)
  | 12 => ("DawnTalesModel", "readHours", "[I", true)
  | 13 => ("DawnTalesModel", "tales", "I", false)
  | 14 => ("DawnTalesModel", "nights", "I", false)
  | 15 => ("DawnTalesModel", "memory", "I", false)
  | 16 => ("DawnTalesModel", "depth", "I", false)
  | 17 => ("DawnTalesModel", "parts", "[I", true)
  | 18 => ("DawnTalesModel", "within", "[I", true)
  | 19 => ("DawnTalesModel", "hours", "[I", true)
  | 20 => ("DawnTalesModel", "longer", "I", false)
  | 21 => ("DawnTalesModel", "now", "[I", true)
  | 22 => ("DawnTalesModel", "row", "[I", true)
  | 23 => ("DawnTalesModel", "saved", "I", false)
  | 24 => ("DawnTalesModel", "undone", "[I", true)
  | 25 => ("DawnTalesModel", "undos", "I", false)
  | 26 => ("DawnTalesModel", "order", "[I", true)
  | 27 => ("DawnTalesModel", "many", "I", false)
  | 28 => ("DawnTalesModel", "opens", "[I", true)
  | 29 => ("DawnTalesModel", "sets", "[I", true)
  | 30 => ("DawnTalesModel", "bestDawns", "I", false)
  | 31 => ("DawnTalesModel", "bestRow", "I", false)
  | 32 => ("DawnTalesModel", "heards", "I", false)
  | 33 => ("DawnTalesModel", "heardWhen", "[I", true)
  | 34 => ("DawnTalesModel", "heardOpen", "[I", true)
  | 35 => ("DawnTalesModel", "trace", "J", false)
  | _ => ("DawnTalesModel", "kept", "[I", true)
def tyX12 : Nat → FieldType := fun k => match k with
  | 0 => .array .int
  | 1 => .int
  | 2 => .int
  | 3 => .int
  | 4 => .int
  | 5 => .int
  | 6 => .int
  | 7 => .int
  | 8 => .int
  | 9 => .int
  | 10 => .array .int
  | 11 => .array .int
  | 12 => .array .int
  | 13 => .int
  | 14 => .int
  | 15 => .int
  | 16 => .int
  | 17 => .array .int
  | 18 => .array .int
  | 19 => .array .int
  | 20 => .int
  | 21 => .array .int
  | 22 => .array .int
  | 23 => .int
  | 24 => .array .int
  | 25 => .int
  | 26 => .array .int
  | 27 => .int
  | 28 => .array .int
  | 29 => .array .int
  | 30 => .int
  | 31 => .int
  | 32 => .int
  | 33 => .array .int
  | 34 => .array .int
  | 35 => .long
  | _ => .array .int
abbrev wsX120 : List Cond := u_ws RX12 TX12 37
theorem nmX12 : ∀ a, a < 37 → ∀ b, b < 37 → a ≠ b → (TX12 a).2.1 ≠ (TX12 b).2.1 := by decide +kernel
theorem tyX12_ok : ∀ k, k < 37 → parseFieldDescriptor (TX12 k).2.2.1 = some (tyX12 k) := by decide +kernel
abbrev cX12_in : ByteArray := prog_14_method_2_code
def yX12_in : MethodName := ⟨RX12, "in", "(JJJ)Z"⟩
abbrev cX12_init : ByteArray := prog_14_method_3_code
def yX12_init : MethodName := ⟨RX12, "<init>", "()V"⟩
abbrev cX12_type : ByteArray := prog_14_method_4_code
def yX12_type : MethodName := ⟨RX12, "type", "(I)I"⟩
abbrev cX12_clear : ByteArray := prog_14_method_5_code
def yX12_clear : MethodName := ⟨RX12, "clear", "()I"⟩
abbrev cX12_isLetter : ByteArray := prog_14_method_6_code
def yX12_isLetter : MethodName := ⟨RX12, "isLetter", "(I)Z"⟩
abbrev cX12_isFigure : ByteArray := prog_14_method_7_code
def yX12_isFigure : MethodName := ⟨RX12, "isFigure", "(I)Z"⟩
abbrev cX12_readLetters : ByteArray := prog_14_method_8_code
def yX12_readLetters : MethodName := ⟨RX12, "readLetters", "()V"⟩
abbrev cX12_readNumber : ByteArray := prog_14_method_9_code
def yX12_readNumber : MethodName := ⟨RX12, "readNumber", "()V"⟩
abbrev cX12_reads : ByteArray := prog_14_method_10_code
def yX12_reads : MethodName := ⟨RX12, "reads", "()V"⟩
abbrev cX12_number : ByteArray := prog_14_method_11_code
def yX12_number : MethodName := ⟨RX12, "number", "(II)Z"⟩
abbrev cX12_readTale : ByteArray := prog_14_method_12_code
def yX12_readTale : MethodName := ⟨RX12, "readTale", "()Z"⟩
abbrev cX12_readNights : ByteArray := prog_14_method_13_code
def yX12_readNights : MethodName := ⟨RX12, "readNights", "()Z"⟩
abbrev cX12_readItem : ByteArray := prog_14_method_14_code
def yX12_readItem : MethodName := ⟨RX12, "readItem", "()Z"⟩
abbrev cX12_tales : ByteArray := prog_14_method_15_code
def yX12_tales : MethodName := ⟨RX12, "tales", "()I"⟩
abbrev cX12_takes : ByteArray := prog_14_method_16_code
def yX12_takes : MethodName := ⟨RX12, "takes", "()V"⟩
abbrev cX12_plain : ByteArray := prog_14_method_17_code
def yX12_plain : MethodName := ⟨RX12, "plain", "()V"⟩
abbrev cX12_isTale : ByteArray := prog_14_method_18_code
def yX12_isTale : MethodName := ⟨RX12, "isTale", "(I)Z"⟩
abbrev cX12_hoursOf : ByteArray := prog_14_method_19_code
def yX12_hoursOf : MethodName := ⟨RX12, "hoursOf", "(I)I"⟩
abbrev cX12_beginsAnew : ByteArray := prog_14_method_20_code
def yX12_beginsAnew : MethodName := ⟨RX12, "beginsAnew", "()V"⟩
abbrev cX12_inner : ByteArray := prog_14_method_21_code
def yX12_inner : MethodName := ⟨RX12, "inner", "([I)I"⟩
abbrev cX12_mayBegin : ByteArray := prog_14_method_22_code
def yX12_mayBegin : MethodName := ⟨RX12, "mayBegin", "([II)Z"⟩
abbrev cX12_goesOn : ByteArray := prog_14_method_23_code
def yX12_goesOn : MethodName := ⟨RX12, "goesOn", "([I)V"⟩
abbrev cX12_goesIn : ByteArray := prog_14_method_24_code
def yX12_goesIn : MethodName := ⟨RX12, "goesIn", "([II)V"⟩
abbrev cX12_dawns : ByteArray := prog_14_method_25_code
def yX12_dawns : MethodName := ⟨RX12, "dawns", "([I)Z"⟩
abbrev cX12_tale : ByteArray := prog_14_method_26_code
def yX12_tale : MethodName := ⟨RX12, "tale", "(II)I"⟩
abbrev cX12_hours : ByteArray := prog_14_method_27_code
def yX12_hours : MethodName := ⟨RX12, "hours", "(I)I"⟩
abbrev cX12_notes : ByteArray := prog_14_method_28_code
def yX12_notes : MethodName := ⟨RX12, "notes", "()V"⟩
abbrev cX12_has : ByteArray := prog_14_method_29_code
def yX12_has : MethodName := ⟨RX12, "has", "()Z"⟩
abbrev cX12_begins : ByteArray := prog_14_method_30_code
def yX12_begins : MethodName := ⟨RX12, "begins", "(I)I"⟩
abbrev cX12_tells : ByteArray := prog_14_method_31_code
def yX12_tells : MethodName := ⟨RX12, "tells", "()I"⟩
abbrev cX12_silent : ByteArray := prog_14_method_32_code
def yX12_silent : MethodName := ⟨RX12, "silent", "()I"⟩
abbrev cX12_dawn : ByteArray := prog_14_method_33_code
def yX12_dawn : MethodName := ⟨RX12, "dawn", "()I"⟩
abbrev cX12_undo : ByteArray := prog_14_method_34_code
def yX12_undo : MethodName := ⟨RX12, "undo", "()I"⟩
abbrev cX12_now : ByteArray := prog_14_method_35_code
def yX12_now : MethodName := ⟨RX12, "now", "(I)I"⟩
abbrev cX12_on : ByteArray := prog_14_method_36_code
def yX12_on : MethodName := ⟨RX12, "on", "()I"⟩
abbrev cX12_saves : ByteArray := prog_14_method_37_code
def yX12_saves : MethodName := ⟨RX12, "saves", "()I"⟩
abbrev cX12_by : ByteArray := prog_14_method_38_code
def yX12_by : MethodName := ⟨RX12, "by", "(I)I"⟩
abbrev cX12_code : ByteArray := prog_14_method_39_code
def yX12_code : MethodName := ⟨RX12, "code", "()I"⟩
abbrev cX12_turns : ByteArray := prog_14_method_40_code
def yX12_turns : MethodName := ⟨RX12, "turns", "()Z"⟩
abbrev cX12_isMet : ByteArray := prog_14_method_41_code
def yX12_isMet : MethodName := ⟨RX12, "isMet", "(I)Z"⟩
abbrev cX12_fills : ByteArray := prog_14_method_42_code
def yX12_fills : MethodName := ⟨RX12, "fills", "(I)Z"⟩
abbrev cX12_starts : ByteArray := prog_14_method_43_code
def yX12_starts : MethodName := ⟨RX12, "starts", "(I)Z"⟩
abbrev cX12_finds : ByteArray := prog_14_method_44_code
def yX12_finds : MethodName := ⟨RX12, "finds", "()V"⟩
abbrev cX12_best : ByteArray := prog_14_method_45_code
def yX12_best : MethodName := ⟨RX12, "best", "(I)I"⟩
abbrev cX12_fewest : ByteArray := prog_14_method_46_code
def yX12_fewest : MethodName := ⟨RX12, "fewest", "(II)I"⟩
abbrev cX12_mind : ByteArray := prog_14_method_47_code
def yX12_mind : MethodName := ⟨RX12, "mind", "(II)I"⟩
abbrev cX12_bars : ByteArray := prog_14_method_48_code
def yX12_bars : MethodName := ⟨RX12, "bars", "(I)I"⟩
abbrev cX12_longer : ByteArray := prog_14_method_49_code
def yX12_longer : MethodName := ⟨RX12, "longer", "()I"⟩
abbrev cX12_heard : ByteArray := prog_14_method_50_code
def yX12_heard : MethodName := ⟨RX12, "heard", "(II)I"⟩
abbrev cX12_forget : ByteArray := prog_14_method_51_code
def yX12_forget : MethodName := ⟨RX12, "forget", "()I"⟩
abbrev cX12_isHeard : ByteArray := prog_14_method_52_code
def yX12_isHeard : MethodName := ⟨RX12, "isHeard", "(I)Z"⟩
abbrev cX12_orders : ByteArray := prog_14_method_53_code
def yX12_orders : MethodName := ⟨RX12, "orders", "(I)I"⟩
abbrev cX12_surely : ByteArray := prog_14_method_54_code
def yX12_surely : MethodName := ⟨RX12, "surely", "(I)I"⟩
abbrev cX12_odds : ByteArray := prog_14_method_55_code
def yX12_odds : MethodName := ⟨RX12, "odds", "(III)J"⟩
abbrev cX12_mark : ByteArray := prog_14_method_56_code
def yX12_mark : MethodName := ⟨RX12, "mark", "(II)I"⟩
abbrev cX12_trace : ByteArray := prog_14_method_57_code
def yX12_trace : MethodName := ⟨RX12, "trace", "()J"⟩
abbrev cX12_keep : ByteArray := prog_14_method_58_code
def yX12_keep : MethodName := ⟨RX12, "keep", "(I)I"⟩
abbrev cX12_back : ByteArray := prog_14_method_59_code
def yX12_back : MethodName := ⟨RX12, "back", "(I)I"⟩
abbrev cX12_count : ByteArray := prog_14_method_60_code
def yX12_count : MethodName := ⟨RX12, "count", "(I)I"⟩
def RJ6 : String := "java/lang/Integer"
def TJ6 : u_T := fun k => match k with
  | _ => ("", "", "", false)
def tyJ6 : Nat → FieldType := fun k => match k with
  | _ => .int
abbrev wsJ60 : List Cond := u_ws RJ6 TJ6 0
theorem nmJ6 : ∀ a, a < 0 → ∀ b, b < 0 → a ≠ b → (TJ6 a).2.1 ≠ (TJ6 b).2.1 := by decide +kernel
theorem tyJ6_ok : ∀ k, k < 0 → parseFieldDescriptor (TJ6 k).2.2.1 = some (tyJ6 k) := by decide +kernel
abbrev cJ6_bitCount_0f7a4 : ByteArray := prog_15_method_49_code
def yJ6_bitCount_0f7a4 : MethodName := ⟨RJ6, "bitCount", "(I)I"⟩
def RJ9 : String := "java/lang/Math"
def TJ9 : u_T := fun k => match k with
  | _ => ("", "", "", false)
def tyJ9 : Nat → FieldType := fun k => match k with
  | _ => .int
abbrev wsJ90 : List Cond := u_ws RJ9 TJ9 0
theorem nmJ9 : ∀ a, a < 0 → ∀ b, b < 0 → a ≠ b → (TJ9 a).2.1 ≠ (TJ9 b).2.1 := by decide +kernel
theorem tyJ9_ok : ∀ k, k < 0 → parseFieldDescriptor (TJ9 k).2.2.1 = some (tyJ9 k) := by decide +kernel
abbrev cJ9_max_7cf53 : ByteArray := prog_16_method_65_code
def yJ9_max_7cf53 : MethodName := ⟨RJ9, "max", "(II)I"⟩
abbrev cJ9_min_7cf53 : ByteArray := prog_16_method_69_code
def yJ9_min_7cf53 : MethodName := ⟨RJ9, "min", "(II)I"⟩
def RJ10 : String := "java/lang/System"
def TJ10 : u_T := fun k => match k with
  | _ => ("", "", "", false)
def tyJ10 : Nat → FieldType := fun k => match k with
  | _ => .int
abbrev wsJ100 : List Cond := u_ws RJ10 TJ10 0
theorem nmJ10 : ∀ a, a < 0 → ∀ b, b < 0 → a ≠ b → (TJ10 a).2.1 ≠ (TJ10 b).2.1 := by decide +kernel
theorem tyJ10_ok : ∀ k, k < 0 → parseFieldDescriptor (TJ10 k).2.2.1 = some (tyJ10 k) := by decide +kernel
def RJ7 : String := "java/util/Arrays"
def TJ7 : u_T := fun k => match k with
  | _ => ("", "", "", false)
def tyJ7 : Nat → FieldType := fun k => match k with
  | _ => .int
abbrev wsJ70 : List Cond := u_ws RJ7 TJ7 0
theorem nmJ7 : ∀ a, a < 0 → ∀ b, b < 0 → a ≠ b → (TJ7 a).2.1 ≠ (TJ7 b).2.1 := by decide +kernel
theorem tyJ7_ok : ∀ k, k < 0 → parseFieldDescriptor (TJ7 k).2.2.1 = some (tyJ7 k) := by decide +kernel
abbrev cJ7_fill_d0a16 : ByteArray := prog_18_method_101_code
def yJ7_fill_d0a16 : MethodName := ⟨RJ7, "fill", "([JJ)V"⟩
def RL : String := "DawnTalesLaw"
abbrev cL_law : ByteArray := code
def yL_law : MethodName := ⟨RL, "law", "([I)Z"⟩
end
section
def am_T : List Cond := lw_tbl.filter goodWord
theorem am_mem {w : Cond} (h : w ∈ lw_tbl) (hg : goodWord w = true) : w ∈ am_T := List.mem_filter.mpr ⟨h, hg⟩
theorem am_in {w : Cond} (h : w ∈ am_T) : w ∈ lw_tbl ∧ goodWord w = true := List.mem_filter.mp h
theorem am_tb {w : Cond} (h : w ∈ tables_1) : w ∈ lw_tbl := List.mem_append_right _ h
theorem am_c1 {w : Cond} (h : w ∈ tables_1_1) : w ∈ lw_tbl := am_tb (List.mem_append_left _ h)
theorem am_c2 {w : Cond} (h : w ∈ tables_1_2) : w ∈ lw_tbl := am_tb (List.mem_append_right _ (List.mem_append_left _ h))
theorem am_c3 {w : Cond} (h : w ∈ tables_1_3) : w ∈ lw_tbl := am_tb (List.mem_append_right _ (List.mem_append_right _ (List.mem_append_left _ h)))
theorem am_c4 {w : Cond} (h : w ∈ tables_1_4) : w ∈ lw_tbl := am_tb (List.mem_append_right _ (List.mem_append_right _ (List.mem_append_right _ (List.mem_append_left _ h))))
theorem am_c5 {w : Cond} (h : w ∈ tables_1_5) : w ∈ lw_tbl := am_tb (List.mem_append_right _ (List.mem_append_right _ (List.mem_append_right _ (List.mem_append_right _ h))))
theorem am_pv {q : MethodName × Nat} (h : q ∈ lw_privs) : Cond.selects q.1.cls q.1 q.1 ∈ lw_tbl := List.mem_append_left _ (List.mem_map.mpr ⟨q, h, rfl⟩)
theorem tw_0 : ((Jvm.Cond.initialized "DawnTalesLaw") : Jvm.Cond) ∈ am_T := am_mem (am_c1 (List.mem_of_getElem? (i := 0) rfl)) rfl
theorem tw_1 : ((Jvm.Cond.initialized "DawnTales") : Jvm.Cond) ∈ am_T := am_mem (am_c1 (List.mem_of_getElem? (i := 1) rfl)) rfl
theorem tw_2 : ((Jvm.Cond.initialized "DawnTales$Text") : Jvm.Cond) ∈ am_T := am_mem (am_c1 (List.mem_of_getElem? (i := 2) rfl)) rfl
theorem tw_3 : ((Jvm.Cond.initialized "DawnTales$Book") : Jvm.Cond) ∈ am_T := am_mem (am_c1 (List.mem_of_getElem? (i := 3) rfl)) rfl
theorem tw_4 : ((Jvm.Cond.initialized "DawnTales$Stand") : Jvm.Cond) ∈ am_T := am_mem (am_c1 (List.mem_of_getElem? (i := 4) rfl)) rfl
theorem tw_5 : ((Jvm.Cond.initialized "DawnTales$Telling") : Jvm.Cond) ∈ am_T := am_mem (am_c1 (List.mem_of_getElem? (i := 5) rfl)) rfl
theorem tw_6 : ((Jvm.Cond.initialized "DawnTales$Rows") : Jvm.Cond) ∈ am_T := am_mem (am_c1 (List.mem_of_getElem? (i := 6) rfl)) rfl
theorem tw_7 : ((Jvm.Cond.initialized "DawnTales$TaleKind") : Jvm.Cond) ∈ am_T := am_mem (am_c1 (List.mem_of_getElem? (i := 7) rfl)) rfl
theorem tw_8 : ((Jvm.Cond.initialized "DawnTales$BorrowedKind") : Jvm.Cond) ∈ am_T := am_mem (am_c1 (List.mem_of_getElem? (i := 8) rfl)) rfl
theorem tw_9 : ((Jvm.Cond.initialized "DawnTales$RingKind") : Jvm.Cond) ∈ am_T := am_mem (am_c1 (List.mem_of_getElem? (i := 9) rfl)) rfl
theorem tw_10 : ((Jvm.Cond.initialized "DawnTales$TrueKind") : Jvm.Cond) ∈ am_T := am_mem (am_c1 (List.mem_of_getElem? (i := 10) rfl)) rfl
theorem tw_11 : ((Jvm.Cond.initialized "DawnTales$EndlessKind") : Jvm.Cond) ∈ am_T := am_mem (am_c1 (List.mem_of_getElem? (i := 11) rfl)) rfl
theorem tw_12 : ((Jvm.Cond.initialized "DawnTales$JokeKind") : Jvm.Cond) ∈ am_T := am_mem (am_c1 (List.mem_of_getElem? (i := 12) rfl)) rfl
theorem tw_13 : ((Jvm.Cond.initialized "DawnTalesModel") : Jvm.Cond) ∈ am_T := am_mem (am_c1 (List.mem_of_getElem? (i := 13) rfl)) rfl
theorem tw_14 : ((Jvm.Cond.initialized "java/lang/Math") : Jvm.Cond) ∈ am_T := am_mem (am_c1 (List.mem_of_getElem? (i := 14) rfl)) rfl
theorem tw_15 : ((Jvm.Cond.initialized "java/lang/System") : Jvm.Cond) ∈ am_T := am_mem (am_c1 (List.mem_of_getElem? (i := 15) rfl)) rfl
theorem tw_16 : ((Jvm.Cond.initialized "java/util/Arrays") : Jvm.Cond) ∈ am_T := am_mem (am_c1 (List.mem_of_getElem? (i := 16) rfl)) rfl
theorem tw_17 : ((Jvm.Cond.initialized "java/lang/Integer") : Jvm.Cond) ∈ am_T := am_mem (am_c1 (List.mem_of_getElem? (i := 17) rfl)) rfl
theorem tw_18 : ((Jvm.Cond.classLink "DawnTalesLaw" (7 : Nat) "DawnTales") : Jvm.Cond) ∈ am_T := am_mem (am_c1 (List.mem_of_getElem? (i := 18) rfl)) rfl
theorem tw_19 : ((Jvm.Cond.instantiable "DawnTales" (11 : Nat)) : Jvm.Cond) ∈ am_T := am_mem (am_c1 (List.mem_of_getElem? (i := 19) rfl)) rfl
theorem tw_20 : ((Jvm.Cond.methodLink "DawnTalesLaw" (9 : Nat) ({ cls := "DawnTales", name := "<init>", desc := "()V" } : Jvm.MethodName)) : Jvm.Cond) ∈ am_T := am_mem (am_c1 (List.mem_of_getElem? (i := 20) rfl)) rfl
theorem tw_21 : ((Jvm.Cond.instanceMethod ({ cls := "DawnTales", name := "<init>", desc := "()V" } : Jvm.MethodName)) : Jvm.Cond) ∈ am_T := am_mem (am_c1 (List.mem_of_getElem? (i := 21) rfl)) rfl
theorem tw_22 : ((Jvm.Cond.code ({ cls := "DawnTales", name := "<init>", desc := "()V" } : Jvm.MethodName) prog_1_method_1_code (2 : Nat) (Option.none : Option Jvm.ClassFile.FieldType)) : Jvm.Cond) ∈ am_T := am_mem (am_c1 (List.mem_of_getElem? (i := 22) rfl)) rfl
theorem tw_23 : ((Jvm.Cond.methodLink "DawnTales" (1 : Nat) ({ cls := "java/lang/Object", name := "<init>", desc := "()V" } : Jvm.MethodName)) : Jvm.Cond) ∈ am_T := am_mem (am_c1 (List.mem_of_getElem? (i := 23) rfl)) rfl
theorem tw_24 : ((Jvm.Cond.instanceMethod ({ cls := "java/lang/Object", name := "<init>", desc := "()V" } : Jvm.MethodName)) : Jvm.Cond) ∈ am_T := am_mem (am_c1 (List.mem_of_getElem? (i := 24) rfl)) rfl
theorem tw_25 : ((Jvm.Cond.code ({ cls := "java/lang/Object", name := "<init>", desc := "()V" } : Jvm.MethodName) object_method_1_code (1 : Nat) (Option.none : Option Jvm.ClassFile.FieldType)) : Jvm.Cond) ∈ am_T := am_mem (am_c1 (List.mem_of_getElem? (i := 25) rfl)) rfl
theorem tw_26 : ((Jvm.Cond.classLink "DawnTales" (7 : Nat) "DawnTales$Text") : Jvm.Cond) ∈ am_T := am_mem (am_c1 (List.mem_of_getElem? (i := 26) rfl)) rfl
theorem tw_27 : ((Jvm.Cond.instantiable "DawnTales$Text" (6 : Nat)) : Jvm.Cond) ∈ am_T := am_mem (am_c1 (List.mem_of_getElem? (i := 27) rfl)) rfl
theorem tw_28 : ((Jvm.Cond.methodLinkNest "DawnTales" (9 : Nat) ({ cls := "DawnTales$Text", name := "<init>", desc := "()V" } : Jvm.MethodName) "DawnTales") : Jvm.Cond) ∈ lw_tbl := am_c1 (List.mem_of_getElem? (i := 28) rfl)
theorem tw_29 : ((Jvm.Cond.instanceMethod ({ cls := "DawnTales$Text", name := "<init>", desc := "()V" } : Jvm.MethodName)) : Jvm.Cond) ∈ am_T := am_mem (am_c1 (List.mem_of_getElem? (i := 29) rfl)) rfl
theorem tw_30 : ((Jvm.Cond.code ({ cls := "DawnTales$Text", name := "<init>", desc := "()V" } : Jvm.MethodName) prog_11_method_1_code (1 : Nat) (Option.none : Option Jvm.ClassFile.FieldType)) : Jvm.Cond) ∈ am_T := am_mem (am_c1 (List.mem_of_getElem? (i := 30) rfl)) rfl
theorem tw_31 : ((Jvm.Cond.methodLink "DawnTales$Text" (3 : Nat) ({ cls := "java/lang/Object", name := "<init>", desc := "()V" } : Jvm.MethodName)) : Jvm.Cond) ∈ am_T := am_mem (am_c1 (List.mem_of_getElem? (i := 31) rfl)) rfl
theorem tw_32 : ((Jvm.Cond.fieldLink "DawnTales$Text" (9 : Nat) "DawnTales$Text" "bytes" "[I") : Jvm.Cond) ∈ am_T := am_mem (am_c1 (List.mem_of_getElem? (i := 32) rfl)) rfl
theorem tw_33 : ((Jvm.Cond.fieldLink "DawnTales$Text" (15 : Nat) "DawnTales$Text" "length" "I") : Jvm.Cond) ∈ am_T := am_mem (am_c1 (List.mem_of_getElem? (i := 33) rfl)) rfl
theorem tw_34 : ((Jvm.Cond.fieldLink "DawnTales" (80 : Nat) "DawnTales$Text" "length" "I") : Jvm.Cond) ∈ am_T := am_mem (am_c1 (List.mem_of_getElem? (i := 34) rfl)) rfl
theorem tw_35 : ((Jvm.Cond.fieldLink "DawnTales" (92 : Nat) "DawnTales$Text" "at" "I") : Jvm.Cond) ∈ am_T := am_mem (am_c1 (List.mem_of_getElem? (i := 35) rfl)) rfl
theorem tw_36 : ((Jvm.Cond.fieldLink "DawnTales$Text" (83 : Nat) "DawnTales$Text" "at" "I") : Jvm.Cond) ∈ am_T := am_mem (am_c1 (List.mem_of_getElem? (i := 36) rfl)) rfl
theorem tw_37 : ((Jvm.Cond.fieldLink "DawnTales$Text" (24 : Nat) "DawnTales$Text" "after" "I") : Jvm.Cond) ∈ am_T := am_mem (am_c1 (List.mem_of_getElem? (i := 37) rfl)) rfl
theorem tw_38 : ((Jvm.Cond.fieldLink "DawnTales$Text" (30 : Nat) "DawnTales$Text" "token" "I") : Jvm.Cond) ∈ am_T := am_mem (am_c1 (List.mem_of_getElem? (i := 38) rfl)) rfl
theorem tw_39 : ((Jvm.Cond.fieldLink "DawnTales$Text" (40 : Nat) "DawnTales$Text" "value" "I") : Jvm.Cond) ∈ am_T := am_mem (am_c1 (List.mem_of_getElem? (i := 39) rfl)) rfl
theorem tw_40 : ((Jvm.Cond.laysFinal "DawnTales$Text" "DawnTales$Text" "bytes" "[I") : Jvm.Cond) ∈ am_T := am_mem (am_c1 (List.mem_of_getElem? (i := 40) rfl)) rfl
theorem tw_42 : ((Jvm.Cond.lays "DawnTales$Text" "DawnTales$Text" "length" "I") : Jvm.Cond) ∈ am_T := am_mem (am_c1 (List.mem_of_getElem? (i := 42) rfl)) rfl
theorem tw_44 : ((Jvm.Cond.lays "DawnTales$Text" "DawnTales$Text" "at" "I") : Jvm.Cond) ∈ am_T := am_mem (am_c1 (List.mem_of_getElem? (i := 44) rfl)) rfl
theorem tw_46 : ((Jvm.Cond.lays "DawnTales$Text" "DawnTales$Text" "after" "I") : Jvm.Cond) ∈ am_T := am_mem (am_c1 (List.mem_of_getElem? (i := 46) rfl)) rfl
theorem tw_48 : ((Jvm.Cond.lays "DawnTales$Text" "DawnTales$Text" "token" "I") : Jvm.Cond) ∈ am_T := am_mem (am_c1 (List.mem_of_getElem? (i := 48) rfl)) rfl
theorem tw_50 : ((Jvm.Cond.lays "DawnTales$Text" "DawnTales$Text" "value" "I") : Jvm.Cond) ∈ am_T := am_mem (am_c1 (List.mem_of_getElem? (i := 50) rfl)) rfl
theorem tw_52 : ((Jvm.Cond.superclass "DawnTales$Text" "java/lang/Object") : Jvm.Cond) ∈ am_T := am_mem (am_c1 (List.mem_of_getElem? (i := 52) rfl)) rfl
theorem tw_53 : ((Jvm.Cond.arrayClass Jvm.ClassFile.FieldType.int) : Jvm.Cond) ∈ am_T := am_mem (am_c1 (List.mem_of_getElem? (i := 53) rfl)) rfl
theorem tw_54 : ((Jvm.Cond.classLink "DawnTales" (16 : Nat) "DawnTales$Book") : Jvm.Cond) ∈ am_T := am_mem (am_c1 (List.mem_of_getElem? (i := 54) rfl)) rfl
theorem tw_55 : ((Jvm.Cond.instantiable "DawnTales$Book" (7 : Nat)) : Jvm.Cond) ∈ am_T := am_mem (am_c1 (List.mem_of_getElem? (i := 55) rfl)) rfl
theorem tw_56 : ((Jvm.Cond.methodLink "DawnTales" (18 : Nat) ({ cls := "DawnTales$Book", name := "<init>", desc := "()V" } : Jvm.MethodName)) : Jvm.Cond) ∈ am_T := am_mem (am_c1 (List.mem_of_getElem? (i := 56) rfl)) rfl
theorem tw_57 : ((Jvm.Cond.instanceMethod ({ cls := "DawnTales$Book", name := "<init>", desc := "()V" } : Jvm.MethodName)) : Jvm.Cond) ∈ am_T := am_mem (am_c1 (List.mem_of_getElem? (i := 57) rfl)) rfl
theorem tw_58 : ((Jvm.Cond.code ({ cls := "DawnTales$Book", name := "<init>", desc := "()V" } : Jvm.MethodName) prog_2_method_1_code (1 : Nat) (Option.none : Option Jvm.ClassFile.FieldType)) : Jvm.Cond) ∈ am_T := am_mem (am_c1 (List.mem_of_getElem? (i := 58) rfl)) rfl
theorem tw_59 : ((Jvm.Cond.methodLink "DawnTales$Book" (3 : Nat) ({ cls := "java/lang/Object", name := "<init>", desc := "()V" } : Jvm.MethodName)) : Jvm.Cond) ∈ am_T := am_mem (am_c1 (List.mem_of_getElem? (i := 59) rfl)) rfl
theorem tw_60 : ((Jvm.Cond.methodLink "DawnTales$Book" (21 : Nat) ({ cls := "DawnTales$Book", name := "wipe", desc := "()V" } : Jvm.MethodName)) : Jvm.Cond) ∈ am_T := am_mem (am_c1 (List.mem_of_getElem? (i := 60) rfl)) rfl
theorem tw_61 : ((Jvm.Cond.instanceMethod ({ cls := "DawnTales$Book", name := "wipe", desc := "()V" } : Jvm.MethodName)) : Jvm.Cond) ∈ am_T := am_mem (am_c1 (List.mem_of_getElem? (i := 61) rfl)) rfl
theorem tw_62 : ((Jvm.Cond.selects "DawnTales$Book" ({ cls := "DawnTales$Book", name := "wipe", desc := "()V" } : Jvm.MethodName) ({ cls := "DawnTales$Book", name := "wipe", desc := "()V" } : Jvm.MethodName)) : Jvm.Cond) ∈ am_T := am_mem (am_c1 (List.mem_of_getElem? (i := 62) rfl)) rfl
theorem tw_63 : ((Jvm.Cond.code ({ cls := "DawnTales$Book", name := "wipe", desc := "()V" } : Jvm.MethodName) prog_2_method_2_code (1 : Nat) (Option.none : Option Jvm.ClassFile.FieldType)) : Jvm.Cond) ∈ am_T := am_mem (am_c1 (List.mem_of_getElem? (i := 63) rfl)) rfl
theorem tw_64 : ((Jvm.Cond.methodLink "DawnTales$Book" (24 : Nat) ({ cls := "DawnTales$Book", name := "settle", desc := "()V" } : Jvm.MethodName)) : Jvm.Cond) ∈ am_T := am_mem (am_c1 (List.mem_of_getElem? (i := 64) rfl)) rfl
theorem tw_65 : ((Jvm.Cond.instanceMethod ({ cls := "DawnTales$Book", name := "settle", desc := "()V" } : Jvm.MethodName)) : Jvm.Cond) ∈ am_T := am_mem (am_c1 (List.mem_of_getElem? (i := 65) rfl)) rfl
theorem tw_66 : ((Jvm.Cond.selects "DawnTales$Book" ({ cls := "DawnTales$Book", name := "settle", desc := "()V" } : Jvm.MethodName) ({ cls := "DawnTales$Book", name := "settle", desc := "()V" } : Jvm.MethodName)) : Jvm.Cond) ∈ am_T := am_mem (am_c1 (List.mem_of_getElem? (i := 66) rfl)) rfl
theorem tw_67 : ((Jvm.Cond.code ({ cls := "DawnTales$Book", name := "settle", desc := "()V" } : Jvm.MethodName) prog_2_method_3_code (1 : Nat) (Option.none : Option Jvm.ClassFile.FieldType)) : Jvm.Cond) ∈ am_T := am_mem (am_c1 (List.mem_of_getElem? (i := 67) rfl)) rfl
theorem tw_68 : ((Jvm.Cond.methodLink "DawnTales$Book" (40 : Nat) ({ cls := "DawnTales$Book", name := "addNight", desc := "(I)V" } : Jvm.MethodName)) : Jvm.Cond) ∈ am_T := am_mem (am_c1 (List.mem_of_getElem? (i := 68) rfl)) rfl
theorem tw_69 : ((Jvm.Cond.instanceMethod ({ cls := "DawnTales$Book", name := "addNight", desc := "(I)V" } : Jvm.MethodName)) : Jvm.Cond) ∈ am_T := am_mem (am_c1 (List.mem_of_getElem? (i := 69) rfl)) rfl
theorem tw_70 : ((Jvm.Cond.selects "DawnTales$Book" ({ cls := "DawnTales$Book", name := "addNight", desc := "(I)V" } : Jvm.MethodName) ({ cls := "DawnTales$Book", name := "addNight", desc := "(I)V" } : Jvm.MethodName)) : Jvm.Cond) ∈ am_T := am_mem (am_c1 (List.mem_of_getElem? (i := 70) rfl)) rfl
theorem tw_71 : ((Jvm.Cond.code ({ cls := "DawnTales$Book", name := "addNight", desc := "(I)V" } : Jvm.MethodName) prog_2_method_7_code (2 : Nat) (Option.none : Option Jvm.ClassFile.FieldType)) : Jvm.Cond) ∈ am_T := am_mem (am_c1 (List.mem_of_getElem? (i := 71) rfl)) rfl
theorem tw_72 : ((Jvm.Cond.fieldLink "DawnTales$Book" (27 : Nat) "DawnTales$Book" "tales" "I") : Jvm.Cond) ∈ am_T := am_mem (am_c1 (List.mem_of_getElem? (i := 72) rfl)) rfl
theorem tw_73 : ((Jvm.Cond.fieldLink "DawnTales$Text" (55 : Nat) "DawnTales$Book" "tales" "I") : Jvm.Cond) ∈ am_T := am_mem (am_c1 (List.mem_of_getElem? (i := 73) rfl)) rfl
theorem tw_74 : ((Jvm.Cond.fieldLink "DawnTales$Rows" (122 : Nat) "DawnTales$Book" "tales" "I") : Jvm.Cond) ∈ am_T := am_mem (am_c1 (List.mem_of_getElem? (i := 74) rfl)) rfl
theorem tw_75 : ((Jvm.Cond.fieldLink "DawnTales$Telling" (66 : Nat) "DawnTales$Book" "tales" "I") : Jvm.Cond) ∈ am_T := am_mem (am_c1 (List.mem_of_getElem? (i := 75) rfl)) rfl
theorem tw_76 : ((Jvm.Cond.fieldLink "DawnTales" (194 : Nat) "DawnTales$Book" "tales" "I") : Jvm.Cond) ∈ am_T := am_mem (am_c1 (List.mem_of_getElem? (i := 76) rfl)) rfl
theorem tw_77 : ((Jvm.Cond.fieldLink "DawnTales$Book" (9 : Nat) "DawnTales$Book" "parts" "[I") : Jvm.Cond) ∈ am_T := am_mem (am_c1 (List.mem_of_getElem? (i := 77) rfl)) rfl
theorem tw_78 : ((Jvm.Cond.fieldLink "DawnTales$Book" (15 : Nat) "DawnTales$Book" "within" "[I") : Jvm.Cond) ∈ am_T := am_mem (am_c1 (List.mem_of_getElem? (i := 78) rfl)) rfl
theorem tw_79 : ((Jvm.Cond.fieldLink "DawnTales$Telling" (83 : Nat) "DawnTales$Book" "within" "[I") : Jvm.Cond) ∈ am_T := am_mem (am_c1 (List.mem_of_getElem? (i := 79) rfl)) rfl
theorem tw_80 : ((Jvm.Cond.fieldLink "DawnTales$Book" (31 : Nat) "DawnTales$Book" "nights" "I") : Jvm.Cond) ∈ am_T := am_mem (am_c1 (List.mem_of_getElem? (i := 80) rfl)) rfl
theorem tw_81 : ((Jvm.Cond.fieldLink "DawnTales$Text" (66 : Nat) "DawnTales$Book" "nights" "I") : Jvm.Cond) ∈ am_T := am_mem (am_c1 (List.mem_of_getElem? (i := 81) rfl)) rfl
theorem tw_82 : ((Jvm.Cond.fieldLink "DawnTales" (283 : Nat) "DawnTales$Book" "nights" "I") : Jvm.Cond) ∈ am_T := am_mem (am_c1 (List.mem_of_getElem? (i := 82) rfl)) rfl
theorem tw_83 : ((Jvm.Cond.fieldLink "DawnTales$Book" (18 : Nat) "DawnTales$Book" "nightHours" "[I") : Jvm.Cond) ∈ am_T := am_mem (am_c1 (List.mem_of_getElem? (i := 83) rfl)) rfl
theorem tw_84 : ((Jvm.Cond.fieldLink "DawnTales$Book" (34 : Nat) "DawnTales$Book" "memory" "I") : Jvm.Cond) ∈ am_T := am_mem (am_c1 (List.mem_of_getElem? (i := 84) rfl)) rfl
theorem tw_85 : ((Jvm.Cond.fieldLink "DawnTales$Text" (73 : Nat) "DawnTales$Book" "memory" "I") : Jvm.Cond) ∈ am_T := am_mem (am_c1 (List.mem_of_getElem? (i := 85) rfl)) rfl
theorem tw_86 : ((Jvm.Cond.fieldLink "DawnTales$Telling" (109 : Nat) "DawnTales$Book" "memory" "I") : Jvm.Cond) ∈ am_T := am_mem (am_c1 (List.mem_of_getElem? (i := 86) rfl)) rfl
theorem tw_87 : ((Jvm.Cond.fieldLink "DawnTales" (286 : Nat) "DawnTales$Book" "memory" "I") : Jvm.Cond) ∈ am_T := am_mem (am_c1 (List.mem_of_getElem? (i := 87) rfl)) rfl
theorem tw_88 : ((Jvm.Cond.fieldLink "DawnTales$Book" (37 : Nat) "DawnTales$Book" "depth" "I") : Jvm.Cond) ∈ am_T := am_mem (am_c1 (List.mem_of_getElem? (i := 88) rfl)) rfl
theorem tw_89 : ((Jvm.Cond.fieldLink "DawnTales$Text" (76 : Nat) "DawnTales$Book" "depth" "I") : Jvm.Cond) ∈ am_T := am_mem (am_c1 (List.mem_of_getElem? (i := 89) rfl)) rfl
theorem tw_90 : ((Jvm.Cond.fieldLink "DawnTales$Telling" (80 : Nat) "DawnTales$Book" "depth" "I") : Jvm.Cond) ∈ am_T := am_mem (am_c1 (List.mem_of_getElem? (i := 90) rfl)) rfl
theorem tw_91 : ((Jvm.Cond.fieldLink "DawnTales" (289 : Nat) "DawnTales$Book" "depth" "I") : Jvm.Cond) ∈ am_T := am_mem (am_c1 (List.mem_of_getElem? (i := 91) rfl)) rfl
theorem tw_92 : ((Jvm.Cond.lays "DawnTales$Book" "DawnTales$Book" "tales" "I") : Jvm.Cond) ∈ am_T := am_mem (am_c1 (List.mem_of_getElem? (i := 92) rfl)) rfl
theorem tw_94 : ((Jvm.Cond.laysFinal "DawnTales$Book" "DawnTales$Book" "parts" "[I") : Jvm.Cond) ∈ am_T := am_mem (am_c1 (List.mem_of_getElem? (i := 94) rfl)) rfl
theorem tw_96 : ((Jvm.Cond.laysFinal "DawnTales$Book" "DawnTales$Book" "within" "[I") : Jvm.Cond) ∈ am_T := am_mem (am_c1 (List.mem_of_getElem? (i := 96) rfl)) rfl
theorem tw_98 : ((Jvm.Cond.lays "DawnTales$Book" "DawnTales$Book" "nights" "I") : Jvm.Cond) ∈ am_T := am_mem (am_c1 (List.mem_of_getElem? (i := 98) rfl)) rfl
theorem tw_100 : ((Jvm.Cond.laysFinal "DawnTales$Book" "DawnTales$Book" "nightHours" "[I") : Jvm.Cond) ∈ am_T := am_mem (am_c1 (List.mem_of_getElem? (i := 100) rfl)) rfl
theorem tw_102 : ((Jvm.Cond.lays "DawnTales$Book" "DawnTales$Book" "memory" "I") : Jvm.Cond) ∈ am_T := am_mem (am_c1 (List.mem_of_getElem? (i := 102) rfl)) rfl
theorem tw_104 : ((Jvm.Cond.lays "DawnTales$Book" "DawnTales$Book" "depth" "I") : Jvm.Cond) ∈ am_T := am_mem (am_c1 (List.mem_of_getElem? (i := 104) rfl)) rfl
theorem tw_106 : ((Jvm.Cond.superclass "DawnTales$Book" "java/lang/Object") : Jvm.Cond) ∈ am_T := am_mem (am_c1 (List.mem_of_getElem? (i := 106) rfl)) rfl
theorem tw_107 : ((Jvm.Cond.classLink "DawnTales" (26 : Nat) "DawnTales$Stand") : Jvm.Cond) ∈ am_T := am_mem (am_c1 (List.mem_of_getElem? (i := 107) rfl)) rfl
theorem tw_108 : ((Jvm.Cond.instantiable "DawnTales$Stand" (3 : Nat)) : Jvm.Cond) ∈ am_T := am_mem (am_c1 (List.mem_of_getElem? (i := 108) rfl)) rfl
theorem tw_109 : ((Jvm.Cond.methodLink "DawnTales" (28 : Nat) ({ cls := "DawnTales$Stand", name := "<init>", desc := "()V" } : Jvm.MethodName)) : Jvm.Cond) ∈ am_T := am_mem (am_c1 (List.mem_of_getElem? (i := 109) rfl)) rfl
theorem tw_110 : ((Jvm.Cond.instanceMethod ({ cls := "DawnTales$Stand", name := "<init>", desc := "()V" } : Jvm.MethodName)) : Jvm.Cond) ∈ am_T := am_mem (am_c1 (List.mem_of_getElem? (i := 110) rfl)) rfl
theorem tw_111 : ((Jvm.Cond.code ({ cls := "DawnTales$Stand", name := "<init>", desc := "()V" } : Jvm.MethodName) prog_8_method_1_code (2 : Nat) (Option.none : Option Jvm.ClassFile.FieldType)) : Jvm.Cond) ∈ am_T := am_mem (am_c1 (List.mem_of_getElem? (i := 111) rfl)) rfl
theorem tw_112 : ((Jvm.Cond.methodLink "DawnTales$Stand" (3 : Nat) ({ cls := "java/lang/Object", name := "<init>", desc := "()V" } : Jvm.MethodName)) : Jvm.Cond) ∈ am_T := am_mem (am_c1 (List.mem_of_getElem? (i := 112) rfl)) rfl
theorem tw_113 : ((Jvm.Cond.classLink "DawnTales$Stand" (9 : Nat) "DawnTales$Telling") : Jvm.Cond) ∈ am_T := am_mem (am_c1 (List.mem_of_getElem? (i := 113) rfl)) rfl
theorem tw_114 : ((Jvm.Cond.instantiable "DawnTales$Telling" (10 : Nat)) : Jvm.Cond) ∈ am_T := am_mem (am_c1 (List.mem_of_getElem? (i := 114) rfl)) rfl
theorem tw_115 : ((Jvm.Cond.methodLinkNest "DawnTales$Stand" (11 : Nat) ({ cls := "DawnTales$Telling", name := "<init>", desc := "()V" } : Jvm.MethodName) "DawnTales") : Jvm.Cond) ∈ lw_tbl := am_c1 (List.mem_of_getElem? (i := 115) rfl)
theorem tw_116 : ((Jvm.Cond.instanceMethod ({ cls := "DawnTales$Telling", name := "<init>", desc := "()V" } : Jvm.MethodName)) : Jvm.Cond) ∈ am_T := am_mem (am_c1 (List.mem_of_getElem? (i := 116) rfl)) rfl
theorem tw_117 : ((Jvm.Cond.code ({ cls := "DawnTales$Telling", name := "<init>", desc := "()V" } : Jvm.MethodName) prog_10_method_1_code (1 : Nat) (Option.none : Option Jvm.ClassFile.FieldType)) : Jvm.Cond) ∈ am_T := am_mem (am_c1 (List.mem_of_getElem? (i := 117) rfl)) rfl
theorem tw_118 : ((Jvm.Cond.methodLink "DawnTales$Telling" (3 : Nat) ({ cls := "java/lang/Object", name := "<init>", desc := "()V" } : Jvm.MethodName)) : Jvm.Cond) ∈ am_T := am_mem (am_c1 (List.mem_of_getElem? (i := 118) rfl)) rfl
theorem tw_119 : ((Jvm.Cond.fieldLink "DawnTales$Telling" (21 : Nat) "DawnTales$Telling" "night" "I") : Jvm.Cond) ∈ am_T := am_mem (am_c1 (List.mem_of_getElem? (i := 119) rfl)) rfl
theorem tw_120 : ((Jvm.Cond.fieldLink "DawnTales$JokeKind" (19 : Nat) "DawnTales$Telling" "night" "I") : Jvm.Cond) ∈ am_T := am_mem (am_c1 (List.mem_of_getElem? (i := 120) rfl)) rfl
theorem tw_121 : ((Jvm.Cond.fieldLink "DawnTales" (174 : Nat) "DawnTales$Telling" "night" "I") : Jvm.Cond) ∈ am_T := am_mem (am_c1 (List.mem_of_getElem? (i := 121) rfl)) rfl
theorem tw_122 : ((Jvm.Cond.fieldLink "DawnTales$Telling" (31 : Nat) "DawnTales$Telling" "hoursLeft" "I") : Jvm.Cond) ∈ am_T := am_mem (am_c1 (List.mem_of_getElem? (i := 122) rfl)) rfl
theorem tw_123 : ((Jvm.Cond.fieldLink "DawnTales$Rows" (84 : Nat) "DawnTales$Telling" "hoursLeft" "I") : Jvm.Cond) ∈ am_T := am_mem (am_c1 (List.mem_of_getElem? (i := 123) rfl)) rfl
theorem tw_124 : ((Jvm.Cond.fieldLink "DawnTales" (141 : Nat) "DawnTales$Telling" "hoursLeft" "I") : Jvm.Cond) ∈ am_T := am_mem (am_c1 (List.mem_of_getElem? (i := 124) rfl)) rfl
theorem tw_125 : ((Jvm.Cond.fieldLink "DawnTales$Telling" (34 : Nat) "DawnTales$Telling" "saved" "I") : Jvm.Cond) ∈ am_T := am_mem (am_c1 (List.mem_of_getElem? (i := 125) rfl)) rfl
theorem tw_126 : ((Jvm.Cond.fieldLink "DawnTales" (181 : Nat) "DawnTales$Telling" "saved" "I") : Jvm.Cond) ∈ am_T := am_mem (am_c1 (List.mem_of_getElem? (i := 126) rfl)) rfl
theorem tw_127 : ((Jvm.Cond.fieldLink "DawnTales$Telling" (37 : Nat) "DawnTales$Telling" "lives" "Z") : Jvm.Cond) ∈ am_T := am_mem (am_c1 (List.mem_of_getElem? (i := 127) rfl)) rfl
theorem tw_128 : ((Jvm.Cond.fieldLink "DawnTales" (177 : Nat) "DawnTales$Telling" "lives" "Z") : Jvm.Cond) ∈ am_T := am_mem (am_c1 (List.mem_of_getElem? (i := 128) rfl)) rfl
theorem tw_129 : ((Jvm.Cond.fieldLink "DawnTales$Telling" (41 : Nat) "DawnTales$Telling" "begun" "I") : Jvm.Cond) ∈ am_T := am_mem (am_c1 (List.mem_of_getElem? (i := 129) rfl)) rfl
theorem tw_130 : ((Jvm.Cond.fieldLink "DawnTales$Telling" (44 : Nat) "DawnTales$Telling" "openBits" "I") : Jvm.Cond) ∈ am_T := am_mem (am_c1 (List.mem_of_getElem? (i := 130) rfl)) rfl
theorem tw_131 : ((Jvm.Cond.fieldLink "DawnTales$Rows" (73 : Nat) "DawnTales$Telling" "openBits" "I") : Jvm.Cond) ∈ am_T := am_mem (am_c1 (List.mem_of_getElem? (i := 131) rfl)) rfl
theorem tw_132 : ((Jvm.Cond.fieldLink "DawnTales$EndlessKind" (19 : Nat) "DawnTales$Telling" "deep" "I") : Jvm.Cond) ∈ am_T := am_mem (am_c1 (List.mem_of_getElem? (i := 132) rfl)) rfl
theorem tw_133 : ((Jvm.Cond.fieldLink "DawnTales$Telling" (47 : Nat) "DawnTales$Telling" "deep" "I") : Jvm.Cond) ∈ am_T := am_mem (am_c1 (List.mem_of_getElem? (i := 133) rfl)) rfl
theorem tw_134 : ((Jvm.Cond.fieldLink "DawnTales" (148 : Nat) "DawnTales$Telling" "deep" "I") : Jvm.Cond) ∈ am_T := am_mem (am_c1 (List.mem_of_getElem? (i := 134) rfl)) rfl
theorem tw_135 : ((Jvm.Cond.fieldLink "DawnTales$Telling" (9 : Nat) "DawnTales$Telling" "open" "[I") : Jvm.Cond) ∈ am_T := am_mem (am_c1 (List.mem_of_getElem? (i := 135) rfl)) rfl
theorem tw_136 : ((Jvm.Cond.fieldLink "DawnTales$Telling" (15 : Nat) "DawnTales$Telling" "left" "[I") : Jvm.Cond) ∈ am_T := am_mem (am_c1 (List.mem_of_getElem? (i := 136) rfl)) rfl
theorem tw_137 : ((Jvm.Cond.fieldLink "DawnTales$Telling" (18 : Nat) "DawnTales$Telling" "lastNight" "[I") : Jvm.Cond) ∈ am_T := am_mem (am_c1 (List.mem_of_getElem? (i := 137) rfl)) rfl
theorem tw_138 : ((Jvm.Cond.lays "DawnTales$Telling" "DawnTales$Telling" "night" "I") : Jvm.Cond) ∈ am_T := am_mem (am_c1 (List.mem_of_getElem? (i := 138) rfl)) rfl
theorem tw_140 : ((Jvm.Cond.lays "DawnTales$Telling" "DawnTales$Telling" "hoursLeft" "I") : Jvm.Cond) ∈ am_T := am_mem (am_c1 (List.mem_of_getElem? (i := 140) rfl)) rfl
theorem tw_142 : ((Jvm.Cond.lays "DawnTales$Telling" "DawnTales$Telling" "saved" "I") : Jvm.Cond) ∈ am_T := am_mem (am_c1 (List.mem_of_getElem? (i := 142) rfl)) rfl
theorem tw_144 : ((Jvm.Cond.lays "DawnTales$Telling" "DawnTales$Telling" "lives" "Z") : Jvm.Cond) ∈ am_T := am_mem (am_c1 (List.mem_of_getElem? (i := 144) rfl)) rfl
theorem tw_146 : ((Jvm.Cond.lays "DawnTales$Telling" "DawnTales$Telling" "begun" "I") : Jvm.Cond) ∈ am_T := am_mem (am_c1 (List.mem_of_getElem? (i := 146) rfl)) rfl
theorem tw_148 : ((Jvm.Cond.lays "DawnTales$Telling" "DawnTales$Telling" "openBits" "I") : Jvm.Cond) ∈ am_T := am_mem (am_c1 (List.mem_of_getElem? (i := 148) rfl)) rfl
theorem tw_150 : ((Jvm.Cond.lays "DawnTales$Telling" "DawnTales$Telling" "deep" "I") : Jvm.Cond) ∈ am_T := am_mem (am_c1 (List.mem_of_getElem? (i := 150) rfl)) rfl
theorem tw_152 : ((Jvm.Cond.laysFinal "DawnTales$Telling" "DawnTales$Telling" "open" "[I") : Jvm.Cond) ∈ am_T := am_mem (am_c1 (List.mem_of_getElem? (i := 152) rfl)) rfl
theorem tw_154 : ((Jvm.Cond.laysFinal "DawnTales$Telling" "DawnTales$Telling" "left" "[I") : Jvm.Cond) ∈ am_T := am_mem (am_c1 (List.mem_of_getElem? (i := 154) rfl)) rfl
theorem tw_156 : ((Jvm.Cond.laysFinal "DawnTales$Telling" "DawnTales$Telling" "lastNight" "[I") : Jvm.Cond) ∈ am_T := am_mem (am_c1 (List.mem_of_getElem? (i := 156) rfl)) rfl
theorem tw_158 : ((Jvm.Cond.superclass "DawnTales$Telling" "java/lang/Object") : Jvm.Cond) ∈ am_T := am_mem (am_c1 (List.mem_of_getElem? (i := 158) rfl)) rfl
theorem tw_159 : ((Jvm.Cond.arrayOver (Jvm.ClassFile.FieldType.object "DawnTales$Telling")) : Jvm.Cond) ∈ lw_tbl := am_c1 (List.mem_of_getElem? (i := 159) rfl)
theorem tw_160 : ((Jvm.Cond.fieldLink "DawnTales$Stand" (12 : Nat) "DawnTales$Stand" "now" "LDawnTales$Telling;") : Jvm.Cond) ∈ am_T := am_mem (am_c1 (List.mem_of_getElem? (i := 160) rfl)) rfl
theorem tw_161 : ((Jvm.Cond.fieldLink "DawnTales" (102 : Nat) "DawnTales$Stand" "now" "LDawnTales$Telling;") : Jvm.Cond) ∈ am_T := am_mem (am_c1 (List.mem_of_getElem? (i := 161) rfl)) rfl
theorem tw_162 : ((Jvm.Cond.fieldLink "DawnTales$Stand" (18 : Nat) "DawnTales$Stand" "past" "[LDawnTales$Telling;") : Jvm.Cond) ∈ am_T := am_mem (am_c1 (List.mem_of_getElem? (i := 162) rfl)) rfl
theorem tw_163 : ((Jvm.Cond.fieldLink "DawnTales$Stand" (26 : Nat) "DawnTales$Stand" "known" "I") : Jvm.Cond) ∈ am_T := am_mem (am_c1 (List.mem_of_getElem? (i := 163) rfl)) rfl
theorem tw_164 : ((Jvm.Cond.fieldLink "DawnTales" (171 : Nat) "DawnTales$Stand" "known" "I") : Jvm.Cond) ∈ am_T := am_mem (am_c1 (List.mem_of_getElem? (i := 164) rfl)) rfl
theorem tw_165 : ((Jvm.Cond.laysFinal "DawnTales$Stand" "DawnTales$Stand" "now" "LDawnTales$Telling;") : Jvm.Cond) ∈ am_T := am_mem (am_c1 (List.mem_of_getElem? (i := 165) rfl)) rfl
theorem tw_167 : ((Jvm.Cond.laysFinal "DawnTales$Stand" "DawnTales$Stand" "past" "[LDawnTales$Telling;") : Jvm.Cond) ∈ am_T := am_mem (am_c1 (List.mem_of_getElem? (i := 167) rfl)) rfl
theorem tw_169 : ((Jvm.Cond.lays "DawnTales$Stand" "DawnTales$Stand" "known" "I") : Jvm.Cond) ∈ am_T := am_mem (am_c1 (List.mem_of_getElem? (i := 169) rfl)) rfl
theorem tw_171 : ((Jvm.Cond.superclass "DawnTales$Stand" "java/lang/Object") : Jvm.Cond) ∈ am_T := am_mem (am_c1 (List.mem_of_getElem? (i := 171) rfl)) rfl
theorem tw_172 : ((Jvm.Cond.arrayOver (Jvm.ClassFile.FieldType.object "DawnTales$Stand")) : Jvm.Cond) ∈ lw_tbl := am_c1 (List.mem_of_getElem? (i := 172) rfl)
theorem tw_173 : ((Jvm.Cond.classLink "DawnTales" (37 : Nat) "DawnTales$Rows") : Jvm.Cond) ∈ am_T := am_mem (am_c1 (List.mem_of_getElem? (i := 173) rfl)) rfl
theorem tw_174 : ((Jvm.Cond.instantiable "DawnTales$Rows" (14 : Nat)) : Jvm.Cond) ∈ am_T := am_mem (am_c1 (List.mem_of_getElem? (i := 174) rfl)) rfl
theorem tw_175 : ((Jvm.Cond.methodLinkNest "DawnTales" (39 : Nat) ({ cls := "DawnTales$Rows", name := "<init>", desc := "()V" } : Jvm.MethodName) "DawnTales") : Jvm.Cond) ∈ lw_tbl := am_c1 (List.mem_of_getElem? (i := 175) rfl)
theorem tw_176 : ((Jvm.Cond.instanceMethod ({ cls := "DawnTales$Rows", name := "<init>", desc := "()V" } : Jvm.MethodName)) : Jvm.Cond) ∈ am_T := am_mem (am_c1 (List.mem_of_getElem? (i := 176) rfl)) rfl
theorem tw_177 : ((Jvm.Cond.code ({ cls := "DawnTales$Rows", name := "<init>", desc := "()V" } : Jvm.MethodName) prog_7_method_1_code (1 : Nat) (Option.none : Option Jvm.ClassFile.FieldType)) : Jvm.Cond) ∈ am_T := am_mem (am_c1 (List.mem_of_getElem? (i := 177) rfl)) rfl
theorem tw_178 : ((Jvm.Cond.methodLink "DawnTales$Rows" (3 : Nat) ({ cls := "java/lang/Object", name := "<init>", desc := "()V" } : Jvm.MethodName)) : Jvm.Cond) ∈ am_T := am_mem (am_c1 (List.mem_of_getElem? (i := 178) rfl)) rfl
theorem tw_179 : ((Jvm.Cond.classLink "DawnTales$Rows" (27 : Nat) "DawnTales$Telling") : Jvm.Cond) ∈ am_T := am_mem (am_c1 (List.mem_of_getElem? (i := 179) rfl)) rfl
theorem tw_180 : ((Jvm.Cond.methodLinkNest "DawnTales$Rows" (29 : Nat) ({ cls := "DawnTales$Telling", name := "<init>", desc := "()V" } : Jvm.MethodName) "DawnTales") : Jvm.Cond) ∈ lw_tbl := am_c1 (List.mem_of_getElem? (i := 180) rfl)
theorem tw_181 : ((Jvm.Cond.classLink "DawnTales$Rows" (40 : Nat) "DawnTales$Book") : Jvm.Cond) ∈ am_T := am_mem (am_c1 (List.mem_of_getElem? (i := 181) rfl)) rfl
theorem tw_182 : ((Jvm.Cond.methodLink "DawnTales$Rows" (42 : Nat) ({ cls := "DawnTales$Book", name := "<init>", desc := "()V" } : Jvm.MethodName)) : Jvm.Cond) ∈ am_T := am_mem (am_c1 (List.mem_of_getElem? (i := 182) rfl)) rfl
theorem tw_183 : ((Jvm.Cond.fieldLink "DawnTales$Rows" (11 : Nat) "DawnTales$Rows" "row" "[I") : Jvm.Cond) ∈ am_T := am_mem (am_c1 (List.mem_of_getElem? (i := 183) rfl)) rfl
theorem tw_184 : ((Jvm.Cond.fieldLink "DawnTales$Rows" (15 : Nat) "DawnTales$Rows" "saved" "[B") : Jvm.Cond) ∈ am_T := am_mem (am_c1 (List.mem_of_getElem? (i := 184) rfl)) rfl
theorem tw_185 : ((Jvm.Cond.fieldLink "DawnTales$Rows" (19 : Nat) "DawnTales$Rows" "opened" "[J") : Jvm.Cond) ∈ am_T := am_mem (am_c1 (List.mem_of_getElem? (i := 185) rfl)) rfl
theorem tw_186 : ((Jvm.Cond.fieldLink "DawnTales$Rows" (23 : Nat) "DawnTales$Rows" "isStuck" "[Z") : Jvm.Cond) ∈ am_T := am_mem (am_c1 (List.mem_of_getElem? (i := 186) rfl)) rfl
theorem tw_187 : ((Jvm.Cond.fieldLink "DawnTales$Rows" (128 : Nat) "DawnTales$Rows" "size" "I") : Jvm.Cond) ∈ am_T := am_mem (am_c1 (List.mem_of_getElem? (i := 187) rfl)) rfl
theorem tw_188 : ((Jvm.Cond.fieldLink "DawnTales" (250 : Nat) "DawnTales$Rows" "size" "I") : Jvm.Cond) ∈ am_T := am_mem (am_c1 (List.mem_of_getElem? (i := 188) rfl)) rfl
theorem tw_189 : ((Jvm.Cond.fieldLink "DawnTales$Rows" (149 : Nat) "DawnTales$Rows" "fullFrom" "I") : Jvm.Cond) ∈ am_T := am_mem (am_c1 (List.mem_of_getElem? (i := 189) rfl)) rfl
theorem tw_190 : ((Jvm.Cond.fieldLink "DawnTales" (247 : Nat) "DawnTales$Rows" "fullFrom" "I") : Jvm.Cond) ∈ am_T := am_mem (am_c1 (List.mem_of_getElem? (i := 190) rfl)) rfl
theorem tw_191 : ((Jvm.Cond.fieldLink "DawnTales$Rows" (112 : Nat) "DawnTales$Rows" "known" "Z") : Jvm.Cond) ∈ am_T := am_mem (am_c1 (List.mem_of_getElem? (i := 191) rfl)) rfl
theorem tw_192 : ((Jvm.Cond.fieldLink "DawnTales$Rows" (116 : Nat) "DawnTales$Rows" "longerBest" "I") : Jvm.Cond) ∈ am_T := am_mem (am_c1 (List.mem_of_getElem? (i := 192) rfl)) rfl
theorem tw_193 : ((Jvm.Cond.fieldLink "DawnTales$Rows" (30 : Nat) "DawnTales$Rows" "walker" "LDawnTales$Telling;") : Jvm.Cond) ∈ am_T := am_mem (am_c1 (List.mem_of_getElem? (i := 193) rfl)) rfl
theorem tw_194 : ((Jvm.Cond.fieldLink "DawnTales$Rows" (34 : Nat) "DawnTales$Rows" "walkedOpen" "[J") : Jvm.Cond) ∈ am_T := am_mem (am_c1 (List.mem_of_getElem? (i := 194) rfl)) rfl
theorem tw_195 : ((Jvm.Cond.fieldLink "DawnTales$Rows" (37 : Nat) "DawnTales$Rows" "order" "[I") : Jvm.Cond) ∈ am_T := am_mem (am_c1 (List.mem_of_getElem? (i := 195) rfl)) rfl
theorem tw_196 : ((Jvm.Cond.fieldLink "DawnTales$Rows" (47 : Nat) "DawnTales$Rows" "orderSize" "I") : Jvm.Cond) ∈ am_T := am_mem (am_c1 (List.mem_of_getElem? (i := 196) rfl)) rfl
theorem tw_197 : ((Jvm.Cond.fieldLink "DawnTales$Rows" (67 : Nat) "DawnTales$Rows" "next" "I") : Jvm.Cond) ∈ am_T := am_mem (am_c1 (List.mem_of_getElem? (i := 197) rfl)) rfl
theorem tw_198 : ((Jvm.Cond.fieldLink "DawnTales$Rows" (43 : Nat) "DawnTales$Rows" "longerBook" "LDawnTales$Book;") : Jvm.Cond) ∈ am_T := am_mem (am_c1 (List.mem_of_getElem? (i := 198) rfl)) rfl
theorem tw_199 : ((Jvm.Cond.laysFinal "DawnTales$Rows" "DawnTales$Rows" "row" "[I") : Jvm.Cond) ∈ am_T := am_mem (am_c1 (List.mem_of_getElem? (i := 199) rfl)) rfl
theorem tw_201 : ((Jvm.Cond.laysFinal "DawnTales$Rows" "DawnTales$Rows" "saved" "[B") : Jvm.Cond) ∈ am_T := am_mem (am_c1 (List.mem_of_getElem? (i := 201) rfl)) rfl
theorem tw_203 : ((Jvm.Cond.laysFinal "DawnTales$Rows" "DawnTales$Rows" "opened" "[J") : Jvm.Cond) ∈ am_T := am_mem (am_c1 (List.mem_of_getElem? (i := 203) rfl)) rfl
theorem tw_205 : ((Jvm.Cond.laysFinal "DawnTales$Rows" "DawnTales$Rows" "isStuck" "[Z") : Jvm.Cond) ∈ am_T := am_mem (am_c1 (List.mem_of_getElem? (i := 205) rfl)) rfl
theorem tw_207 : ((Jvm.Cond.lays "DawnTales$Rows" "DawnTales$Rows" "size" "I") : Jvm.Cond) ∈ am_T := am_mem (am_c1 (List.mem_of_getElem? (i := 207) rfl)) rfl
theorem tw_209 : ((Jvm.Cond.lays "DawnTales$Rows" "DawnTales$Rows" "fullFrom" "I") : Jvm.Cond) ∈ am_T := am_mem (am_c1 (List.mem_of_getElem? (i := 209) rfl)) rfl
theorem tw_211 : ((Jvm.Cond.lays "DawnTales$Rows" "DawnTales$Rows" "known" "Z") : Jvm.Cond) ∈ am_T := am_mem (am_c1 (List.mem_of_getElem? (i := 211) rfl)) rfl
theorem tw_213 : ((Jvm.Cond.lays "DawnTales$Rows" "DawnTales$Rows" "longerBest" "I") : Jvm.Cond) ∈ am_T := am_mem (am_c1 (List.mem_of_getElem? (i := 213) rfl)) rfl
theorem tw_215 : ((Jvm.Cond.laysFinal "DawnTales$Rows" "DawnTales$Rows" "walker" "LDawnTales$Telling;") : Jvm.Cond) ∈ am_T := am_mem (am_c1 (List.mem_of_getElem? (i := 215) rfl)) rfl
theorem tw_217 : ((Jvm.Cond.laysFinal "DawnTales$Rows" "DawnTales$Rows" "walkedOpen" "[J") : Jvm.Cond) ∈ am_T := am_mem (am_c1 (List.mem_of_getElem? (i := 217) rfl)) rfl
theorem tw_219 : ((Jvm.Cond.laysFinal "DawnTales$Rows" "DawnTales$Rows" "order" "[I") : Jvm.Cond) ∈ am_T := am_mem (am_c1 (List.mem_of_getElem? (i := 219) rfl)) rfl
theorem tw_221 : ((Jvm.Cond.lays "DawnTales$Rows" "DawnTales$Rows" "orderSize" "I") : Jvm.Cond) ∈ am_T := am_mem (am_c1 (List.mem_of_getElem? (i := 221) rfl)) rfl
theorem tw_223 : ((Jvm.Cond.lays "DawnTales$Rows" "DawnTales$Rows" "next" "I") : Jvm.Cond) ∈ am_T := am_mem (am_c1 (List.mem_of_getElem? (i := 223) rfl)) rfl
theorem tw_225 : ((Jvm.Cond.laysFinal "DawnTales$Rows" "DawnTales$Rows" "longerBook" "LDawnTales$Book;") : Jvm.Cond) ∈ am_T := am_mem (am_c1 (List.mem_of_getElem? (i := 225) rfl)) rfl
theorem tw_227 : ((Jvm.Cond.superclass "DawnTales$Rows" "java/lang/Object") : Jvm.Cond) ∈ am_T := am_mem (am_c1 (List.mem_of_getElem? (i := 227) rfl)) rfl
theorem tw_228 : ((Jvm.Cond.arrayClass Jvm.ClassFile.FieldType.byte) : Jvm.Cond) ∈ am_T := am_mem (am_c1 (List.mem_of_getElem? (i := 228) rfl)) rfl
theorem tw_229 : ((Jvm.Cond.arrayClass Jvm.ClassFile.FieldType.long) : Jvm.Cond) ∈ am_T := am_mem (am_c1 (List.mem_of_getElem? (i := 229) rfl)) rfl
theorem tw_230 : ((Jvm.Cond.arrayClass Jvm.ClassFile.FieldType.boolean) : Jvm.Cond) ∈ am_T := am_mem (am_c1 (List.mem_of_getElem? (i := 230) rfl)) rfl
theorem tw_231 : ((Jvm.Cond.classLink "DawnTales" (51 : Nat) "DawnTales$TaleKind") : Jvm.Cond) ∈ am_T := am_mem (am_c1 (List.mem_of_getElem? (i := 231) rfl)) rfl
theorem tw_232 : ((Jvm.Cond.arrayOver (Jvm.ClassFile.FieldType.object "DawnTales$TaleKind")) : Jvm.Cond) ∈ lw_tbl := am_c1 (List.mem_of_getElem? (i := 232) rfl)
theorem tw_233 : ((Jvm.Cond.instantiable "DawnTales$TaleKind" (1 : Nat)) : Jvm.Cond) ∈ am_T := am_mem (am_c1 (List.mem_of_getElem? (i := 233) rfl)) rfl
theorem tw_234 : ((Jvm.Cond.methodLinkNest "DawnTales" (53 : Nat) ({ cls := "DawnTales$TaleKind", name := "<init>", desc := "()V" } : Jvm.MethodName) "DawnTales") : Jvm.Cond) ∈ lw_tbl := am_c1 (List.mem_of_getElem? (i := 234) rfl)
theorem tw_235 : ((Jvm.Cond.instanceMethod ({ cls := "DawnTales$TaleKind", name := "<init>", desc := "()V" } : Jvm.MethodName)) : Jvm.Cond) ∈ am_T := am_mem (am_c1 (List.mem_of_getElem? (i := 235) rfl)) rfl
theorem tw_236 : ((Jvm.Cond.code ({ cls := "DawnTales$TaleKind", name := "<init>", desc := "()V" } : Jvm.MethodName) prog_9_method_1_code (1 : Nat) (Option.none : Option Jvm.ClassFile.FieldType)) : Jvm.Cond) ∈ am_T := am_mem (am_c1 (List.mem_of_getElem? (i := 236) rfl)) rfl
theorem tw_237 : ((Jvm.Cond.methodLink "DawnTales$TaleKind" (1 : Nat) ({ cls := "java/lang/Object", name := "<init>", desc := "()V" } : Jvm.MethodName)) : Jvm.Cond) ∈ am_T := am_mem (am_c1 (List.mem_of_getElem? (i := 237) rfl)) rfl
theorem tw_238 : ((Jvm.Cond.fieldLink "DawnTales$TaleKind" (7 : Nat) "DawnTales$TaleKind" "traced" "J") : Jvm.Cond) ∈ am_T := am_mem (am_c1 (List.mem_of_getElem? (i := 238) rfl)) rfl
theorem tw_239 : ((Jvm.Cond.fieldLink "DawnTales$BorrowedKind" (7 : Nat) "DawnTales$BorrowedKind" "traced" "J") : Jvm.Cond) ∈ am_T := am_mem (am_c1 (List.mem_of_getElem? (i := 239) rfl)) rfl
theorem tw_240 : ((Jvm.Cond.sameField "DawnTales$BorrowedKind" "DawnTales$TaleKind" "traced" "J") : Jvm.Cond) ∈ am_T := am_mem (am_c2 (List.mem_of_getElem? (i := 0) rfl)) rfl
theorem tw_241 : ((Jvm.Cond.fieldLink "DawnTales$EndlessKind" (7 : Nat) "DawnTales$EndlessKind" "traced" "J") : Jvm.Cond) ∈ am_T := am_mem (am_c2 (List.mem_of_getElem? (i := 1) rfl)) rfl
theorem tw_242 : ((Jvm.Cond.sameField "DawnTales$EndlessKind" "DawnTales$TaleKind" "traced" "J") : Jvm.Cond) ∈ am_T := am_mem (am_c2 (List.mem_of_getElem? (i := 2) rfl)) rfl
theorem tw_243 : ((Jvm.Cond.fieldLink "DawnTales$RingKind" (7 : Nat) "DawnTales$RingKind" "traced" "J") : Jvm.Cond) ∈ am_T := am_mem (am_c2 (List.mem_of_getElem? (i := 3) rfl)) rfl
theorem tw_244 : ((Jvm.Cond.sameField "DawnTales$RingKind" "DawnTales$TaleKind" "traced" "J") : Jvm.Cond) ∈ am_T := am_mem (am_c2 (List.mem_of_getElem? (i := 4) rfl)) rfl
theorem tw_245 : ((Jvm.Cond.fieldLink "DawnTales$JokeKind" (7 : Nat) "DawnTales$JokeKind" "traced" "J") : Jvm.Cond) ∈ am_T := am_mem (am_c2 (List.mem_of_getElem? (i := 5) rfl)) rfl
theorem tw_246 : ((Jvm.Cond.sameField "DawnTales$JokeKind" "DawnTales$TaleKind" "traced" "J") : Jvm.Cond) ∈ am_T := am_mem (am_c2 (List.mem_of_getElem? (i := 6) rfl)) rfl
theorem tw_247 : ((Jvm.Cond.fieldLink "DawnTales$TrueKind" (7 : Nat) "DawnTales$TrueKind" "traced" "J") : Jvm.Cond) ∈ am_T := am_mem (am_c2 (List.mem_of_getElem? (i := 7) rfl)) rfl
theorem tw_248 : ((Jvm.Cond.sameField "DawnTales$TrueKind" "DawnTales$TaleKind" "traced" "J") : Jvm.Cond) ∈ am_T := am_mem (am_c2 (List.mem_of_getElem? (i := 8) rfl)) rfl
theorem tw_249 : ((Jvm.Cond.fieldLink "DawnTales" (292 : Nat) "DawnTales$TaleKind" "traced" "J") : Jvm.Cond) ∈ am_T := am_mem (am_c2 (List.mem_of_getElem? (i := 9) rfl)) rfl
theorem tw_250 : ((Jvm.Cond.lays "DawnTales$TaleKind" "DawnTales$TaleKind" "traced" "J") : Jvm.Cond) ∈ am_T := am_mem (am_c2 (List.mem_of_getElem? (i := 10) rfl)) rfl
theorem tw_252 : ((Jvm.Cond.superclass "DawnTales$TaleKind" "java/lang/Object") : Jvm.Cond) ∈ am_T := am_mem (am_c2 (List.mem_of_getElem? (i := 12) rfl)) rfl
theorem tw_253 : ((Jvm.Cond.classLink "DawnTales" (54 : Nat) "DawnTales$BorrowedKind") : Jvm.Cond) ∈ am_T := am_mem (am_c2 (List.mem_of_getElem? (i := 13) rfl)) rfl
theorem tw_254 : ((Jvm.Cond.instantiable "DawnTales$BorrowedKind" (1 : Nat)) : Jvm.Cond) ∈ am_T := am_mem (am_c2 (List.mem_of_getElem? (i := 14) rfl)) rfl
theorem tw_255 : ((Jvm.Cond.methodLinkNest "DawnTales" (56 : Nat) ({ cls := "DawnTales$BorrowedKind", name := "<init>", desc := "()V" } : Jvm.MethodName) "DawnTales") : Jvm.Cond) ∈ lw_tbl := am_c2 (List.mem_of_getElem? (i := 15) rfl)
theorem tw_256 : ((Jvm.Cond.instanceMethod ({ cls := "DawnTales$BorrowedKind", name := "<init>", desc := "()V" } : Jvm.MethodName)) : Jvm.Cond) ∈ am_T := am_mem (am_c2 (List.mem_of_getElem? (i := 16) rfl)) rfl
theorem tw_257 : ((Jvm.Cond.code ({ cls := "DawnTales$BorrowedKind", name := "<init>", desc := "()V" } : Jvm.MethodName) prog_3_method_1_code (1 : Nat) (Option.none : Option Jvm.ClassFile.FieldType)) : Jvm.Cond) ∈ am_T := am_mem (am_c2 (List.mem_of_getElem? (i := 17) rfl)) rfl
theorem tw_258 : ((Jvm.Cond.methodLinkNest "DawnTales$BorrowedKind" (1 : Nat) ({ cls := "DawnTales$TaleKind", name := "<init>", desc := "()V" } : Jvm.MethodName) "DawnTales") : Jvm.Cond) ∈ lw_tbl := am_c2 (List.mem_of_getElem? (i := 18) rfl)
theorem tw_259 : ((Jvm.Cond.lays "DawnTales$BorrowedKind" "DawnTales$TaleKind" "traced" "J") : Jvm.Cond) ∈ am_T := am_mem (am_c2 (List.mem_of_getElem? (i := 19) rfl)) rfl
theorem tw_260 : ((Jvm.Cond.superclass "DawnTales$BorrowedKind" "DawnTales$TaleKind") : Jvm.Cond) ∈ am_T := am_mem (am_c2 (List.mem_of_getElem? (i := 20) rfl)) rfl
theorem tw_261 : ((Jvm.Cond.classLink "DawnTales" (57 : Nat) "DawnTales$RingKind") : Jvm.Cond) ∈ am_T := am_mem (am_c2 (List.mem_of_getElem? (i := 21) rfl)) rfl
theorem tw_262 : ((Jvm.Cond.instantiable "DawnTales$RingKind" (1 : Nat)) : Jvm.Cond) ∈ am_T := am_mem (am_c2 (List.mem_of_getElem? (i := 22) rfl)) rfl
theorem tw_263 : ((Jvm.Cond.methodLinkNest "DawnTales" (59 : Nat) ({ cls := "DawnTales$RingKind", name := "<init>", desc := "()V" } : Jvm.MethodName) "DawnTales") : Jvm.Cond) ∈ lw_tbl := am_c2 (List.mem_of_getElem? (i := 23) rfl)
theorem tw_264 : ((Jvm.Cond.instanceMethod ({ cls := "DawnTales$RingKind", name := "<init>", desc := "()V" } : Jvm.MethodName)) : Jvm.Cond) ∈ am_T := am_mem (am_c2 (List.mem_of_getElem? (i := 24) rfl)) rfl
theorem tw_265 : ((Jvm.Cond.code ({ cls := "DawnTales$RingKind", name := "<init>", desc := "()V" } : Jvm.MethodName) prog_6_method_1_code (1 : Nat) (Option.none : Option Jvm.ClassFile.FieldType)) : Jvm.Cond) ∈ am_T := am_mem (am_c2 (List.mem_of_getElem? (i := 25) rfl)) rfl
theorem tw_266 : ((Jvm.Cond.methodLinkNest "DawnTales$RingKind" (1 : Nat) ({ cls := "DawnTales$TaleKind", name := "<init>", desc := "()V" } : Jvm.MethodName) "DawnTales") : Jvm.Cond) ∈ lw_tbl := am_c2 (List.mem_of_getElem? (i := 26) rfl)
theorem tw_267 : ((Jvm.Cond.lays "DawnTales$RingKind" "DawnTales$TaleKind" "traced" "J") : Jvm.Cond) ∈ am_T := am_mem (am_c2 (List.mem_of_getElem? (i := 27) rfl)) rfl
theorem tw_268 : ((Jvm.Cond.superclass "DawnTales$RingKind" "DawnTales$TaleKind") : Jvm.Cond) ∈ am_T := am_mem (am_c2 (List.mem_of_getElem? (i := 28) rfl)) rfl
theorem tw_269 : ((Jvm.Cond.classLink "DawnTales" (60 : Nat) "DawnTales$TrueKind") : Jvm.Cond) ∈ am_T := am_mem (am_c2 (List.mem_of_getElem? (i := 29) rfl)) rfl
theorem tw_270 : ((Jvm.Cond.instantiable "DawnTales$TrueKind" (1 : Nat)) : Jvm.Cond) ∈ am_T := am_mem (am_c2 (List.mem_of_getElem? (i := 30) rfl)) rfl
theorem tw_271 : ((Jvm.Cond.methodLinkNest "DawnTales" (62 : Nat) ({ cls := "DawnTales$TrueKind", name := "<init>", desc := "()V" } : Jvm.MethodName) "DawnTales") : Jvm.Cond) ∈ lw_tbl := am_c2 (List.mem_of_getElem? (i := 31) rfl)
theorem tw_272 : ((Jvm.Cond.instanceMethod ({ cls := "DawnTales$TrueKind", name := "<init>", desc := "()V" } : Jvm.MethodName)) : Jvm.Cond) ∈ am_T := am_mem (am_c2 (List.mem_of_getElem? (i := 32) rfl)) rfl
theorem tw_273 : ((Jvm.Cond.code ({ cls := "DawnTales$TrueKind", name := "<init>", desc := "()V" } : Jvm.MethodName) prog_12_method_1_code (1 : Nat) (Option.none : Option Jvm.ClassFile.FieldType)) : Jvm.Cond) ∈ am_T := am_mem (am_c2 (List.mem_of_getElem? (i := 33) rfl)) rfl
theorem tw_274 : ((Jvm.Cond.methodLinkNest "DawnTales$TrueKind" (1 : Nat) ({ cls := "DawnTales$BorrowedKind", name := "<init>", desc := "()V" } : Jvm.MethodName) "DawnTales") : Jvm.Cond) ∈ lw_tbl := am_c2 (List.mem_of_getElem? (i := 34) rfl)
theorem tw_275 : ((Jvm.Cond.lays "DawnTales$TrueKind" "DawnTales$TaleKind" "traced" "J") : Jvm.Cond) ∈ am_T := am_mem (am_c2 (List.mem_of_getElem? (i := 35) rfl)) rfl
theorem tw_276 : ((Jvm.Cond.superclass "DawnTales$TrueKind" "DawnTales$BorrowedKind") : Jvm.Cond) ∈ am_T := am_mem (am_c2 (List.mem_of_getElem? (i := 36) rfl)) rfl
theorem tw_277 : ((Jvm.Cond.classLink "DawnTales" (63 : Nat) "DawnTales$EndlessKind") : Jvm.Cond) ∈ am_T := am_mem (am_c2 (List.mem_of_getElem? (i := 37) rfl)) rfl
theorem tw_278 : ((Jvm.Cond.instantiable "DawnTales$EndlessKind" (1 : Nat)) : Jvm.Cond) ∈ am_T := am_mem (am_c2 (List.mem_of_getElem? (i := 38) rfl)) rfl
theorem tw_279 : ((Jvm.Cond.methodLinkNest "DawnTales" (65 : Nat) ({ cls := "DawnTales$EndlessKind", name := "<init>", desc := "()V" } : Jvm.MethodName) "DawnTales") : Jvm.Cond) ∈ lw_tbl := am_c2 (List.mem_of_getElem? (i := 39) rfl)
theorem tw_280 : ((Jvm.Cond.instanceMethod ({ cls := "DawnTales$EndlessKind", name := "<init>", desc := "()V" } : Jvm.MethodName)) : Jvm.Cond) ∈ am_T := am_mem (am_c2 (List.mem_of_getElem? (i := 40) rfl)) rfl
theorem tw_281 : ((Jvm.Cond.code ({ cls := "DawnTales$EndlessKind", name := "<init>", desc := "()V" } : Jvm.MethodName) prog_4_method_1_code (1 : Nat) (Option.none : Option Jvm.ClassFile.FieldType)) : Jvm.Cond) ∈ am_T := am_mem (am_c2 (List.mem_of_getElem? (i := 41) rfl)) rfl
theorem tw_282 : ((Jvm.Cond.methodLinkNest "DawnTales$EndlessKind" (1 : Nat) ({ cls := "DawnTales$RingKind", name := "<init>", desc := "()V" } : Jvm.MethodName) "DawnTales") : Jvm.Cond) ∈ lw_tbl := am_c2 (List.mem_of_getElem? (i := 42) rfl)
theorem tw_283 : ((Jvm.Cond.lays "DawnTales$EndlessKind" "DawnTales$TaleKind" "traced" "J") : Jvm.Cond) ∈ am_T := am_mem (am_c2 (List.mem_of_getElem? (i := 43) rfl)) rfl
theorem tw_284 : ((Jvm.Cond.superclass "DawnTales$EndlessKind" "DawnTales$RingKind") : Jvm.Cond) ∈ am_T := am_mem (am_c2 (List.mem_of_getElem? (i := 44) rfl)) rfl
theorem tw_285 : ((Jvm.Cond.classLink "DawnTales" (66 : Nat) "DawnTales$JokeKind") : Jvm.Cond) ∈ am_T := am_mem (am_c2 (List.mem_of_getElem? (i := 45) rfl)) rfl
theorem tw_286 : ((Jvm.Cond.instantiable "DawnTales$JokeKind" (1 : Nat)) : Jvm.Cond) ∈ am_T := am_mem (am_c2 (List.mem_of_getElem? (i := 46) rfl)) rfl
theorem tw_287 : ((Jvm.Cond.methodLinkNest "DawnTales" (68 : Nat) ({ cls := "DawnTales$JokeKind", name := "<init>", desc := "()V" } : Jvm.MethodName) "DawnTales") : Jvm.Cond) ∈ lw_tbl := am_c2 (List.mem_of_getElem? (i := 47) rfl)
theorem tw_288 : ((Jvm.Cond.instanceMethod ({ cls := "DawnTales$JokeKind", name := "<init>", desc := "()V" } : Jvm.MethodName)) : Jvm.Cond) ∈ am_T := am_mem (am_c2 (List.mem_of_getElem? (i := 48) rfl)) rfl
theorem tw_289 : ((Jvm.Cond.code ({ cls := "DawnTales$JokeKind", name := "<init>", desc := "()V" } : Jvm.MethodName) prog_5_method_1_code (1 : Nat) (Option.none : Option Jvm.ClassFile.FieldType)) : Jvm.Cond) ∈ am_T := am_mem (am_c2 (List.mem_of_getElem? (i := 49) rfl)) rfl
theorem tw_290 : ((Jvm.Cond.methodLinkNest "DawnTales$JokeKind" (1 : Nat) ({ cls := "DawnTales$TaleKind", name := "<init>", desc := "()V" } : Jvm.MethodName) "DawnTales") : Jvm.Cond) ∈ lw_tbl := am_c2 (List.mem_of_getElem? (i := 50) rfl)
theorem tw_291 : ((Jvm.Cond.lays "DawnTales$JokeKind" "DawnTales$TaleKind" "traced" "J") : Jvm.Cond) ∈ am_T := am_mem (am_c2 (List.mem_of_getElem? (i := 51) rfl)) rfl
theorem tw_292 : ((Jvm.Cond.superclass "DawnTales$JokeKind" "DawnTales$TaleKind") : Jvm.Cond) ∈ am_T := am_mem (am_c2 (List.mem_of_getElem? (i := 52) rfl)) rfl
theorem tw_293 : ((Jvm.Cond.methodLink "DawnTales" (73 : Nat) ({ cls := "DawnTales", name := "startAnew", desc := "()V" } : Jvm.MethodName)) : Jvm.Cond) ∈ am_T := am_mem (am_c2 (List.mem_of_getElem? (i := 53) rfl)) rfl
theorem tw_295 : ((Jvm.Cond.instanceMethod ({ cls := "DawnTales", name := "startAnew", desc := "()V" } : Jvm.MethodName)) : Jvm.Cond) ∈ am_T := am_mem (am_c2 (List.mem_of_getElem? (i := 55) rfl)) rfl
theorem tw_296 : ((Jvm.Cond.code ({ cls := "DawnTales", name := "startAnew", desc := "()V" } : Jvm.MethodName) prog_1_method_30_code (1 : Nat) (Option.none : Option Jvm.ClassFile.FieldType)) : Jvm.Cond) ∈ am_T := am_mem (am_c2 (List.mem_of_getElem? (i := 56) rfl)) rfl
theorem tw_297 : ((Jvm.Cond.methodLink "DawnTales" (296 : Nat) ({ cls := "DawnTales$Stand", name := "start", desc := "(LDawnTales$Book;)V" } : Jvm.MethodName)) : Jvm.Cond) ∈ am_T := am_mem (am_c2 (List.mem_of_getElem? (i := 57) rfl)) rfl
theorem tw_298 : ((Jvm.Cond.instanceMethod ({ cls := "DawnTales$Stand", name := "start", desc := "(LDawnTales$Book;)V" } : Jvm.MethodName)) : Jvm.Cond) ∈ am_T := am_mem (am_c2 (List.mem_of_getElem? (i := 58) rfl)) rfl
theorem tw_299 : ((Jvm.Cond.selects "DawnTales$Stand" ({ cls := "DawnTales$Stand", name := "start", desc := "(LDawnTales$Book;)V" } : Jvm.MethodName) ({ cls := "DawnTales$Stand", name := "start", desc := "(LDawnTales$Book;)V" } : Jvm.MethodName)) : Jvm.Cond) ∈ am_T := am_mem (am_c2 (List.mem_of_getElem? (i := 59) rfl)) rfl
theorem tw_300 : ((Jvm.Cond.code ({ cls := "DawnTales$Stand", name := "start", desc := "(LDawnTales$Book;)V" } : Jvm.MethodName) prog_8_method_2_code (2 : Nat) (Option.none : Option Jvm.ClassFile.FieldType)) : Jvm.Cond) ∈ am_T := am_mem (am_c2 (List.mem_of_getElem? (i := 60) rfl)) rfl
theorem tw_301 : ((Jvm.Cond.methodLink "DawnTales$Stand" (22 : Nat) ({ cls := "DawnTales$Telling", name := "start", desc := "(LDawnTales$Book;)V" } : Jvm.MethodName)) : Jvm.Cond) ∈ am_T := am_mem (am_c2 (List.mem_of_getElem? (i := 61) rfl)) rfl
theorem tw_302 : ((Jvm.Cond.instanceMethod ({ cls := "DawnTales$Telling", name := "start", desc := "(LDawnTales$Book;)V" } : Jvm.MethodName)) : Jvm.Cond) ∈ am_T := am_mem (am_c2 (List.mem_of_getElem? (i := 62) rfl)) rfl
theorem tw_303 : ((Jvm.Cond.selects "DawnTales$Telling" ({ cls := "DawnTales$Telling", name := "start", desc := "(LDawnTales$Book;)V" } : Jvm.MethodName) ({ cls := "DawnTales$Telling", name := "start", desc := "(LDawnTales$Book;)V" } : Jvm.MethodName)) : Jvm.Cond) ∈ am_T := am_mem (am_c2 (List.mem_of_getElem? (i := 63) rfl)) rfl
theorem tw_304 : ((Jvm.Cond.code ({ cls := "DawnTales$Telling", name := "start", desc := "(LDawnTales$Book;)V" } : Jvm.MethodName) prog_10_method_2_code (3 : Nat) (Option.none : Option Jvm.ClassFile.FieldType)) : Jvm.Cond) ∈ am_T := am_mem (am_c2 (List.mem_of_getElem? (i := 64) rfl)) rfl
theorem tw_305 : ((Jvm.Cond.methodLink "DawnTales$Telling" (25 : Nat) ({ cls := "DawnTales$Book", name := "hoursOf", desc := "(I)I" } : Jvm.MethodName)) : Jvm.Cond) ∈ am_T := am_mem (am_c2 (List.mem_of_getElem? (i := 65) rfl)) rfl
theorem tw_306 : ((Jvm.Cond.instanceMethod ({ cls := "DawnTales$Book", name := "hoursOf", desc := "(I)I" } : Jvm.MethodName)) : Jvm.Cond) ∈ am_T := am_mem (am_c2 (List.mem_of_getElem? (i := 66) rfl)) rfl
theorem tw_307 : ((Jvm.Cond.selects "DawnTales$Book" ({ cls := "DawnTales$Book", name := "hoursOf", desc := "(I)I" } : Jvm.MethodName) ({ cls := "DawnTales$Book", name := "hoursOf", desc := "(I)I" } : Jvm.MethodName)) : Jvm.Cond) ∈ am_T := am_mem (am_c2 (List.mem_of_getElem? (i := 67) rfl)) rfl
theorem tw_308 : ((Jvm.Cond.code ({ cls := "DawnTales$Book", name := "hoursOf", desc := "(I)I" } : Jvm.MethodName) prog_2_method_12_code (2 : Nat) (Option.some Jvm.ClassFile.FieldType.int)) : Jvm.Cond) ∈ am_T := am_mem (am_c2 (List.mem_of_getElem? (i := 68) rfl)) rfl
theorem tw_309 : ((Jvm.Cond.methodLink "DawnTales$Telling" (50 : Nat) ({ cls := "DawnTales$Book", name := "partsOf", desc := "(I)I" } : Jvm.MethodName)) : Jvm.Cond) ∈ am_T := am_mem (am_c2 (List.mem_of_getElem? (i := 69) rfl)) rfl
theorem tw_310 : ((Jvm.Cond.instanceMethod ({ cls := "DawnTales$Book", name := "partsOf", desc := "(I)I" } : Jvm.MethodName)) : Jvm.Cond) ∈ am_T := am_mem (am_c2 (List.mem_of_getElem? (i := 70) rfl)) rfl
theorem tw_311 : ((Jvm.Cond.selects "DawnTales$Book" ({ cls := "DawnTales$Book", name := "partsOf", desc := "(I)I" } : Jvm.MethodName) ({ cls := "DawnTales$Book", name := "partsOf", desc := "(I)I" } : Jvm.MethodName)) : Jvm.Cond) ∈ am_T := am_mem (am_c2 (List.mem_of_getElem? (i := 71) rfl)) rfl
theorem tw_312 : ((Jvm.Cond.code ({ cls := "DawnTales$Book", name := "partsOf", desc := "(I)I" } : Jvm.MethodName) prog_2_method_9_code (2 : Nat) (Option.some Jvm.ClassFile.FieldType.int)) : Jvm.Cond) ∈ am_T := am_mem (am_c2 (List.mem_of_getElem? (i := 72) rfl)) rfl
theorem tw_313 : ((Jvm.Cond.methodLink "DawnTales$Book" (50 : Nat) ({ cls := "DawnTales$Book", name := "isTale", desc := "(I)Z" } : Jvm.MethodName)) : Jvm.Cond) ∈ am_T := am_mem (am_c2 (List.mem_of_getElem? (i := 73) rfl)) rfl
theorem tw_314 : ((Jvm.Cond.instanceMethod ({ cls := "DawnTales$Book", name := "isTale", desc := "(I)Z" } : Jvm.MethodName)) : Jvm.Cond) ∈ am_T := am_mem (am_c2 (List.mem_of_getElem? (i := 74) rfl)) rfl
theorem tw_315 : ((Jvm.Cond.selects "DawnTales$Book" ({ cls := "DawnTales$Book", name := "isTale", desc := "(I)Z" } : Jvm.MethodName) ({ cls := "DawnTales$Book", name := "isTale", desc := "(I)Z" } : Jvm.MethodName)) : Jvm.Cond) ∈ am_T := am_mem (am_c2 (List.mem_of_getElem? (i := 75) rfl)) rfl
theorem tw_316 : ((Jvm.Cond.code ({ cls := "DawnTales$Book", name := "isTale", desc := "(I)Z" } : Jvm.MethodName) prog_2_method_8_code (2 : Nat) (Option.some Jvm.ClassFile.FieldType.boolean)) : Jvm.Cond) ∈ am_T := am_mem (am_c2 (List.mem_of_getElem? (i := 76) rfl)) rfl
theorem tw_317 : ((Jvm.Cond.methodLink "DawnTales" (299 : Nat) ({ cls := "DawnTales$Rows", name := "drop", desc := "()V" } : Jvm.MethodName)) : Jvm.Cond) ∈ am_T := am_mem (am_c2 (List.mem_of_getElem? (i := 77) rfl)) rfl
theorem tw_318 : ((Jvm.Cond.instanceMethod ({ cls := "DawnTales$Rows", name := "drop", desc := "()V" } : Jvm.MethodName)) : Jvm.Cond) ∈ am_T := am_mem (am_c2 (List.mem_of_getElem? (i := 78) rfl)) rfl
theorem tw_319 : ((Jvm.Cond.selects "DawnTales$Rows" ({ cls := "DawnTales$Rows", name := "drop", desc := "()V" } : Jvm.MethodName) ({ cls := "DawnTales$Rows", name := "drop", desc := "()V" } : Jvm.MethodName)) : Jvm.Cond) ∈ am_T := am_mem (am_c2 (List.mem_of_getElem? (i := 79) rfl)) rfl
theorem tw_320 : ((Jvm.Cond.code ({ cls := "DawnTales$Rows", name := "drop", desc := "()V" } : Jvm.MethodName) prog_7_method_6_code (1 : Nat) (Option.none : Option Jvm.ClassFile.FieldType)) : Jvm.Cond) ∈ am_T := am_mem (am_c2 (List.mem_of_getElem? (i := 80) rfl)) rfl
theorem tw_321 : ((Jvm.Cond.fieldLink "DawnTales" (10 : Nat) "DawnTales" "text" "LDawnTales$Text;") : Jvm.Cond) ∈ am_T := am_mem (am_c2 (List.mem_of_getElem? (i := 81) rfl)) rfl
theorem tw_322 : ((Jvm.Cond.fieldLink "DawnTales" (19 : Nat) "DawnTales" "book" "LDawnTales$Book;") : Jvm.Cond) ∈ am_T := am_mem (am_c2 (List.mem_of_getElem? (i := 82) rfl)) rfl
theorem tw_323 : ((Jvm.Cond.fieldLink "DawnTales" (23 : Nat) "DawnTales" "draft" "LDawnTales$Book;") : Jvm.Cond) ∈ am_T := am_mem (am_c2 (List.mem_of_getElem? (i := 83) rfl)) rfl
theorem tw_324 : ((Jvm.Cond.fieldLink "DawnTales" (29 : Nat) "DawnTales" "stand" "LDawnTales$Stand;") : Jvm.Cond) ∈ am_T := am_mem (am_c2 (List.mem_of_getElem? (i := 84) rfl)) rfl
theorem tw_325 : ((Jvm.Cond.fieldLink "DawnTales" (33 : Nat) "DawnTales" "images" "[LDawnTales$Stand;") : Jvm.Cond) ∈ am_T := am_mem (am_c2 (List.mem_of_getElem? (i := 85) rfl)) rfl
theorem tw_326 : ((Jvm.Cond.fieldLink "DawnTales" (280 : Nat) "DawnTales" "kept" "I") : Jvm.Cond) ∈ am_T := am_mem (am_c2 (List.mem_of_getElem? (i := 86) rfl)) rfl
theorem tw_327 : ((Jvm.Cond.fieldLink "DawnTales" (40 : Nat) "DawnTales" "rows" "LDawnTales$Rows;") : Jvm.Cond) ∈ am_T := am_mem (am_c2 (List.mem_of_getElem? (i := 87) rfl)) rfl
theorem tw_328 : ((Jvm.Cond.fieldLink "DawnTales" (44 : Nat) "DawnTales" "heardDawn" "[I") : Jvm.Cond) ∈ am_T := am_mem (am_c2 (List.mem_of_getElem? (i := 88) rfl)) rfl
theorem tw_329 : ((Jvm.Cond.fieldLink "DawnTales" (48 : Nat) "DawnTales" "heardOpen" "[I") : Jvm.Cond) ∈ am_T := am_mem (am_c2 (List.mem_of_getElem? (i := 89) rfl)) rfl
theorem tw_330 : ((Jvm.Cond.fieldLink "DawnTales" (244 : Nat) "DawnTales" "heardCount" "I") : Jvm.Cond) ∈ am_T := am_mem (am_c2 (List.mem_of_getElem? (i := 90) rfl)) rfl
theorem tw_331 : ((Jvm.Cond.fieldLink "DawnTales" (69 : Nat) "DawnTales" "kinds" "[LDawnTales$TaleKind;") : Jvm.Cond) ∈ am_T := am_mem (am_c2 (List.mem_of_getElem? (i := 91) rfl)) rfl
theorem tw_332 : ((Jvm.Cond.laysFinal "DawnTales" "DawnTales" "text" "LDawnTales$Text;") : Jvm.Cond) ∈ am_T := am_mem (am_c2 (List.mem_of_getElem? (i := 92) rfl)) rfl
theorem tw_334 : ((Jvm.Cond.laysFinal "DawnTales" "DawnTales" "book" "LDawnTales$Book;") : Jvm.Cond) ∈ am_T := am_mem (am_c2 (List.mem_of_getElem? (i := 94) rfl)) rfl
theorem tw_336 : ((Jvm.Cond.laysFinal "DawnTales" "DawnTales" "draft" "LDawnTales$Book;") : Jvm.Cond) ∈ am_T := am_mem (am_c2 (List.mem_of_getElem? (i := 96) rfl)) rfl
theorem tw_338 : ((Jvm.Cond.laysFinal "DawnTales" "DawnTales" "stand" "LDawnTales$Stand;") : Jvm.Cond) ∈ am_T := am_mem (am_c2 (List.mem_of_getElem? (i := 98) rfl)) rfl
theorem tw_340 : ((Jvm.Cond.laysFinal "DawnTales" "DawnTales" "images" "[LDawnTales$Stand;") : Jvm.Cond) ∈ am_T := am_mem (am_c2 (List.mem_of_getElem? (i := 100) rfl)) rfl
theorem tw_342 : ((Jvm.Cond.lays "DawnTales" "DawnTales" "kept" "I") : Jvm.Cond) ∈ am_T := am_mem (am_c2 (List.mem_of_getElem? (i := 102) rfl)) rfl
theorem tw_344 : ((Jvm.Cond.laysFinal "DawnTales" "DawnTales" "rows" "LDawnTales$Rows;") : Jvm.Cond) ∈ am_T := am_mem (am_c2 (List.mem_of_getElem? (i := 104) rfl)) rfl
theorem tw_346 : ((Jvm.Cond.laysFinal "DawnTales" "DawnTales" "heardDawn" "[I") : Jvm.Cond) ∈ am_T := am_mem (am_c2 (List.mem_of_getElem? (i := 106) rfl)) rfl
theorem tw_348 : ((Jvm.Cond.laysFinal "DawnTales" "DawnTales" "heardOpen" "[I") : Jvm.Cond) ∈ am_T := am_mem (am_c2 (List.mem_of_getElem? (i := 108) rfl)) rfl
theorem tw_350 : ((Jvm.Cond.lays "DawnTales" "DawnTales" "heardCount" "I") : Jvm.Cond) ∈ am_T := am_mem (am_c2 (List.mem_of_getElem? (i := 110) rfl)) rfl
theorem tw_352 : ((Jvm.Cond.laysFinal "DawnTales" "DawnTales" "kinds" "[LDawnTales$TaleKind;") : Jvm.Cond) ∈ am_T := am_mem (am_c2 (List.mem_of_getElem? (i := 112) rfl)) rfl
theorem tw_354 : ((Jvm.Cond.superclass "DawnTales" "java/lang/Object") : Jvm.Cond) ∈ am_T := am_mem (am_c2 (List.mem_of_getElem? (i := 114) rfl)) rfl
theorem tw_355 : ((Jvm.Cond.methodLink "DawnTalesLaw" (13 : Nat) ({ cls := "DawnTales", name := "type", desc := "(I)I" } : Jvm.MethodName)) : Jvm.Cond) ∈ am_T := am_mem (am_c2 (List.mem_of_getElem? (i := 115) rfl)) rfl
theorem tw_356 : ((Jvm.Cond.instanceMethod ({ cls := "DawnTales", name := "type", desc := "(I)I" } : Jvm.MethodName)) : Jvm.Cond) ∈ am_T := am_mem (am_c2 (List.mem_of_getElem? (i := 116) rfl)) rfl
theorem tw_357 : ((Jvm.Cond.selects "DawnTales" ({ cls := "DawnTales", name := "type", desc := "(I)I" } : Jvm.MethodName) ({ cls := "DawnTales", name := "type", desc := "(I)I" } : Jvm.MethodName)) : Jvm.Cond) ∈ am_T := am_mem (am_c2 (List.mem_of_getElem? (i := 117) rfl)) rfl
theorem tw_358 : ((Jvm.Cond.code ({ cls := "DawnTales", name := "type", desc := "(I)I" } : Jvm.MethodName) prog_1_method_2_code (2 : Nat) (Option.some Jvm.ClassFile.FieldType.int)) : Jvm.Cond) ∈ am_T := am_mem (am_c2 (List.mem_of_getElem? (i := 118) rfl)) rfl
theorem tw_359 : ((Jvm.Cond.methodLink "DawnTales" (76 : Nat) ({ cls := "DawnTales$Text", name := "add", desc := "(I)Z" } : Jvm.MethodName)) : Jvm.Cond) ∈ am_T := am_mem (am_c2 (List.mem_of_getElem? (i := 119) rfl)) rfl
theorem tw_360 : ((Jvm.Cond.instanceMethod ({ cls := "DawnTales$Text", name := "add", desc := "(I)Z" } : Jvm.MethodName)) : Jvm.Cond) ∈ am_T := am_mem (am_c2 (List.mem_of_getElem? (i := 120) rfl)) rfl
theorem tw_361 : ((Jvm.Cond.selects "DawnTales$Text" ({ cls := "DawnTales$Text", name := "add", desc := "(I)Z" } : Jvm.MethodName) ({ cls := "DawnTales$Text", name := "add", desc := "(I)Z" } : Jvm.MethodName)) : Jvm.Cond) ∈ am_T := am_mem (am_c2 (List.mem_of_getElem? (i := 121) rfl)) rfl
theorem tw_362 : ((Jvm.Cond.code ({ cls := "DawnTales$Text", name := "add", desc := "(I)Z" } : Jvm.MethodName) prog_11_method_2_code (2 : Nat) (Option.some Jvm.ClassFile.FieldType.boolean)) : Jvm.Cond) ∈ am_T := am_mem (am_c2 (List.mem_of_getElem? (i := 122) rfl)) rfl
theorem tw_363 : ((Jvm.Cond.methodLink "DawnTalesLaw" (18 : Nat) ({ cls := "DawnTales", name := "clear", desc := "()I" } : Jvm.MethodName)) : Jvm.Cond) ∈ am_T := am_mem (am_c2 (List.mem_of_getElem? (i := 123) rfl)) rfl
theorem tw_364 : ((Jvm.Cond.instanceMethod ({ cls := "DawnTales", name := "clear", desc := "()I" } : Jvm.MethodName)) : Jvm.Cond) ∈ am_T := am_mem (am_c2 (List.mem_of_getElem? (i := 124) rfl)) rfl
theorem tw_365 : ((Jvm.Cond.selects "DawnTales" ({ cls := "DawnTales", name := "clear", desc := "()I" } : Jvm.MethodName) ({ cls := "DawnTales", name := "clear", desc := "()I" } : Jvm.MethodName)) : Jvm.Cond) ∈ am_T := am_mem (am_c2 (List.mem_of_getElem? (i := 125) rfl)) rfl
theorem tw_366 : ((Jvm.Cond.code ({ cls := "DawnTales", name := "clear", desc := "()I" } : Jvm.MethodName) prog_1_method_3_code (1 : Nat) (Option.some Jvm.ClassFile.FieldType.int)) : Jvm.Cond) ∈ am_T := am_mem (am_c2 (List.mem_of_getElem? (i := 126) rfl)) rfl
theorem tw_367 : ((Jvm.Cond.methodLink "DawnTales" (84 : Nat) ({ cls := "DawnTales$Text", name := "empty", desc := "()I" } : Jvm.MethodName)) : Jvm.Cond) ∈ am_T := am_mem (am_c2 (List.mem_of_getElem? (i := 127) rfl)) rfl
theorem tw_368 : ((Jvm.Cond.instanceMethod ({ cls := "DawnTales$Text", name := "empty", desc := "()I" } : Jvm.MethodName)) : Jvm.Cond) ∈ am_T := am_mem (am_c2 (List.mem_of_getElem? (i := 128) rfl)) rfl
theorem tw_369 : ((Jvm.Cond.selects "DawnTales$Text" ({ cls := "DawnTales$Text", name := "empty", desc := "()I" } : Jvm.MethodName) ({ cls := "DawnTales$Text", name := "empty", desc := "()I" } : Jvm.MethodName)) : Jvm.Cond) ∈ am_T := am_mem (am_c2 (List.mem_of_getElem? (i := 129) rfl)) rfl
theorem tw_370 : ((Jvm.Cond.code ({ cls := "DawnTales$Text", name := "empty", desc := "()I" } : Jvm.MethodName) prog_11_method_3_code (2 : Nat) (Option.some Jvm.ClassFile.FieldType.int)) : Jvm.Cond) ∈ am_T := am_mem (am_c2 (List.mem_of_getElem? (i := 130) rfl)) rfl
theorem tw_371 : ((Jvm.Cond.methodLink "DawnTalesLaw" (23 : Nat) ({ cls := "DawnTales", name := "tales", desc := "()I" } : Jvm.MethodName)) : Jvm.Cond) ∈ am_T := am_mem (am_c2 (List.mem_of_getElem? (i := 131) rfl)) rfl
theorem tw_372 : ((Jvm.Cond.instanceMethod ({ cls := "DawnTales", name := "tales", desc := "()I" } : Jvm.MethodName)) : Jvm.Cond) ∈ am_T := am_mem (am_c2 (List.mem_of_getElem? (i := 132) rfl)) rfl
theorem tw_373 : ((Jvm.Cond.selects "DawnTales" ({ cls := "DawnTales", name := "tales", desc := "()I" } : Jvm.MethodName) ({ cls := "DawnTales", name := "tales", desc := "()I" } : Jvm.MethodName)) : Jvm.Cond) ∈ am_T := am_mem (am_c2 (List.mem_of_getElem? (i := 133) rfl)) rfl
theorem tw_374 : ((Jvm.Cond.code ({ cls := "DawnTales", name := "tales", desc := "()I" } : Jvm.MethodName) prog_1_method_4_code (2 : Nat) (Option.some Jvm.ClassFile.FieldType.int)) : Jvm.Cond) ∈ am_T := am_mem (am_c2 (List.mem_of_getElem? (i := 134) rfl)) rfl
theorem tw_375 : ((Jvm.Cond.methodLink "DawnTales" (88 : Nat) ({ cls := "DawnTales$Text", name := "readInto", desc := "(LDawnTales$Book;)I" } : Jvm.MethodName)) : Jvm.Cond) ∈ am_T := am_mem (am_c2 (List.mem_of_getElem? (i := 135) rfl)) rfl
theorem tw_376 : ((Jvm.Cond.instanceMethod ({ cls := "DawnTales$Text", name := "readInto", desc := "(LDawnTales$Book;)I" } : Jvm.MethodName)) : Jvm.Cond) ∈ am_T := am_mem (am_c2 (List.mem_of_getElem? (i := 136) rfl)) rfl
theorem tw_377 : ((Jvm.Cond.selects "DawnTales$Text" ({ cls := "DawnTales$Text", name := "readInto", desc := "(LDawnTales$Book;)I" } : Jvm.MethodName) ({ cls := "DawnTales$Text", name := "readInto", desc := "(LDawnTales$Book;)I" } : Jvm.MethodName)) : Jvm.Cond) ∈ am_T := am_mem (am_c2 (List.mem_of_getElem? (i := 137) rfl)) rfl
theorem tw_378 : ((Jvm.Cond.code ({ cls := "DawnTales$Text", name := "readInto", desc := "(LDawnTales$Book;)I" } : Jvm.MethodName) prog_11_method_4_code (4 : Nat) (Option.some Jvm.ClassFile.FieldType.int)) : Jvm.Cond) ∈ am_T := am_mem (am_c2 (List.mem_of_getElem? (i := 138) rfl)) rfl
theorem tw_379 : ((Jvm.Cond.methodLink "DawnTales$Text" (19 : Nat) ({ cls := "DawnTales$Book", name := "wipe", desc := "()V" } : Jvm.MethodName)) : Jvm.Cond) ∈ am_T := am_mem (am_c2 (List.mem_of_getElem? (i := 139) rfl)) rfl
theorem tw_380 : ((Jvm.Cond.methodLink "DawnTales$Text" (27 : Nat) ({ cls := "DawnTales$Text", name := "nextToken", desc := "()V" } : Jvm.MethodName)) : Jvm.Cond) ∈ am_T := am_mem (am_c2 (List.mem_of_getElem? (i := 140) rfl)) rfl
theorem tw_381 : ((Jvm.Cond.instanceMethod ({ cls := "DawnTales$Text", name := "nextToken", desc := "()V" } : Jvm.MethodName)) : Jvm.Cond) ∈ am_T := am_mem (am_c2 (List.mem_of_getElem? (i := 141) rfl)) rfl
theorem tw_382 : ((Jvm.Cond.selects "DawnTales$Text" ({ cls := "DawnTales$Text", name := "nextToken", desc := "()V" } : Jvm.MethodName) ({ cls := "DawnTales$Text", name := "nextToken", desc := "()V" } : Jvm.MethodName)) : Jvm.Cond) ∈ am_T := am_mem (am_c2 (List.mem_of_getElem? (i := 142) rfl)) rfl
theorem tw_383 : ((Jvm.Cond.code ({ cls := "DawnTales$Text", name := "nextToken", desc := "()V" } : Jvm.MethodName) prog_11_method_11_code (2 : Nat) (Option.none : Option Jvm.ClassFile.FieldType)) : Jvm.Cond) ∈ am_T := am_mem (am_c2 (List.mem_of_getElem? (i := 143) rfl)) rfl
theorem tw_384 : ((Jvm.Cond.methodLink "DawnTales$Text" (79 : Nat) ({ cls := "DawnTales$Text", name := "byteAt", desc := "(I)I" } : Jvm.MethodName)) : Jvm.Cond) ∈ am_T := am_mem (am_c2 (List.mem_of_getElem? (i := 144) rfl)) rfl
theorem tw_385 : ((Jvm.Cond.instanceMethod ({ cls := "DawnTales$Text", name := "byteAt", desc := "(I)I" } : Jvm.MethodName)) : Jvm.Cond) ∈ am_T := am_mem (am_c2 (List.mem_of_getElem? (i := 145) rfl)) rfl
theorem tw_386 : ((Jvm.Cond.selects "DawnTales$Text" ({ cls := "DawnTales$Text", name := "byteAt", desc := "(I)I" } : Jvm.MethodName) ({ cls := "DawnTales$Text", name := "byteAt", desc := "(I)I" } : Jvm.MethodName)) : Jvm.Cond) ∈ am_T := am_mem (am_c2 (List.mem_of_getElem? (i := 146) rfl)) rfl
theorem tw_387 : ((Jvm.Cond.code ({ cls := "DawnTales$Text", name := "byteAt", desc := "(I)I" } : Jvm.MethodName) prog_11_method_14_code (2 : Nat) (Option.some Jvm.ClassFile.FieldType.int)) : Jvm.Cond) ∈ am_T := am_mem (am_c2 (List.mem_of_getElem? (i := 147) rfl)) rfl
theorem tw_388 : ((Jvm.Cond.methodLink "DawnTales$Text" (86 : Nat) ({ cls := "DawnTales$Text", name := "isLetter", desc := "(I)Z" } : Jvm.MethodName)) : Jvm.Cond) ∈ am_T := am_mem (am_c2 (List.mem_of_getElem? (i := 148) rfl)) rfl
theorem tw_389 : ((Jvm.Cond.static ({ cls := "DawnTales$Text", name := "isLetter", desc := "(I)Z" } : Jvm.MethodName)) : Jvm.Cond) ∈ am_T := am_mem (am_c2 (List.mem_of_getElem? (i := 149) rfl)) rfl
theorem tw_390 : ((Jvm.Cond.code ({ cls := "DawnTales$Text", name := "isLetter", desc := "(I)Z" } : Jvm.MethodName) prog_11_method_15_code (1 : Nat) (Option.some Jvm.ClassFile.FieldType.boolean)) : Jvm.Cond) ∈ am_T := am_mem (am_c2 (List.mem_of_getElem? (i := 150) rfl)) rfl
theorem tw_391 : ((Jvm.Cond.methodLink "DawnTales$Text" (90 : Nat) ({ cls := "DawnTales$Text", name := "takeLetters", desc := "()V" } : Jvm.MethodName)) : Jvm.Cond) ∈ am_T := am_mem (am_c2 (List.mem_of_getElem? (i := 151) rfl)) rfl
theorem tw_392 : ((Jvm.Cond.instanceMethod ({ cls := "DawnTales$Text", name := "takeLetters", desc := "()V" } : Jvm.MethodName)) : Jvm.Cond) ∈ am_T := am_mem (am_c2 (List.mem_of_getElem? (i := 152) rfl)) rfl
theorem tw_393 : ((Jvm.Cond.selects "DawnTales$Text" ({ cls := "DawnTales$Text", name := "takeLetters", desc := "()V" } : Jvm.MethodName) ({ cls := "DawnTales$Text", name := "takeLetters", desc := "()V" } : Jvm.MethodName)) : Jvm.Cond) ∈ am_T := am_mem (am_c2 (List.mem_of_getElem? (i := 153) rfl)) rfl
theorem tw_394 : ((Jvm.Cond.code ({ cls := "DawnTales$Text", name := "takeLetters", desc := "()V" } : Jvm.MethodName) prog_11_method_12_code (2 : Nat) (Option.none : Option Jvm.ClassFile.FieldType)) : Jvm.Cond) ∈ am_T := am_mem (am_c2 (List.mem_of_getElem? (i := 154) rfl)) rfl
theorem tw_395 : ((Jvm.Cond.methodLink "DawnTales$Text" (93 : Nat) ({ cls := "DawnTales$Text", name := "isDigit", desc := "(I)Z" } : Jvm.MethodName)) : Jvm.Cond) ∈ am_T := am_mem (am_c2 (List.mem_of_getElem? (i := 155) rfl)) rfl
theorem tw_396 : ((Jvm.Cond.static ({ cls := "DawnTales$Text", name := "isDigit", desc := "(I)Z" } : Jvm.MethodName)) : Jvm.Cond) ∈ am_T := am_mem (am_c2 (List.mem_of_getElem? (i := 156) rfl)) rfl
theorem tw_397 : ((Jvm.Cond.code ({ cls := "DawnTales$Text", name := "isDigit", desc := "(I)Z" } : Jvm.MethodName) prog_11_method_16_code (1 : Nat) (Option.some Jvm.ClassFile.FieldType.boolean)) : Jvm.Cond) ∈ am_T := am_mem (am_c2 (List.mem_of_getElem? (i := 157) rfl)) rfl
theorem tw_398 : ((Jvm.Cond.methodLink "DawnTales$Text" (96 : Nat) ({ cls := "DawnTales$Text", name := "takeNumber", desc := "()V" } : Jvm.MethodName)) : Jvm.Cond) ∈ am_T := am_mem (am_c2 (List.mem_of_getElem? (i := 158) rfl)) rfl
theorem tw_399 : ((Jvm.Cond.instanceMethod ({ cls := "DawnTales$Text", name := "takeNumber", desc := "()V" } : Jvm.MethodName)) : Jvm.Cond) ∈ am_T := am_mem (am_c2 (List.mem_of_getElem? (i := 159) rfl)) rfl
theorem tw_400 : ((Jvm.Cond.selects "DawnTales$Text" ({ cls := "DawnTales$Text", name := "takeNumber", desc := "()V" } : Jvm.MethodName) ({ cls := "DawnTales$Text", name := "takeNumber", desc := "()V" } : Jvm.MethodName)) : Jvm.Cond) ∈ am_T := am_mem (am_c2 (List.mem_of_getElem? (i := 160) rfl)) rfl
theorem tw_401 : ((Jvm.Cond.code ({ cls := "DawnTales$Text", name := "takeNumber", desc := "()V" } : Jvm.MethodName) prog_11_method_13_code (2 : Nat) (Option.none : Option Jvm.ClassFile.FieldType)) : Jvm.Cond) ∈ am_T := am_mem (am_c2 (List.mem_of_getElem? (i := 161) rfl)) rfl
theorem tw_402 : ((Jvm.Cond.methodLink "DawnTales$Text" (99 : Nat) ({ cls := "java/lang/Math", name := "min", desc := "(II)I" } : Jvm.MethodName)) : Jvm.Cond) ∈ am_T := am_mem (am_c2 (List.mem_of_getElem? (i := 162) rfl)) rfl
theorem tw_403 : ((Jvm.Cond.static ({ cls := "java/lang/Math", name := "min", desc := "(II)I" } : Jvm.MethodName)) : Jvm.Cond) ∈ am_T := am_mem (am_c2 (List.mem_of_getElem? (i := 163) rfl)) rfl
theorem tw_404 : ((Jvm.Cond.code ({ cls := "java/lang/Math", name := "min", desc := "(II)I" } : Jvm.MethodName) prog_16_method_69_code (2 : Nat) (Option.some Jvm.ClassFile.FieldType.int)) : Jvm.Cond) ∈ am_T := am_mem (am_c2 (List.mem_of_getElem? (i := 164) rfl)) rfl
theorem tw_405 : ((Jvm.Cond.methodLink "DawnTales$Text" (33 : Nat) ({ cls := "DawnTales$Text", name := "readItem", desc := "(LDawnTales$Book;)Z" } : Jvm.MethodName)) : Jvm.Cond) ∈ am_T := am_mem (am_c2 (List.mem_of_getElem? (i := 165) rfl)) rfl
theorem tw_406 : ((Jvm.Cond.instanceMethod ({ cls := "DawnTales$Text", name := "readItem", desc := "(LDawnTales$Book;)Z" } : Jvm.MethodName)) : Jvm.Cond) ∈ am_T := am_mem (am_c2 (List.mem_of_getElem? (i := 166) rfl)) rfl
theorem tw_407 : ((Jvm.Cond.selects "DawnTales$Text" ({ cls := "DawnTales$Text", name := "readItem", desc := "(LDawnTales$Book;)Z" } : Jvm.MethodName) ({ cls := "DawnTales$Text", name := "readItem", desc := "(LDawnTales$Book;)Z" } : Jvm.MethodName)) : Jvm.Cond) ∈ am_T := am_mem (am_c2 (List.mem_of_getElem? (i := 167) rfl)) rfl
theorem tw_408 : ((Jvm.Cond.code ({ cls := "DawnTales$Text", name := "readItem", desc := "(LDawnTales$Book;)Z" } : Jvm.MethodName) prog_11_method_5_code (3 : Nat) (Option.some Jvm.ClassFile.FieldType.boolean)) : Jvm.Cond) ∈ am_T := am_mem (am_c2 (List.mem_of_getElem? (i := 168) rfl)) rfl
theorem tw_409 : ((Jvm.Cond.methodLink "DawnTales$Text" (43 : Nat) ({ cls := "DawnTales$Text", name := "readTale", desc := "(LDawnTales$Book;)Z" } : Jvm.MethodName)) : Jvm.Cond) ∈ am_T := am_mem (am_c2 (List.mem_of_getElem? (i := 169) rfl)) rfl
theorem tw_410 : ((Jvm.Cond.instanceMethod ({ cls := "DawnTales$Text", name := "readTale", desc := "(LDawnTales$Book;)Z" } : Jvm.MethodName)) : Jvm.Cond) ∈ am_T := am_mem (am_c2 (List.mem_of_getElem? (i := 170) rfl)) rfl
theorem tw_411 : ((Jvm.Cond.selects "DawnTales$Text" ({ cls := "DawnTales$Text", name := "readTale", desc := "(LDawnTales$Book;)Z" } : Jvm.MethodName) ({ cls := "DawnTales$Text", name := "readTale", desc := "(LDawnTales$Book;)Z" } : Jvm.MethodName)) : Jvm.Cond) ∈ am_T := am_mem (am_c2 (List.mem_of_getElem? (i := 171) rfl)) rfl
theorem tw_412 : ((Jvm.Cond.code ({ cls := "DawnTales$Text", name := "readTale", desc := "(LDawnTales$Book;)Z" } : Jvm.MethodName) prog_11_method_6_code (3 : Nat) (Option.some Jvm.ClassFile.FieldType.boolean)) : Jvm.Cond) ∈ am_T := am_mem (am_c2 (List.mem_of_getElem? (i := 172) rfl)) rfl
theorem tw_413 : ((Jvm.Cond.methodLink "DawnTales$Text" (58 : Nat) ({ cls := "DawnTales$Text", name := "isNumber", desc := "(II)Z" } : Jvm.MethodName)) : Jvm.Cond) ∈ am_T := am_mem (am_c2 (List.mem_of_getElem? (i := 173) rfl)) rfl
theorem tw_414 : ((Jvm.Cond.instanceMethod ({ cls := "DawnTales$Text", name := "isNumber", desc := "(II)Z" } : Jvm.MethodName)) : Jvm.Cond) ∈ am_T := am_mem (am_c2 (List.mem_of_getElem? (i := 174) rfl)) rfl
theorem tw_415 : ((Jvm.Cond.selects "DawnTales$Text" ({ cls := "DawnTales$Text", name := "isNumber", desc := "(II)Z" } : Jvm.MethodName) ({ cls := "DawnTales$Text", name := "isNumber", desc := "(II)Z" } : Jvm.MethodName)) : Jvm.Cond) ∈ am_T := am_mem (am_c2 (List.mem_of_getElem? (i := 175) rfl)) rfl
theorem tw_416 : ((Jvm.Cond.code ({ cls := "DawnTales$Text", name := "isNumber", desc := "(II)Z" } : Jvm.MethodName) prog_11_method_10_code (3 : Nat) (Option.some Jvm.ClassFile.FieldType.boolean)) : Jvm.Cond) ∈ am_T := am_mem (am_c2 (List.mem_of_getElem? (i := 176) rfl)) rfl
theorem tw_417 : ((Jvm.Cond.methodLink "DawnTales$Text" (62 : Nat) ({ cls := "DawnTales$Book", name := "addTale", desc := "(II)V" } : Jvm.MethodName)) : Jvm.Cond) ∈ am_T := am_mem (am_c2 (List.mem_of_getElem? (i := 177) rfl)) rfl
theorem tw_418 : ((Jvm.Cond.instanceMethod ({ cls := "DawnTales$Book", name := "addTale", desc := "(II)V" } : Jvm.MethodName)) : Jvm.Cond) ∈ am_T := am_mem (am_c2 (List.mem_of_getElem? (i := 178) rfl)) rfl
theorem tw_419 : ((Jvm.Cond.selects "DawnTales$Book" ({ cls := "DawnTales$Book", name := "addTale", desc := "(II)V" } : Jvm.MethodName) ({ cls := "DawnTales$Book", name := "addTale", desc := "(II)V" } : Jvm.MethodName)) : Jvm.Cond) ∈ am_T := am_mem (am_c2 (List.mem_of_getElem? (i := 179) rfl)) rfl
theorem tw_420 : ((Jvm.Cond.code ({ cls := "DawnTales$Book", name := "addTale", desc := "(II)V" } : Jvm.MethodName) prog_2_method_6_code (3 : Nat) (Option.none : Option Jvm.ClassFile.FieldType)) : Jvm.Cond) ∈ am_T := am_mem (am_c2 (List.mem_of_getElem? (i := 180) rfl)) rfl
theorem tw_421 : ((Jvm.Cond.methodLink "DawnTales$Text" (46 : Nat) ({ cls := "DawnTales$Text", name := "readNights", desc := "(LDawnTales$Book;)Z" } : Jvm.MethodName)) : Jvm.Cond) ∈ am_T := am_mem (am_c2 (List.mem_of_getElem? (i := 181) rfl)) rfl
theorem tw_422 : ((Jvm.Cond.instanceMethod ({ cls := "DawnTales$Text", name := "readNights", desc := "(LDawnTales$Book;)Z" } : Jvm.MethodName)) : Jvm.Cond) ∈ am_T := am_mem (am_c2 (List.mem_of_getElem? (i := 182) rfl)) rfl
theorem tw_423 : ((Jvm.Cond.selects "DawnTales$Text" ({ cls := "DawnTales$Text", name := "readNights", desc := "(LDawnTales$Book;)Z" } : Jvm.MethodName) ({ cls := "DawnTales$Text", name := "readNights", desc := "(LDawnTales$Book;)Z" } : Jvm.MethodName)) : Jvm.Cond) ∈ am_T := am_mem (am_c2 (List.mem_of_getElem? (i := 183) rfl)) rfl
theorem tw_424 : ((Jvm.Cond.code ({ cls := "DawnTales$Text", name := "readNights", desc := "(LDawnTales$Book;)Z" } : Jvm.MethodName) prog_11_method_7_code (3 : Nat) (Option.some Jvm.ClassFile.FieldType.boolean)) : Jvm.Cond) ∈ am_T := am_mem (am_c2 (List.mem_of_getElem? (i := 184) rfl)) rfl
theorem tw_425 : ((Jvm.Cond.methodLink "DawnTales$Text" (69 : Nat) ({ cls := "DawnTales$Book", name := "addNight", desc := "(I)V" } : Jvm.MethodName)) : Jvm.Cond) ∈ am_T := am_mem (am_c2 (List.mem_of_getElem? (i := 185) rfl)) rfl
theorem tw_426 : ((Jvm.Cond.methodLink "DawnTales$Text" (49 : Nat) ({ cls := "DawnTales$Text", name := "readMemory", desc := "(LDawnTales$Book;)Z" } : Jvm.MethodName)) : Jvm.Cond) ∈ am_T := am_mem (am_c2 (List.mem_of_getElem? (i := 186) rfl)) rfl
theorem tw_427 : ((Jvm.Cond.instanceMethod ({ cls := "DawnTales$Text", name := "readMemory", desc := "(LDawnTales$Book;)Z" } : Jvm.MethodName)) : Jvm.Cond) ∈ am_T := am_mem (am_c2 (List.mem_of_getElem? (i := 187) rfl)) rfl
theorem tw_428 : ((Jvm.Cond.selects "DawnTales$Text" ({ cls := "DawnTales$Text", name := "readMemory", desc := "(LDawnTales$Book;)Z" } : Jvm.MethodName) ({ cls := "DawnTales$Text", name := "readMemory", desc := "(LDawnTales$Book;)Z" } : Jvm.MethodName)) : Jvm.Cond) ∈ am_T := am_mem (am_c2 (List.mem_of_getElem? (i := 188) rfl)) rfl
theorem tw_429 : ((Jvm.Cond.code ({ cls := "DawnTales$Text", name := "readMemory", desc := "(LDawnTales$Book;)Z" } : Jvm.MethodName) prog_11_method_8_code (2 : Nat) (Option.some Jvm.ClassFile.FieldType.boolean)) : Jvm.Cond) ∈ am_T := am_mem (am_c2 (List.mem_of_getElem? (i := 189) rfl)) rfl
theorem tw_430 : ((Jvm.Cond.methodLink "DawnTales$Text" (52 : Nat) ({ cls := "DawnTales$Text", name := "readDepth", desc := "(LDawnTales$Book;)Z" } : Jvm.MethodName)) : Jvm.Cond) ∈ am_T := am_mem (am_c2 (List.mem_of_getElem? (i := 190) rfl)) rfl
theorem tw_431 : ((Jvm.Cond.instanceMethod ({ cls := "DawnTales$Text", name := "readDepth", desc := "(LDawnTales$Book;)Z" } : Jvm.MethodName)) : Jvm.Cond) ∈ am_T := am_mem (am_c2 (List.mem_of_getElem? (i := 191) rfl)) rfl
theorem tw_432 : ((Jvm.Cond.selects "DawnTales$Text" ({ cls := "DawnTales$Text", name := "readDepth", desc := "(LDawnTales$Book;)Z" } : Jvm.MethodName) ({ cls := "DawnTales$Text", name := "readDepth", desc := "(LDawnTales$Book;)Z" } : Jvm.MethodName)) : Jvm.Cond) ∈ am_T := am_mem (am_c2 (List.mem_of_getElem? (i := 192) rfl)) rfl
theorem tw_433 : ((Jvm.Cond.code ({ cls := "DawnTales$Text", name := "readDepth", desc := "(LDawnTales$Book;)Z" } : Jvm.MethodName) prog_11_method_9_code (2 : Nat) (Option.some Jvm.ClassFile.FieldType.boolean)) : Jvm.Cond) ∈ am_T := am_mem (am_c2 (List.mem_of_getElem? (i := 193) rfl)) rfl
theorem tw_434 : ((Jvm.Cond.methodLink "DawnTales$Text" (37 : Nat) ({ cls := "DawnTales$Book", name := "settle", desc := "()V" } : Jvm.MethodName)) : Jvm.Cond) ∈ am_T := am_mem (am_c2 (List.mem_of_getElem? (i := 194) rfl)) rfl
theorem tw_435 : ((Jvm.Cond.methodLink "DawnTales" (95 : Nat) ({ cls := "DawnTales$Book", name := "copyFrom", desc := "(LDawnTales$Book;)V" } : Jvm.MethodName)) : Jvm.Cond) ∈ am_T := am_mem (am_c2 (List.mem_of_getElem? (i := 195) rfl)) rfl
theorem tw_436 : ((Jvm.Cond.instanceMethod ({ cls := "DawnTales$Book", name := "copyFrom", desc := "(LDawnTales$Book;)V" } : Jvm.MethodName)) : Jvm.Cond) ∈ am_T := am_mem (am_c2 (List.mem_of_getElem? (i := 196) rfl)) rfl
theorem tw_437 : ((Jvm.Cond.selects "DawnTales$Book" ({ cls := "DawnTales$Book", name := "copyFrom", desc := "(LDawnTales$Book;)V" } : Jvm.MethodName) ({ cls := "DawnTales$Book", name := "copyFrom", desc := "(LDawnTales$Book;)V" } : Jvm.MethodName)) : Jvm.Cond) ∈ am_T := am_mem (am_c2 (List.mem_of_getElem? (i := 197) rfl)) rfl
theorem tw_438 : ((Jvm.Cond.code ({ cls := "DawnTales$Book", name := "copyFrom", desc := "(LDawnTales$Book;)V" } : Jvm.MethodName) prog_2_method_4_code (2 : Nat) (Option.none : Option Jvm.ClassFile.FieldType)) : Jvm.Cond) ∈ am_T := am_mem (am_c2 (List.mem_of_getElem? (i := 198) rfl)) rfl
theorem tw_439 : ((Jvm.Cond.methodLink "DawnTales$Book" (44 : Nat) ({ cls := "java/lang/System", name := "arraycopy", desc := "(Ljava/lang/Object;ILjava/lang/Object;II)V" } : Jvm.MethodName)) : Jvm.Cond) ∈ am_T := am_mem (am_c2 (List.mem_of_getElem? (i := 199) rfl)) rfl
theorem tw_440 : ((Jvm.Cond.static ({ cls := "java/lang/System", name := "arraycopy", desc := "(Ljava/lang/Object;ILjava/lang/Object;II)V" } : Jvm.MethodName)) : Jvm.Cond) ∈ am_T := am_mem (am_c2 (List.mem_of_getElem? (i := 200) rfl)) rfl
theorem tw_441 : ((Jvm.Cond.native ({ cls := "java/lang/System", name := "arraycopy", desc := "(Ljava/lang/Object;ILjava/lang/Object;II)V" } : Jvm.MethodName)) : Jvm.Cond) ∈ am_T := am_mem (am_c2 (List.mem_of_getElem? (i := 201) rfl)) rfl
theorem tw_442 : ((Jvm.Cond.methodLink "DawnTalesLaw" (27 : Nat) ({ cls := "DawnTales", name := "tale", desc := "(II)I" } : Jvm.MethodName)) : Jvm.Cond) ∈ am_T := am_mem (am_c2 (List.mem_of_getElem? (i := 202) rfl)) rfl
theorem tw_443 : ((Jvm.Cond.instanceMethod ({ cls := "DawnTales", name := "tale", desc := "(II)I" } : Jvm.MethodName)) : Jvm.Cond) ∈ am_T := am_mem (am_c2 (List.mem_of_getElem? (i := 203) rfl)) rfl
theorem tw_444 : ((Jvm.Cond.selects "DawnTales" ({ cls := "DawnTales", name := "tale", desc := "(II)I" } : Jvm.MethodName) ({ cls := "DawnTales", name := "tale", desc := "(II)I" } : Jvm.MethodName)) : Jvm.Cond) ∈ am_T := am_mem (am_c2 (List.mem_of_getElem? (i := 204) rfl)) rfl
theorem tw_445 : ((Jvm.Cond.code ({ cls := "DawnTales", name := "tale", desc := "(II)I" } : Jvm.MethodName) prog_1_method_5_code (4 : Nat) (Option.some Jvm.ClassFile.FieldType.int)) : Jvm.Cond) ∈ am_T := am_mem (am_c2 (List.mem_of_getElem? (i := 205) rfl)) rfl
theorem tw_446 : ((Jvm.Cond.methodLink "DawnTales" (99 : Nat) ({ cls := "DawnTales$Book", name := "isTale", desc := "(I)Z" } : Jvm.MethodName)) : Jvm.Cond) ∈ am_T := am_mem (am_c2 (List.mem_of_getElem? (i := 206) rfl)) rfl
theorem tw_447 : ((Jvm.Cond.methodLink "DawnTales" (106 : Nat) ({ cls := "DawnTales$Book", name := "partsOf", desc := "(I)I" } : Jvm.MethodName)) : Jvm.Cond) ∈ am_T := am_mem (am_c2 (List.mem_of_getElem? (i := 207) rfl)) rfl
theorem tw_448 : ((Jvm.Cond.methodLink "DawnTales" (110 : Nat) ({ cls := "DawnTales$Book", name := "withinOf", desc := "(I)I" } : Jvm.MethodName)) : Jvm.Cond) ∈ am_T := am_mem (am_c2 (List.mem_of_getElem? (i := 208) rfl)) rfl
theorem tw_449 : ((Jvm.Cond.instanceMethod ({ cls := "DawnTales$Book", name := "withinOf", desc := "(I)I" } : Jvm.MethodName)) : Jvm.Cond) ∈ am_T := am_mem (am_c2 (List.mem_of_getElem? (i := 209) rfl)) rfl
theorem tw_450 : ((Jvm.Cond.selects "DawnTales$Book" ({ cls := "DawnTales$Book", name := "withinOf", desc := "(I)I" } : Jvm.MethodName) ({ cls := "DawnTales$Book", name := "withinOf", desc := "(I)I" } : Jvm.MethodName)) : Jvm.Cond) ∈ am_T := am_mem (am_c2 (List.mem_of_getElem? (i := 210) rfl)) rfl
theorem tw_451 : ((Jvm.Cond.code ({ cls := "DawnTales$Book", name := "withinOf", desc := "(I)I" } : Jvm.MethodName) prog_2_method_10_code (2 : Nat) (Option.some Jvm.ClassFile.FieldType.int)) : Jvm.Cond) ∈ am_T := am_mem (am_c2 (List.mem_of_getElem? (i := 211) rfl)) rfl
theorem tw_452 : ((Jvm.Cond.methodLink "DawnTales" (113 : Nat) ({ cls := "DawnTales$Telling", name := "leftOf", desc := "(I)I" } : Jvm.MethodName)) : Jvm.Cond) ∈ am_T := am_mem (am_c2 (List.mem_of_getElem? (i := 212) rfl)) rfl
theorem tw_453 : ((Jvm.Cond.instanceMethod ({ cls := "DawnTales$Telling", name := "leftOf", desc := "(I)I" } : Jvm.MethodName)) : Jvm.Cond) ∈ am_T := am_mem (am_c2 (List.mem_of_getElem? (i := 213) rfl)) rfl
theorem tw_454 : ((Jvm.Cond.selects "DawnTales$Telling" ({ cls := "DawnTales$Telling", name := "leftOf", desc := "(I)I" } : Jvm.MethodName) ({ cls := "DawnTales$Telling", name := "leftOf", desc := "(I)I" } : Jvm.MethodName)) : Jvm.Cond) ∈ am_T := am_mem (am_c2 (List.mem_of_getElem? (i := 214) rfl)) rfl
theorem tw_455 : ((Jvm.Cond.code ({ cls := "DawnTales$Telling", name := "leftOf", desc := "(I)I" } : Jvm.MethodName) prog_10_method_4_code (2 : Nat) (Option.some Jvm.ClassFile.FieldType.int)) : Jvm.Cond) ∈ am_T := am_mem (am_c2 (List.mem_of_getElem? (i := 215) rfl)) rfl
theorem tw_456 : ((Jvm.Cond.methodLink "DawnTales" (118 : Nat) ({ cls := "DawnTales$Telling", name := "isBegun", desc := "(I)Z" } : Jvm.MethodName)) : Jvm.Cond) ∈ am_T := am_mem (am_c2 (List.mem_of_getElem? (i := 216) rfl)) rfl
theorem tw_457 : ((Jvm.Cond.instanceMethod ({ cls := "DawnTales$Telling", name := "isBegun", desc := "(I)Z" } : Jvm.MethodName)) : Jvm.Cond) ∈ am_T := am_mem (am_c2 (List.mem_of_getElem? (i := 217) rfl)) rfl
theorem tw_458 : ((Jvm.Cond.selects "DawnTales$Telling" ({ cls := "DawnTales$Telling", name := "isBegun", desc := "(I)Z" } : Jvm.MethodName) ({ cls := "DawnTales$Telling", name := "isBegun", desc := "(I)Z" } : Jvm.MethodName)) : Jvm.Cond) ∈ am_T := am_mem (am_c2 (List.mem_of_getElem? (i := 218) rfl)) rfl
theorem tw_459 : ((Jvm.Cond.code ({ cls := "DawnTales$Telling", name := "isBegun", desc := "(I)Z" } : Jvm.MethodName) prog_10_method_6_code (2 : Nat) (Option.some Jvm.ClassFile.FieldType.boolean)) : Jvm.Cond) ∈ am_T := am_mem (am_c2 (List.mem_of_getElem? (i := 219) rfl)) rfl
theorem tw_460 : ((Jvm.Cond.methodLink "DawnTales" (121 : Nat) ({ cls := "DawnTales$Telling", name := "placeOf", desc := "(I)I" } : Jvm.MethodName)) : Jvm.Cond) ∈ am_T := am_mem (am_c2 (List.mem_of_getElem? (i := 220) rfl)) rfl
theorem tw_461 : ((Jvm.Cond.instanceMethod ({ cls := "DawnTales$Telling", name := "placeOf", desc := "(I)I" } : Jvm.MethodName)) : Jvm.Cond) ∈ am_T := am_mem (am_c2 (List.mem_of_getElem? (i := 221) rfl)) rfl
theorem tw_462 : ((Jvm.Cond.selects "DawnTales$Telling" ({ cls := "DawnTales$Telling", name := "placeOf", desc := "(I)I" } : Jvm.MethodName) ({ cls := "DawnTales$Telling", name := "placeOf", desc := "(I)I" } : Jvm.MethodName)) : Jvm.Cond) ∈ am_T := am_mem (am_c2 (List.mem_of_getElem? (i := 222) rfl)) rfl
theorem tw_463 : ((Jvm.Cond.code ({ cls := "DawnTales$Telling", name := "placeOf", desc := "(I)I" } : Jvm.MethodName) prog_10_method_9_code (3 : Nat) (Option.some Jvm.ClassFile.FieldType.int)) : Jvm.Cond) ∈ am_T := am_mem (am_c2 (List.mem_of_getElem? (i := 223) rfl)) rfl
theorem tw_464 : ((Jvm.Cond.methodLink "DawnTales$Telling" (59 : Nat) ({ cls := "DawnTales$Telling", name := "openAt", desc := "(I)I" } : Jvm.MethodName)) : Jvm.Cond) ∈ am_T := am_mem (am_c2 (List.mem_of_getElem? (i := 224) rfl)) rfl
theorem tw_465 : ((Jvm.Cond.instanceMethod ({ cls := "DawnTales$Telling", name := "openAt", desc := "(I)I" } : Jvm.MethodName)) : Jvm.Cond) ∈ am_T := am_mem (am_c2 (List.mem_of_getElem? (i := 225) rfl)) rfl
theorem tw_466 : ((Jvm.Cond.selects "DawnTales$Telling" ({ cls := "DawnTales$Telling", name := "openAt", desc := "(I)I" } : Jvm.MethodName) ({ cls := "DawnTales$Telling", name := "openAt", desc := "(I)I" } : Jvm.MethodName)) : Jvm.Cond) ∈ am_T := am_mem (am_c2 (List.mem_of_getElem? (i := 226) rfl)) rfl
theorem tw_467 : ((Jvm.Cond.code ({ cls := "DawnTales$Telling", name := "openAt", desc := "(I)I" } : Jvm.MethodName) prog_10_method_7_code (2 : Nat) (Option.some Jvm.ClassFile.FieldType.int)) : Jvm.Cond) ∈ am_T := am_mem (am_c2 (List.mem_of_getElem? (i := 227) rfl)) rfl
theorem tw_468 : ((Jvm.Cond.methodLink "DawnTales" (124 : Nat) ({ cls := "DawnTales$Telling", name := "lastNightOf", desc := "(I)I" } : Jvm.MethodName)) : Jvm.Cond) ∈ am_T := am_mem (am_c2 (List.mem_of_getElem? (i := 228) rfl)) rfl
theorem tw_469 : ((Jvm.Cond.instanceMethod ({ cls := "DawnTales$Telling", name := "lastNightOf", desc := "(I)I" } : Jvm.MethodName)) : Jvm.Cond) ∈ am_T := am_mem (am_c2 (List.mem_of_getElem? (i := 229) rfl)) rfl
theorem tw_470 : ((Jvm.Cond.selects "DawnTales$Telling" ({ cls := "DawnTales$Telling", name := "lastNightOf", desc := "(I)I" } : Jvm.MethodName) ({ cls := "DawnTales$Telling", name := "lastNightOf", desc := "(I)I" } : Jvm.MethodName)) : Jvm.Cond) ∈ am_T := am_mem (am_c2 (List.mem_of_getElem? (i := 230) rfl)) rfl
theorem tw_471 : ((Jvm.Cond.code ({ cls := "DawnTales$Telling", name := "lastNightOf", desc := "(I)I" } : Jvm.MethodName) prog_10_method_5_code (2 : Nat) (Option.some Jvm.ClassFile.FieldType.int)) : Jvm.Cond) ∈ am_T := am_mem (am_c2 (List.mem_of_getElem? (i := 231) rfl)) rfl
theorem tw_472 : ((Jvm.Cond.methodLink "DawnTalesLaw" (32 : Nat) ({ cls := "DawnTales", name := "hours", desc := "(I)I" } : Jvm.MethodName)) : Jvm.Cond) ∈ am_T := am_mem (am_c2 (List.mem_of_getElem? (i := 232) rfl)) rfl
theorem tw_473 : ((Jvm.Cond.instanceMethod ({ cls := "DawnTales", name := "hours", desc := "(I)I" } : Jvm.MethodName)) : Jvm.Cond) ∈ am_T := am_mem (am_c2 (List.mem_of_getElem? (i := 233) rfl)) rfl
theorem tw_474 : ((Jvm.Cond.selects "DawnTales" ({ cls := "DawnTales", name := "hours", desc := "(I)I" } : Jvm.MethodName) ({ cls := "DawnTales", name := "hours", desc := "(I)I" } : Jvm.MethodName)) : Jvm.Cond) ∈ am_T := am_mem (am_c2 (List.mem_of_getElem? (i := 234) rfl)) rfl
theorem tw_475 : ((Jvm.Cond.code ({ cls := "DawnTales", name := "hours", desc := "(I)I" } : Jvm.MethodName) prog_1_method_6_code (2 : Nat) (Option.some Jvm.ClassFile.FieldType.int)) : Jvm.Cond) ∈ am_T := am_mem (am_c2 (List.mem_of_getElem? (i := 235) rfl)) rfl
theorem tw_476 : ((Jvm.Cond.methodLink "DawnTales" (127 : Nat) ({ cls := "DawnTales$Book", name := "hoursOf", desc := "(I)I" } : Jvm.MethodName)) : Jvm.Cond) ∈ am_T := am_mem (am_c2 (List.mem_of_getElem? (i := 236) rfl)) rfl
theorem tw_477 : ((Jvm.Cond.methodLink "DawnTalesLaw" (36 : Nat) ({ cls := "DawnTales", name := "begins", desc := "(I)I" } : Jvm.MethodName)) : Jvm.Cond) ∈ am_T := am_mem (am_c2 (List.mem_of_getElem? (i := 237) rfl)) rfl
theorem tw_478 : ((Jvm.Cond.instanceMethod ({ cls := "DawnTales", name := "begins", desc := "(I)I" } : Jvm.MethodName)) : Jvm.Cond) ∈ am_T := am_mem (am_c2 (List.mem_of_getElem? (i := 238) rfl)) rfl
theorem tw_479 : ((Jvm.Cond.selects "DawnTales" ({ cls := "DawnTales", name := "begins", desc := "(I)I" } : Jvm.MethodName) ({ cls := "DawnTales", name := "begins", desc := "(I)I" } : Jvm.MethodName)) : Jvm.Cond) ∈ am_T := am_mem (am_c2 (List.mem_of_getElem? (i := 239) rfl)) rfl
theorem tw_480 : ((Jvm.Cond.code ({ cls := "DawnTales", name := "begins", desc := "(I)I" } : Jvm.MethodName) prog_1_method_7_code (2 : Nat) (Option.some Jvm.ClassFile.FieldType.int)) : Jvm.Cond) ∈ am_T := am_mem (am_c3 (List.mem_of_getElem? (i := 0) rfl)) rfl
theorem tw_481 : ((Jvm.Cond.methodLink "DawnTales" (130 : Nat) ({ cls := "DawnTales$Telling", name := "mayBegin", desc := "(LDawnTales$Book;I)Z" } : Jvm.MethodName)) : Jvm.Cond) ∈ am_T := am_mem (am_c3 (List.mem_of_getElem? (i := 1) rfl)) rfl
theorem tw_482 : ((Jvm.Cond.instanceMethod ({ cls := "DawnTales$Telling", name := "mayBegin", desc := "(LDawnTales$Book;I)Z" } : Jvm.MethodName)) : Jvm.Cond) ∈ am_T := am_mem (am_c3 (List.mem_of_getElem? (i := 2) rfl)) rfl
theorem tw_483 : ((Jvm.Cond.selects "DawnTales$Telling" ({ cls := "DawnTales$Telling", name := "mayBegin", desc := "(LDawnTales$Book;I)Z" } : Jvm.MethodName) ({ cls := "DawnTales$Telling", name := "mayBegin", desc := "(LDawnTales$Book;I)Z" } : Jvm.MethodName)) : Jvm.Cond) ∈ am_T := am_mem (am_c3 (List.mem_of_getElem? (i := 3) rfl)) rfl
theorem tw_484 : ((Jvm.Cond.code ({ cls := "DawnTales$Telling", name := "mayBegin", desc := "(LDawnTales$Book;I)Z" } : Jvm.MethodName) prog_10_method_14_code (4 : Nat) (Option.some Jvm.ClassFile.FieldType.boolean)) : Jvm.Cond) ∈ am_T := am_mem (am_c3 (List.mem_of_getElem? (i := 4) rfl)) rfl
theorem tw_485 : ((Jvm.Cond.methodLink "DawnTales$Telling" (73 : Nat) ({ cls := "DawnTales$Telling", name := "hasHour", desc := "()Z" } : Jvm.MethodName)) : Jvm.Cond) ∈ am_T := am_mem (am_c3 (List.mem_of_getElem? (i := 5) rfl)) rfl
theorem tw_486 : ((Jvm.Cond.instanceMethod ({ cls := "DawnTales$Telling", name := "hasHour", desc := "()Z" } : Jvm.MethodName)) : Jvm.Cond) ∈ am_T := am_mem (am_c3 (List.mem_of_getElem? (i := 6) rfl)) rfl
theorem tw_487 : ((Jvm.Cond.selects "DawnTales$Telling" ({ cls := "DawnTales$Telling", name := "hasHour", desc := "()Z" } : Jvm.MethodName) ({ cls := "DawnTales$Telling", name := "hasHour", desc := "()Z" } : Jvm.MethodName)) : Jvm.Cond) ∈ am_T := am_mem (am_c3 (List.mem_of_getElem? (i := 7) rfl)) rfl
theorem tw_488 : ((Jvm.Cond.code ({ cls := "DawnTales$Telling", name := "hasHour", desc := "()Z" } : Jvm.MethodName) prog_10_method_13_code (1 : Nat) (Option.some Jvm.ClassFile.FieldType.boolean)) : Jvm.Cond) ∈ am_T := am_mem (am_c3 (List.mem_of_getElem? (i := 8) rfl)) rfl
theorem tw_489 : ((Jvm.Cond.methodLink "DawnTales$Telling" (77 : Nat) ({ cls := "DawnTales$Book", name := "isTale", desc := "(I)Z" } : Jvm.MethodName)) : Jvm.Cond) ∈ am_T := am_mem (am_c3 (List.mem_of_getElem? (i := 9) rfl)) rfl
theorem tw_490 : ((Jvm.Cond.methodLink "DawnTales$Telling" (62 : Nat) ({ cls := "DawnTales$Telling", name := "isBegun", desc := "(I)Z" } : Jvm.MethodName)) : Jvm.Cond) ∈ am_T := am_mem (am_c3 (List.mem_of_getElem? (i := 10) rfl)) rfl
theorem tw_491 : ((Jvm.Cond.methodLink "DawnTales$Telling" (86 : Nat) ({ cls := "DawnTales$Telling", name := "innermost", desc := "()I" } : Jvm.MethodName)) : Jvm.Cond) ∈ am_T := am_mem (am_c3 (List.mem_of_getElem? (i := 11) rfl)) rfl
theorem tw_492 : ((Jvm.Cond.instanceMethod ({ cls := "DawnTales$Telling", name := "innermost", desc := "()I" } : Jvm.MethodName)) : Jvm.Cond) ∈ am_T := am_mem (am_c3 (List.mem_of_getElem? (i := 12) rfl)) rfl
theorem tw_493 : ((Jvm.Cond.selects "DawnTales$Telling" ({ cls := "DawnTales$Telling", name := "innermost", desc := "()I" } : Jvm.MethodName) ({ cls := "DawnTales$Telling", name := "innermost", desc := "()I" } : Jvm.MethodName)) : Jvm.Cond) ∈ am_T := am_mem (am_c3 (List.mem_of_getElem? (i := 13) rfl)) rfl
theorem tw_494 : ((Jvm.Cond.code ({ cls := "DawnTales$Telling", name := "innermost", desc := "()I" } : Jvm.MethodName) prog_10_method_8_code (1 : Nat) (Option.some Jvm.ClassFile.FieldType.int)) : Jvm.Cond) ∈ am_T := am_mem (am_c3 (List.mem_of_getElem? (i := 14) rfl)) rfl
theorem tw_495 : ((Jvm.Cond.methodLink "DawnTales" (134 : Nat) ({ cls := "DawnTales$Stand", name := "remember", desc := "()V" } : Jvm.MethodName)) : Jvm.Cond) ∈ am_T := am_mem (am_c3 (List.mem_of_getElem? (i := 15) rfl)) rfl
theorem tw_496 : ((Jvm.Cond.instanceMethod ({ cls := "DawnTales$Stand", name := "remember", desc := "()V" } : Jvm.MethodName)) : Jvm.Cond) ∈ am_T := am_mem (am_c3 (List.mem_of_getElem? (i := 16) rfl)) rfl
theorem tw_497 : ((Jvm.Cond.selects "DawnTales$Stand" ({ cls := "DawnTales$Stand", name := "remember", desc := "()V" } : Jvm.MethodName) ({ cls := "DawnTales$Stand", name := "remember", desc := "()V" } : Jvm.MethodName)) : Jvm.Cond) ∈ am_T := am_mem (am_c3 (List.mem_of_getElem? (i := 17) rfl)) rfl
theorem tw_498 : ((Jvm.Cond.code ({ cls := "DawnTales$Stand", name := "remember", desc := "()V" } : Jvm.MethodName) prog_8_method_4_code (1 : Nat) (Option.none : Option Jvm.ClassFile.FieldType)) : Jvm.Cond) ∈ am_T := am_mem (am_c3 (List.mem_of_getElem? (i := 18) rfl)) rfl
theorem tw_499 : ((Jvm.Cond.methodLink "DawnTales$Stand" (34 : Nat) ({ cls := "DawnTales$Stand", name := "loseOldest", desc := "()V" } : Jvm.MethodName)) : Jvm.Cond) ∈ am_T := am_mem (am_c3 (List.mem_of_getElem? (i := 19) rfl)) rfl
theorem tw_500 : ((Jvm.Cond.instanceMethod ({ cls := "DawnTales$Stand", name := "loseOldest", desc := "()V" } : Jvm.MethodName)) : Jvm.Cond) ∈ am_T := am_mem (am_c3 (List.mem_of_getElem? (i := 20) rfl)) rfl
theorem tw_501 : ((Jvm.Cond.selects "DawnTales$Stand" ({ cls := "DawnTales$Stand", name := "loseOldest", desc := "()V" } : Jvm.MethodName) ({ cls := "DawnTales$Stand", name := "loseOldest", desc := "()V" } : Jvm.MethodName)) : Jvm.Cond) ∈ am_T := am_mem (am_c3 (List.mem_of_getElem? (i := 21) rfl)) rfl
theorem tw_502 : ((Jvm.Cond.code ({ cls := "DawnTales$Stand", name := "loseOldest", desc := "()V" } : Jvm.MethodName) prog_8_method_5_code (3 : Nat) (Option.none : Option Jvm.ClassFile.FieldType)) : Jvm.Cond) ∈ am_T := am_mem (am_c3 (List.mem_of_getElem? (i := 22) rfl)) rfl
theorem tw_503 : ((Jvm.Cond.methodLink "DawnTales$Stand" (30 : Nat) ({ cls := "DawnTales$Telling", name := "copyFrom", desc := "(LDawnTales$Telling;)V" } : Jvm.MethodName)) : Jvm.Cond) ∈ am_T := am_mem (am_c3 (List.mem_of_getElem? (i := 23) rfl)) rfl
theorem tw_504 : ((Jvm.Cond.instanceMethod ({ cls := "DawnTales$Telling", name := "copyFrom", desc := "(LDawnTales$Telling;)V" } : Jvm.MethodName)) : Jvm.Cond) ∈ am_T := am_mem (am_c3 (List.mem_of_getElem? (i := 24) rfl)) rfl
theorem tw_505 : ((Jvm.Cond.selects "DawnTales$Telling" ({ cls := "DawnTales$Telling", name := "copyFrom", desc := "(LDawnTales$Telling;)V" } : Jvm.MethodName) ({ cls := "DawnTales$Telling", name := "copyFrom", desc := "(LDawnTales$Telling;)V" } : Jvm.MethodName)) : Jvm.Cond) ∈ am_T := am_mem (am_c3 (List.mem_of_getElem? (i := 25) rfl)) rfl
theorem tw_506 : ((Jvm.Cond.code ({ cls := "DawnTales$Telling", name := "copyFrom", desc := "(LDawnTales$Telling;)V" } : Jvm.MethodName) prog_10_method_3_code (2 : Nat) (Option.none : Option Jvm.ClassFile.FieldType)) : Jvm.Cond) ∈ am_T := am_mem (am_c3 (List.mem_of_getElem? (i := 26) rfl)) rfl
theorem tw_507 : ((Jvm.Cond.methodLink "DawnTales$Telling" (53 : Nat) ({ cls := "java/lang/System", name := "arraycopy", desc := "(Ljava/lang/Object;ILjava/lang/Object;II)V" } : Jvm.MethodName)) : Jvm.Cond) ∈ am_T := am_mem (am_c3 (List.mem_of_getElem? (i := 27) rfl)) rfl
theorem tw_508 : ((Jvm.Cond.methodLink "DawnTales" (137 : Nat) ({ cls := "DawnTales$Telling", name := "beginTale", desc := "(I)V" } : Jvm.MethodName)) : Jvm.Cond) ∈ am_T := am_mem (am_c3 (List.mem_of_getElem? (i := 28) rfl)) rfl
theorem tw_509 : ((Jvm.Cond.instanceMethod ({ cls := "DawnTales$Telling", name := "beginTale", desc := "(I)V" } : Jvm.MethodName)) : Jvm.Cond) ∈ am_T := am_mem (am_c3 (List.mem_of_getElem? (i := 29) rfl)) rfl
theorem tw_510 : ((Jvm.Cond.selects "DawnTales$Telling" ({ cls := "DawnTales$Telling", name := "beginTale", desc := "(I)V" } : Jvm.MethodName) ({ cls := "DawnTales$Telling", name := "beginTale", desc := "(I)V" } : Jvm.MethodName)) : Jvm.Cond) ∈ am_T := am_mem (am_c3 (List.mem_of_getElem? (i := 30) rfl)) rfl
theorem tw_511 : ((Jvm.Cond.code ({ cls := "DawnTales$Telling", name := "beginTale", desc := "(I)V" } : Jvm.MethodName) prog_10_method_16_code (2 : Nat) (Option.none : Option Jvm.ClassFile.FieldType)) : Jvm.Cond) ∈ am_T := am_mem (am_c3 (List.mem_of_getElem? (i := 31) rfl)) rfl
theorem tw_512 : ((Jvm.Cond.methodLink "DawnTales$Telling" (90 : Nat) ({ cls := "DawnTales$Telling", name := "tellParts", desc := "(II)V" } : Jvm.MethodName)) : Jvm.Cond) ∈ am_T := am_mem (am_c3 (List.mem_of_getElem? (i := 32) rfl)) rfl
theorem tw_513 : ((Jvm.Cond.instanceMethod ({ cls := "DawnTales$Telling", name := "tellParts", desc := "(II)V" } : Jvm.MethodName)) : Jvm.Cond) ∈ am_T := am_mem (am_c3 (List.mem_of_getElem? (i := 33) rfl)) rfl
theorem tw_514 : ((Jvm.Cond.selects "DawnTales$Telling" ({ cls := "DawnTales$Telling", name := "tellParts", desc := "(II)V" } : Jvm.MethodName) ({ cls := "DawnTales$Telling", name := "tellParts", desc := "(II)V" } : Jvm.MethodName)) : Jvm.Cond) ∈ am_T := am_mem (am_c3 (List.mem_of_getElem? (i := 34) rfl)) rfl
theorem tw_515 : ((Jvm.Cond.code ({ cls := "DawnTales$Telling", name := "tellParts", desc := "(II)V" } : Jvm.MethodName) prog_10_method_17_code (3 : Nat) (Option.none : Option Jvm.ClassFile.FieldType)) : Jvm.Cond) ∈ am_T := am_mem (am_c3 (List.mem_of_getElem? (i := 35) rfl)) rfl
theorem tw_516 : ((Jvm.Cond.methodLink "DawnTalesLaw" (40 : Nat) ({ cls := "DawnTales", name := "tells", desc := "()I" } : Jvm.MethodName)) : Jvm.Cond) ∈ am_T := am_mem (am_c3 (List.mem_of_getElem? (i := 36) rfl)) rfl
theorem tw_517 : ((Jvm.Cond.instanceMethod ({ cls := "DawnTales", name := "tells", desc := "()I" } : Jvm.MethodName)) : Jvm.Cond) ∈ am_T := am_mem (am_c3 (List.mem_of_getElem? (i := 37) rfl)) rfl
theorem tw_518 : ((Jvm.Cond.selects "DawnTales" ({ cls := "DawnTales", name := "tells", desc := "()I" } : Jvm.MethodName) ({ cls := "DawnTales", name := "tells", desc := "()I" } : Jvm.MethodName)) : Jvm.Cond) ∈ am_T := am_mem (am_c3 (List.mem_of_getElem? (i := 38) rfl)) rfl
theorem tw_519 : ((Jvm.Cond.code ({ cls := "DawnTales", name := "tells", desc := "()I" } : Jvm.MethodName) prog_1_method_8_code (1 : Nat) (Option.some Jvm.ClassFile.FieldType.int)) : Jvm.Cond) ∈ am_T := am_mem (am_c3 (List.mem_of_getElem? (i := 39) rfl)) rfl
theorem tw_520 : ((Jvm.Cond.methodLink "DawnTales" (144 : Nat) ({ cls := "DawnTales$Telling", name := "hasHour", desc := "()Z" } : Jvm.MethodName)) : Jvm.Cond) ∈ am_T := am_mem (am_c3 (List.mem_of_getElem? (i := 40) rfl)) rfl
theorem tw_521 : ((Jvm.Cond.methodLink "DawnTales" (151 : Nat) ({ cls := "DawnTales$Telling", name := "innermost", desc := "()I" } : Jvm.MethodName)) : Jvm.Cond) ∈ am_T := am_mem (am_c3 (List.mem_of_getElem? (i := 41) rfl)) rfl
theorem tw_522 : ((Jvm.Cond.methodLink "DawnTales" (154 : Nat) ({ cls := "DawnTales$Telling", name := "tellParts", desc := "(II)V" } : Jvm.MethodName)) : Jvm.Cond) ∈ am_T := am_mem (am_c3 (List.mem_of_getElem? (i := 42) rfl)) rfl
theorem tw_523 : ((Jvm.Cond.methodLink "DawnTalesLaw" (44 : Nat) ({ cls := "DawnTales", name := "silent", desc := "()I" } : Jvm.MethodName)) : Jvm.Cond) ∈ am_T := am_mem (am_c3 (List.mem_of_getElem? (i := 43) rfl)) rfl
theorem tw_524 : ((Jvm.Cond.instanceMethod ({ cls := "DawnTales", name := "silent", desc := "()I" } : Jvm.MethodName)) : Jvm.Cond) ∈ am_T := am_mem (am_c3 (List.mem_of_getElem? (i := 44) rfl)) rfl
theorem tw_525 : ((Jvm.Cond.selects "DawnTales" ({ cls := "DawnTales", name := "silent", desc := "()I" } : Jvm.MethodName) ({ cls := "DawnTales", name := "silent", desc := "()I" } : Jvm.MethodName)) : Jvm.Cond) ∈ am_T := am_mem (am_c3 (List.mem_of_getElem? (i := 45) rfl)) rfl
theorem tw_526 : ((Jvm.Cond.code ({ cls := "DawnTales", name := "silent", desc := "()I" } : Jvm.MethodName) prog_1_method_9_code (1 : Nat) (Option.some Jvm.ClassFile.FieldType.int)) : Jvm.Cond) ∈ am_T := am_mem (am_c3 (List.mem_of_getElem? (i := 46) rfl)) rfl
theorem tw_527 : ((Jvm.Cond.methodLink "DawnTales" (158 : Nat) ({ cls := "DawnTales$Telling", name := "passHour", desc := "()V" } : Jvm.MethodName)) : Jvm.Cond) ∈ am_T := am_mem (am_c3 (List.mem_of_getElem? (i := 47) rfl)) rfl
theorem tw_528 : ((Jvm.Cond.instanceMethod ({ cls := "DawnTales$Telling", name := "passHour", desc := "()V" } : Jvm.MethodName)) : Jvm.Cond) ∈ am_T := am_mem (am_c3 (List.mem_of_getElem? (i := 48) rfl)) rfl
theorem tw_529 : ((Jvm.Cond.selects "DawnTales$Telling" ({ cls := "DawnTales$Telling", name := "passHour", desc := "()V" } : Jvm.MethodName) ({ cls := "DawnTales$Telling", name := "passHour", desc := "()V" } : Jvm.MethodName)) : Jvm.Cond) ∈ am_T := am_mem (am_c3 (List.mem_of_getElem? (i := 49) rfl)) rfl
theorem tw_530 : ((Jvm.Cond.code ({ cls := "DawnTales$Telling", name := "passHour", desc := "()V" } : Jvm.MethodName) prog_10_method_18_code (1 : Nat) (Option.none : Option Jvm.ClassFile.FieldType)) : Jvm.Cond) ∈ am_T := am_mem (am_c3 (List.mem_of_getElem? (i := 50) rfl)) rfl
theorem tw_531 : ((Jvm.Cond.methodLink "DawnTalesLaw" (48 : Nat) ({ cls := "DawnTales", name := "dawn", desc := "()I" } : Jvm.MethodName)) : Jvm.Cond) ∈ am_T := am_mem (am_c3 (List.mem_of_getElem? (i := 51) rfl)) rfl
theorem tw_532 : ((Jvm.Cond.instanceMethod ({ cls := "DawnTales", name := "dawn", desc := "()I" } : Jvm.MethodName)) : Jvm.Cond) ∈ am_T := am_mem (am_c3 (List.mem_of_getElem? (i := 52) rfl)) rfl
theorem tw_533 : ((Jvm.Cond.selects "DawnTales" ({ cls := "DawnTales", name := "dawn", desc := "()I" } : Jvm.MethodName) ({ cls := "DawnTales", name := "dawn", desc := "()I" } : Jvm.MethodName)) : Jvm.Cond) ∈ am_T := am_mem (am_c3 (List.mem_of_getElem? (i := 53) rfl)) rfl
theorem tw_534 : ((Jvm.Cond.code ({ cls := "DawnTales", name := "dawn", desc := "()I" } : Jvm.MethodName) prog_1_method_10_code (1 : Nat) (Option.some Jvm.ClassFile.FieldType.int)) : Jvm.Cond) ∈ am_T := am_mem (am_c3 (List.mem_of_getElem? (i := 54) rfl)) rfl
theorem tw_535 : ((Jvm.Cond.methodLink "DawnTales" (161 : Nat) ({ cls := "DawnTales$Telling", name := "mayDawn", desc := "()Z" } : Jvm.MethodName)) : Jvm.Cond) ∈ am_T := am_mem (am_c3 (List.mem_of_getElem? (i := 55) rfl)) rfl
theorem tw_536 : ((Jvm.Cond.instanceMethod ({ cls := "DawnTales$Telling", name := "mayDawn", desc := "()Z" } : Jvm.MethodName)) : Jvm.Cond) ∈ am_T := am_mem (am_c3 (List.mem_of_getElem? (i := 56) rfl)) rfl
theorem tw_537 : ((Jvm.Cond.selects "DawnTales$Telling" ({ cls := "DawnTales$Telling", name := "mayDawn", desc := "()Z" } : Jvm.MethodName) ({ cls := "DawnTales$Telling", name := "mayDawn", desc := "()Z" } : Jvm.MethodName)) : Jvm.Cond) ∈ am_T := am_mem (am_c3 (List.mem_of_getElem? (i := 57) rfl)) rfl
theorem tw_538 : ((Jvm.Cond.code ({ cls := "DawnTales$Telling", name := "mayDawn", desc := "()Z" } : Jvm.MethodName) prog_10_method_15_code (1 : Nat) (Option.some Jvm.ClassFile.FieldType.boolean)) : Jvm.Cond) ∈ am_T := am_mem (am_c3 (List.mem_of_getElem? (i := 58) rfl)) rfl
theorem tw_539 : ((Jvm.Cond.methodLink "DawnTales" (164 : Nat) ({ cls := "DawnTales$Telling", name := "meetDawn", desc := "(LDawnTales$Book;)Z" } : Jvm.MethodName)) : Jvm.Cond) ∈ am_T := am_mem (am_c3 (List.mem_of_getElem? (i := 59) rfl)) rfl
theorem tw_540 : ((Jvm.Cond.instanceMethod ({ cls := "DawnTales$Telling", name := "meetDawn", desc := "(LDawnTales$Book;)Z" } : Jvm.MethodName)) : Jvm.Cond) ∈ am_T := am_mem (am_c3 (List.mem_of_getElem? (i := 60) rfl)) rfl
theorem tw_541 : ((Jvm.Cond.selects "DawnTales$Telling" ({ cls := "DawnTales$Telling", name := "meetDawn", desc := "(LDawnTales$Book;)Z" } : Jvm.MethodName) ({ cls := "DawnTales$Telling", name := "meetDawn", desc := "(LDawnTales$Book;)Z" } : Jvm.MethodName)) : Jvm.Cond) ∈ am_T := am_mem (am_c3 (List.mem_of_getElem? (i := 61) rfl)) rfl
theorem tw_542 : ((Jvm.Cond.code ({ cls := "DawnTales$Telling", name := "meetDawn", desc := "(LDawnTales$Book;)Z" } : Jvm.MethodName) prog_10_method_22_code (2 : Nat) (Option.some Jvm.ClassFile.FieldType.boolean)) : Jvm.Cond) ∈ am_T := am_mem (am_c3 (List.mem_of_getElem? (i := 62) rfl)) rfl
theorem tw_543 : ((Jvm.Cond.methodLink "DawnTales$Telling" (112 : Nat) ({ cls := "DawnTales$Telling", name := "isForgotten", desc := "(LDawnTales$Book;)Z" } : Jvm.MethodName)) : Jvm.Cond) ∈ am_T := am_mem (am_c3 (List.mem_of_getElem? (i := 63) rfl)) rfl
theorem tw_544 : ((Jvm.Cond.instanceMethod ({ cls := "DawnTales$Telling", name := "isForgotten", desc := "(LDawnTales$Book;)Z" } : Jvm.MethodName)) : Jvm.Cond) ∈ am_T := am_mem (am_c3 (List.mem_of_getElem? (i := 64) rfl)) rfl
theorem tw_545 : ((Jvm.Cond.selects "DawnTales$Telling" ({ cls := "DawnTales$Telling", name := "isForgotten", desc := "(LDawnTales$Book;)Z" } : Jvm.MethodName) ({ cls := "DawnTales$Telling", name := "isForgotten", desc := "(LDawnTales$Book;)Z" } : Jvm.MethodName)) : Jvm.Cond) ∈ am_T := am_mem (am_c3 (List.mem_of_getElem? (i := 65) rfl)) rfl
theorem tw_546 : ((Jvm.Cond.code ({ cls := "DawnTales$Telling", name := "isForgotten", desc := "(LDawnTales$Book;)Z" } : Jvm.MethodName) prog_10_method_21_code (2 : Nat) (Option.some Jvm.ClassFile.FieldType.boolean)) : Jvm.Cond) ∈ am_T := am_mem (am_c3 (List.mem_of_getElem? (i := 66) rfl)) rfl
theorem tw_547 : ((Jvm.Cond.methodLink "DawnTales$Telling" (106 : Nat) ({ cls := "DawnTales$Telling", name := "lastNightOf", desc := "(I)I" } : Jvm.MethodName)) : Jvm.Cond) ∈ am_T := am_mem (am_c3 (List.mem_of_getElem? (i := 67) rfl)) rfl
theorem tw_548 : ((Jvm.Cond.methodLink "DawnTalesLaw" (52 : Nat) ({ cls := "DawnTales", name := "undo", desc := "()I" } : Jvm.MethodName)) : Jvm.Cond) ∈ am_T := am_mem (am_c3 (List.mem_of_getElem? (i := 68) rfl)) rfl
theorem tw_549 : ((Jvm.Cond.instanceMethod ({ cls := "DawnTales", name := "undo", desc := "()I" } : Jvm.MethodName)) : Jvm.Cond) ∈ am_T := am_mem (am_c3 (List.mem_of_getElem? (i := 69) rfl)) rfl
theorem tw_550 : ((Jvm.Cond.selects "DawnTales" ({ cls := "DawnTales", name := "undo", desc := "()I" } : Jvm.MethodName) ({ cls := "DawnTales", name := "undo", desc := "()I" } : Jvm.MethodName)) : Jvm.Cond) ∈ am_T := am_mem (am_c3 (List.mem_of_getElem? (i := 70) rfl)) rfl
theorem tw_551 : ((Jvm.Cond.code ({ cls := "DawnTales", name := "undo", desc := "()I" } : Jvm.MethodName) prog_1_method_11_code (1 : Nat) (Option.some Jvm.ClassFile.FieldType.int)) : Jvm.Cond) ∈ am_T := am_mem (am_c3 (List.mem_of_getElem? (i := 71) rfl)) rfl
theorem tw_552 : ((Jvm.Cond.methodLink "DawnTales" (168 : Nat) ({ cls := "DawnTales$Stand", name := "takeBack", desc := "()Z" } : Jvm.MethodName)) : Jvm.Cond) ∈ am_T := am_mem (am_c3 (List.mem_of_getElem? (i := 72) rfl)) rfl
theorem tw_553 : ((Jvm.Cond.instanceMethod ({ cls := "DawnTales$Stand", name := "takeBack", desc := "()Z" } : Jvm.MethodName)) : Jvm.Cond) ∈ am_T := am_mem (am_c3 (List.mem_of_getElem? (i := 73) rfl)) rfl
theorem tw_554 : ((Jvm.Cond.selects "DawnTales$Stand" ({ cls := "DawnTales$Stand", name := "takeBack", desc := "()Z" } : Jvm.MethodName) ({ cls := "DawnTales$Stand", name := "takeBack", desc := "()Z" } : Jvm.MethodName)) : Jvm.Cond) ∈ am_T := am_mem (am_c3 (List.mem_of_getElem? (i := 74) rfl)) rfl
theorem tw_555 : ((Jvm.Cond.code ({ cls := "DawnTales$Stand", name := "takeBack", desc := "()Z" } : Jvm.MethodName) prog_8_method_6_code (1 : Nat) (Option.some Jvm.ClassFile.FieldType.boolean)) : Jvm.Cond) ∈ am_T := am_mem (am_c3 (List.mem_of_getElem? (i := 75) rfl)) rfl
theorem tw_556 : ((Jvm.Cond.methodLink "DawnTalesLaw" (56 : Nat) ({ cls := "DawnTales", name := "now", desc := "(I)I" } : Jvm.MethodName)) : Jvm.Cond) ∈ am_T := am_mem (am_c3 (List.mem_of_getElem? (i := 76) rfl)) rfl
theorem tw_557 : ((Jvm.Cond.instanceMethod ({ cls := "DawnTales", name := "now", desc := "(I)I" } : Jvm.MethodName)) : Jvm.Cond) ∈ am_T := am_mem (am_c3 (List.mem_of_getElem? (i := 77) rfl)) rfl
theorem tw_558 : ((Jvm.Cond.selects "DawnTales" ({ cls := "DawnTales", name := "now", desc := "(I)I" } : Jvm.MethodName) ({ cls := "DawnTales", name := "now", desc := "(I)I" } : Jvm.MethodName)) : Jvm.Cond) ∈ am_T := am_mem (am_c3 (List.mem_of_getElem? (i := 78) rfl)) rfl
theorem tw_559 : ((Jvm.Cond.code ({ cls := "DawnTales", name := "now", desc := "(I)I" } : Jvm.MethodName) prog_1_method_12_code (3 : Nat) (Option.some Jvm.ClassFile.FieldType.int)) : Jvm.Cond) ∈ am_T := am_mem (am_c3 (List.mem_of_getElem? (i := 79) rfl)) rfl
theorem tw_560 : ((Jvm.Cond.methodLink "DawnTales" (184 : Nat) ({ cls := "DawnTales$Telling", name := "endedBits", desc := "()I" } : Jvm.MethodName)) : Jvm.Cond) ∈ am_T := am_mem (am_c3 (List.mem_of_getElem? (i := 80) rfl)) rfl
theorem tw_561 : ((Jvm.Cond.instanceMethod ({ cls := "DawnTales$Telling", name := "endedBits", desc := "()I" } : Jvm.MethodName)) : Jvm.Cond) ∈ am_T := am_mem (am_c3 (List.mem_of_getElem? (i := 81) rfl)) rfl
theorem tw_562 : ((Jvm.Cond.selects "DawnTales$Telling" ({ cls := "DawnTales$Telling", name := "endedBits", desc := "()I" } : Jvm.MethodName) ({ cls := "DawnTales$Telling", name := "endedBits", desc := "()I" } : Jvm.MethodName)) : Jvm.Cond) ∈ am_T := am_mem (am_c3 (List.mem_of_getElem? (i := 82) rfl)) rfl
theorem tw_563 : ((Jvm.Cond.code ({ cls := "DawnTales$Telling", name := "endedBits", desc := "()I" } : Jvm.MethodName) prog_10_method_10_code (3 : Nat) (Option.some Jvm.ClassFile.FieldType.int)) : Jvm.Cond) ∈ am_T := am_mem (am_c3 (List.mem_of_getElem? (i := 83) rfl)) rfl
theorem tw_564 : ((Jvm.Cond.methodLink "DawnTales" (187 : Nat) ({ cls := "DawnTales$Telling", name := "mayBeginBits", desc := "(LDawnTales$Book;)I" } : Jvm.MethodName)) : Jvm.Cond) ∈ am_T := am_mem (am_c3 (List.mem_of_getElem? (i := 84) rfl)) rfl
theorem tw_565 : ((Jvm.Cond.instanceMethod ({ cls := "DawnTales$Telling", name := "mayBeginBits", desc := "(LDawnTales$Book;)I" } : Jvm.MethodName)) : Jvm.Cond) ∈ am_T := am_mem (am_c3 (List.mem_of_getElem? (i := 85) rfl)) rfl
theorem tw_566 : ((Jvm.Cond.selects "DawnTales$Telling" ({ cls := "DawnTales$Telling", name := "mayBeginBits", desc := "(LDawnTales$Book;)I" } : Jvm.MethodName) ({ cls := "DawnTales$Telling", name := "mayBeginBits", desc := "(LDawnTales$Book;)I" } : Jvm.MethodName)) : Jvm.Cond) ∈ am_T := am_mem (am_c3 (List.mem_of_getElem? (i := 86) rfl)) rfl
theorem tw_567 : ((Jvm.Cond.code ({ cls := "DawnTales$Telling", name := "mayBeginBits", desc := "(LDawnTales$Book;)I" } : Jvm.MethodName) prog_10_method_11_code (4 : Nat) (Option.some Jvm.ClassFile.FieldType.int)) : Jvm.Cond) ∈ am_T := am_mem (am_c3 (List.mem_of_getElem? (i := 87) rfl)) rfl
theorem tw_568 : ((Jvm.Cond.methodLink "DawnTales$Telling" (69 : Nat) ({ cls := "DawnTales$Telling", name := "mayBegin", desc := "(LDawnTales$Book;I)Z" } : Jvm.MethodName)) : Jvm.Cond) ∈ am_T := am_mem (am_c3 (List.mem_of_getElem? (i := 88) rfl)) rfl
theorem tw_569 : ((Jvm.Cond.methodLink "DawnTalesLaw" (60 : Nat) ({ cls := "DawnTales", name := "on", desc := "()I" } : Jvm.MethodName)) : Jvm.Cond) ∈ am_T := am_mem (am_c3 (List.mem_of_getElem? (i := 89) rfl)) rfl
theorem tw_570 : ((Jvm.Cond.instanceMethod ({ cls := "DawnTales", name := "on", desc := "()I" } : Jvm.MethodName)) : Jvm.Cond) ∈ am_T := am_mem (am_c3 (List.mem_of_getElem? (i := 90) rfl)) rfl
theorem tw_571 : ((Jvm.Cond.selects "DawnTales" ({ cls := "DawnTales", name := "on", desc := "()I" } : Jvm.MethodName) ({ cls := "DawnTales", name := "on", desc := "()I" } : Jvm.MethodName)) : Jvm.Cond) ∈ am_T := am_mem (am_c3 (List.mem_of_getElem? (i := 91) rfl)) rfl
theorem tw_572 : ((Jvm.Cond.code ({ cls := "DawnTales", name := "on", desc := "()I" } : Jvm.MethodName) prog_1_method_13_code (1 : Nat) (Option.some Jvm.ClassFile.FieldType.int)) : Jvm.Cond) ∈ am_T := am_mem (am_c3 (List.mem_of_getElem? (i := 92) rfl)) rfl
theorem tw_573 : ((Jvm.Cond.methodLink "DawnTales" (190 : Nat) ({ cls := "DawnTales$Rows", name := "walkOn", desc := "(LDawnTales$Book;LDawnTales$Telling;)I" } : Jvm.MethodName)) : Jvm.Cond) ∈ am_T := am_mem (am_c3 (List.mem_of_getElem? (i := 93) rfl)) rfl
theorem tw_574 : ((Jvm.Cond.instanceMethod ({ cls := "DawnTales$Rows", name := "walkOn", desc := "(LDawnTales$Book;LDawnTales$Telling;)I" } : Jvm.MethodName)) : Jvm.Cond) ∈ am_T := am_mem (am_c3 (List.mem_of_getElem? (i := 94) rfl)) rfl
theorem tw_575 : ((Jvm.Cond.selects "DawnTales$Rows" ({ cls := "DawnTales$Rows", name := "walkOn", desc := "(LDawnTales$Book;LDawnTales$Telling;)I" } : Jvm.MethodName) ({ cls := "DawnTales$Rows", name := "walkOn", desc := "(LDawnTales$Book;LDawnTales$Telling;)I" } : Jvm.MethodName)) : Jvm.Cond) ∈ am_T := am_mem (am_c3 (List.mem_of_getElem? (i := 95) rfl)) rfl
theorem tw_576 : ((Jvm.Cond.code ({ cls := "DawnTales$Rows", name := "walkOn", desc := "(LDawnTales$Book;LDawnTales$Telling;)I" } : Jvm.MethodName) prog_7_method_5_code (5 : Nat) (Option.some Jvm.ClassFile.FieldType.int)) : Jvm.Cond) ∈ am_T := am_mem (am_c3 (List.mem_of_getElem? (i := 96) rfl)) rfl
theorem tw_577 : ((Jvm.Cond.methodLink "DawnTales$Rows" (102 : Nat) ({ cls := "DawnTales$Telling", name := "copyFrom", desc := "(LDawnTales$Telling;)V" } : Jvm.MethodName)) : Jvm.Cond) ∈ am_T := am_mem (am_c3 (List.mem_of_getElem? (i := 97) rfl)) rfl
theorem tw_578 : ((Jvm.Cond.methodLink "DawnTales$Rows" (106 : Nat) ({ cls := "DawnTales$Telling", name := "hasHour", desc := "()Z" } : Jvm.MethodName)) : Jvm.Cond) ∈ am_T := am_mem (am_c3 (List.mem_of_getElem? (i := 98) rfl)) rfl
theorem tw_579 : ((Jvm.Cond.methodLink "DawnTales$Rows" (99 : Nat) ({ cls := "DawnTales$Telling", name := "goOn", desc := "()V" } : Jvm.MethodName)) : Jvm.Cond) ∈ am_T := am_mem (am_c3 (List.mem_of_getElem? (i := 99) rfl)) rfl
theorem tw_580 : ((Jvm.Cond.instanceMethod ({ cls := "DawnTales$Telling", name := "goOn", desc := "()V" } : Jvm.MethodName)) : Jvm.Cond) ∈ am_T := am_mem (am_c3 (List.mem_of_getElem? (i := 100) rfl)) rfl
theorem tw_581 : ((Jvm.Cond.selects "DawnTales$Telling" ({ cls := "DawnTales$Telling", name := "goOn", desc := "()V" } : Jvm.MethodName) ({ cls := "DawnTales$Telling", name := "goOn", desc := "()V" } : Jvm.MethodName)) : Jvm.Cond) ∈ am_T := am_mem (am_c3 (List.mem_of_getElem? (i := 101) rfl)) rfl
theorem tw_582 : ((Jvm.Cond.code ({ cls := "DawnTales$Telling", name := "goOn", desc := "()V" } : Jvm.MethodName) prog_10_method_19_code (2 : Nat) (Option.none : Option Jvm.ClassFile.FieldType)) : Jvm.Cond) ∈ am_T := am_mem (am_c3 (List.mem_of_getElem? (i := 102) rfl)) rfl
theorem tw_583 : ((Jvm.Cond.methodLink "DawnTales$Telling" (94 : Nat) ({ cls := "DawnTales$Telling", name := "leftOf", desc := "(I)I" } : Jvm.MethodName)) : Jvm.Cond) ∈ am_T := am_mem (am_c3 (List.mem_of_getElem? (i := 103) rfl)) rfl
theorem tw_584 : ((Jvm.Cond.methodLink "DawnTales$Telling" (97 : Nat) ({ cls := "java/lang/Math", name := "max", desc := "(II)I" } : Jvm.MethodName)) : Jvm.Cond) ∈ am_T := am_mem (am_c3 (List.mem_of_getElem? (i := 104) rfl)) rfl
theorem tw_585 : ((Jvm.Cond.static ({ cls := "java/lang/Math", name := "max", desc := "(II)I" } : Jvm.MethodName)) : Jvm.Cond) ∈ am_T := am_mem (am_c3 (List.mem_of_getElem? (i := 105) rfl)) rfl
theorem tw_586 : ((Jvm.Cond.code ({ cls := "java/lang/Math", name := "max", desc := "(II)I" } : Jvm.MethodName) prog_16_method_65_code (2 : Nat) (Option.some Jvm.ClassFile.FieldType.int)) : Jvm.Cond) ∈ am_T := am_mem (am_c3 (List.mem_of_getElem? (i := 106) rfl)) rfl
theorem tw_587 : ((Jvm.Cond.methodLink "DawnTales$Telling" (103 : Nat) ({ cls := "java/lang/Math", name := "min", desc := "(II)I" } : Jvm.MethodName)) : Jvm.Cond) ∈ am_T := am_mem (am_c3 (List.mem_of_getElem? (i := 107) rfl)) rfl
theorem tw_588 : ((Jvm.Cond.methodLink "DawnTales$Rows" (109 : Nat) ({ cls := "DawnTales$Telling", name := "mayDawn", desc := "()Z" } : Jvm.MethodName)) : Jvm.Cond) ∈ am_T := am_mem (am_c3 (List.mem_of_getElem? (i := 108) rfl)) rfl
theorem tw_589 : ((Jvm.Cond.methodLink "DawnTales$Rows" (76 : Nat) ({ cls := "DawnTales$Telling", name := "meetDawn", desc := "(LDawnTales$Book;)Z" } : Jvm.MethodName)) : Jvm.Cond) ∈ am_T := am_mem (am_c3 (List.mem_of_getElem? (i := 109) rfl)) rfl
theorem tw_590 : ((Jvm.Cond.methodLink "DawnTalesLaw" (64 : Nat) ({ cls := "DawnTales", name := "by", desc := "(I)I" } : Jvm.MethodName)) : Jvm.Cond) ∈ am_T := am_mem (am_c3 (List.mem_of_getElem? (i := 110) rfl)) rfl
theorem tw_591 : ((Jvm.Cond.instanceMethod ({ cls := "DawnTales", name := "by", desc := "(I)I" } : Jvm.MethodName)) : Jvm.Cond) ∈ am_T := am_mem (am_c3 (List.mem_of_getElem? (i := 111) rfl)) rfl
theorem tw_592 : ((Jvm.Cond.selects "DawnTales" ({ cls := "DawnTales", name := "by", desc := "(I)I" } : Jvm.MethodName) ({ cls := "DawnTales", name := "by", desc := "(I)I" } : Jvm.MethodName)) : Jvm.Cond) ∈ am_T := am_mem (am_c3 (List.mem_of_getElem? (i := 112) rfl)) rfl
theorem tw_593 : ((Jvm.Cond.code ({ cls := "DawnTales", name := "by", desc := "(I)I" } : Jvm.MethodName) prog_1_method_14_code (2 : Nat) (Option.some Jvm.ClassFile.FieldType.int)) : Jvm.Cond) ∈ am_T := am_mem (am_c3 (List.mem_of_getElem? (i := 113) rfl)) rfl
theorem tw_594 : ((Jvm.Cond.methodLink "DawnTales" (197 : Nat) ({ cls := "DawnTales$Rows", name := "spread", desc := "(II)Z" } : Jvm.MethodName)) : Jvm.Cond) ∈ am_T := am_mem (am_c3 (List.mem_of_getElem? (i := 114) rfl)) rfl
theorem tw_595 : ((Jvm.Cond.instanceMethod ({ cls := "DawnTales$Rows", name := "spread", desc := "(II)Z" } : Jvm.MethodName)) : Jvm.Cond) ∈ am_T := am_mem (am_c3 (List.mem_of_getElem? (i := 115) rfl)) rfl
theorem tw_596 : ((Jvm.Cond.selects "DawnTales$Rows" ({ cls := "DawnTales$Rows", name := "spread", desc := "(II)Z" } : Jvm.MethodName) ({ cls := "DawnTales$Rows", name := "spread", desc := "(II)Z" } : Jvm.MethodName)) : Jvm.Cond) ∈ am_T := am_mem (am_c3 (List.mem_of_getElem? (i := 116) rfl)) rfl
theorem tw_597 : ((Jvm.Cond.code ({ cls := "DawnTales$Rows", name := "spread", desc := "(II)Z" } : Jvm.MethodName) prog_7_method_2_code (7 : Nat) (Option.some Jvm.ClassFile.FieldType.boolean)) : Jvm.Cond) ∈ am_T := am_mem (am_c3 (List.mem_of_getElem? (i := 117) rfl)) rfl
theorem tw_598 : ((Jvm.Cond.methodLink "DawnTales$Rows" (51 : Nat) ({ cls := "java/lang/Math", name := "min", desc := "(II)I" } : Jvm.MethodName)) : Jvm.Cond) ∈ am_T := am_mem (am_c3 (List.mem_of_getElem? (i := 118) rfl)) rfl
theorem tw_599 : ((Jvm.Cond.methodLink "DawnTales" (201 : Nat) ({ cls := "DawnTales$Rows", name := "walk", desc := "(LDawnTales$Book;)I" } : Jvm.MethodName)) : Jvm.Cond) ∈ am_T := am_mem (am_c3 (List.mem_of_getElem? (i := 119) rfl)) rfl
theorem tw_600 : ((Jvm.Cond.instanceMethod ({ cls := "DawnTales$Rows", name := "walk", desc := "(LDawnTales$Book;)I" } : Jvm.MethodName)) : Jvm.Cond) ∈ am_T := am_mem (am_c3 (List.mem_of_getElem? (i := 120) rfl)) rfl
theorem tw_601 : ((Jvm.Cond.selects "DawnTales$Rows" ({ cls := "DawnTales$Rows", name := "walk", desc := "(LDawnTales$Book;)I" } : Jvm.MethodName) ({ cls := "DawnTales$Rows", name := "walk", desc := "(LDawnTales$Book;)I" } : Jvm.MethodName)) : Jvm.Cond) ∈ am_T := am_mem (am_c3 (List.mem_of_getElem? (i := 121) rfl)) rfl
theorem tw_602 : ((Jvm.Cond.code ({ cls := "DawnTales$Rows", name := "walk", desc := "(LDawnTales$Book;)I" } : Jvm.MethodName) prog_7_method_3_code (6 : Nat) (Option.some Jvm.ClassFile.FieldType.int)) : Jvm.Cond) ∈ am_T := am_mem (am_c3 (List.mem_of_getElem? (i := 122) rfl)) rfl
theorem tw_603 : ((Jvm.Cond.methodLink "DawnTales$Rows" (57 : Nat) ({ cls := "java/util/Arrays", name := "fill", desc := "([JJ)V" } : Jvm.MethodName)) : Jvm.Cond) ∈ am_T := am_mem (am_c3 (List.mem_of_getElem? (i := 123) rfl)) rfl
theorem tw_604 : ((Jvm.Cond.static ({ cls := "java/util/Arrays", name := "fill", desc := "([JJ)V" } : Jvm.MethodName)) : Jvm.Cond) ∈ am_T := am_mem (am_c3 (List.mem_of_getElem? (i := 124) rfl)) rfl
theorem tw_605 : ((Jvm.Cond.code ({ cls := "java/util/Arrays", name := "fill", desc := "([JJ)V" } : Jvm.MethodName) prog_18_method_101_code (5 : Nat) (Option.none : Option Jvm.ClassFile.FieldType)) : Jvm.Cond) ∈ am_T := am_mem (am_c3 (List.mem_of_getElem? (i := 125) rfl)) rfl
theorem tw_606 : ((Jvm.Cond.methodLink "DawnTales$Rows" (63 : Nat) ({ cls := "DawnTales$Telling", name := "start", desc := "(LDawnTales$Book;)V" } : Jvm.MethodName)) : Jvm.Cond) ∈ am_T := am_mem (am_c3 (List.mem_of_getElem? (i := 126) rfl)) rfl
theorem tw_607 : ((Jvm.Cond.methodLink "DawnTales$Rows" (70 : Nat) ({ cls := "DawnTales$Rows", name := "walkNight", desc := "(LDawnTales$Book;)V" } : Jvm.MethodName)) : Jvm.Cond) ∈ am_T := am_mem (am_c3 (List.mem_of_getElem? (i := 127) rfl)) rfl
theorem tw_608 : ((Jvm.Cond.instanceMethod ({ cls := "DawnTales$Rows", name := "walkNight", desc := "(LDawnTales$Book;)V" } : Jvm.MethodName)) : Jvm.Cond) ∈ am_T := am_mem (am_c3 (List.mem_of_getElem? (i := 128) rfl)) rfl
theorem tw_609 : ((Jvm.Cond.selects "DawnTales$Rows" ({ cls := "DawnTales$Rows", name := "walkNight", desc := "(LDawnTales$Book;)V" } : Jvm.MethodName) ({ cls := "DawnTales$Rows", name := "walkNight", desc := "(LDawnTales$Book;)V" } : Jvm.MethodName)) : Jvm.Cond) ∈ am_T := am_mem (am_c3 (List.mem_of_getElem? (i := 129) rfl)) rfl
theorem tw_610 : ((Jvm.Cond.code ({ cls := "DawnTales$Rows", name := "walkNight", desc := "(LDawnTales$Book;)V" } : Jvm.MethodName) prog_7_method_4_code (4 : Nat) (Option.none : Option Jvm.ClassFile.FieldType)) : Jvm.Cond) ∈ am_T := am_mem (am_c3 (List.mem_of_getElem? (i := 130) rfl)) rfl
theorem tw_611 : ((Jvm.Cond.methodLink "DawnTales$Rows" (87 : Nat) ({ cls := "DawnTales$Telling", name := "isPause", desc := "()Z" } : Jvm.MethodName)) : Jvm.Cond) ∈ am_T := am_mem (am_c3 (List.mem_of_getElem? (i := 131) rfl)) rfl
theorem tw_612 : ((Jvm.Cond.instanceMethod ({ cls := "DawnTales$Telling", name := "isPause", desc := "()Z" } : Jvm.MethodName)) : Jvm.Cond) ∈ am_T := am_mem (am_c3 (List.mem_of_getElem? (i := 132) rfl)) rfl
theorem tw_613 : ((Jvm.Cond.selects "DawnTales$Telling" ({ cls := "DawnTales$Telling", name := "isPause", desc := "()Z" } : Jvm.MethodName) ({ cls := "DawnTales$Telling", name := "isPause", desc := "()Z" } : Jvm.MethodName)) : Jvm.Cond) ∈ am_T := am_mem (am_c3 (List.mem_of_getElem? (i := 133) rfl)) rfl
theorem tw_614 : ((Jvm.Cond.code ({ cls := "DawnTales$Telling", name := "isPause", desc := "()Z" } : Jvm.MethodName) prog_10_method_20_code (1 : Nat) (Option.some Jvm.ClassFile.FieldType.boolean)) : Jvm.Cond) ∈ am_T := am_mem (am_c3 (List.mem_of_getElem? (i := 134) rfl)) rfl
theorem tw_615 : ((Jvm.Cond.methodLink "DawnTales$Rows" (91 : Nat) ({ cls := "DawnTales$Telling", name := "mayBegin", desc := "(LDawnTales$Book;I)Z" } : Jvm.MethodName)) : Jvm.Cond) ∈ am_T := am_mem (am_c3 (List.mem_of_getElem? (i := 135) rfl)) rfl
theorem tw_616 : ((Jvm.Cond.methodLink "DawnTales$Rows" (95 : Nat) ({ cls := "DawnTales$Telling", name := "beginTale", desc := "(I)V" } : Jvm.MethodName)) : Jvm.Cond) ∈ am_T := am_mem (am_c3 (List.mem_of_getElem? (i := 136) rfl)) rfl
theorem tw_617 : ((Jvm.Cond.methodLink "DawnTales$Rows" (80 : Nat) ({ cls := "DawnTales$Rows", name := "shiftOf", desc := "(I)I" } : Jvm.MethodName)) : Jvm.Cond) ∈ am_T := am_mem (am_c3 (List.mem_of_getElem? (i := 137) rfl)) rfl
theorem tw_618 : ((Jvm.Cond.static ({ cls := "DawnTales$Rows", name := "shiftOf", desc := "(I)I" } : Jvm.MethodName)) : Jvm.Cond) ∈ am_T := am_mem (am_c3 (List.mem_of_getElem? (i := 138) rfl)) rfl
theorem tw_619 : ((Jvm.Cond.code ({ cls := "DawnTales$Rows", name := "shiftOf", desc := "(I)I" } : Jvm.MethodName) prog_7_method_22_code (1 : Nat) (Option.some Jvm.ClassFile.FieldType.int)) : Jvm.Cond) ∈ am_T := am_mem (am_c3 (List.mem_of_getElem? (i := 139) rfl)) rfl
theorem tw_620 : ((Jvm.Cond.methodLink "DawnTalesLaw" (68 : Nat) ({ cls := "DawnTales", name := "best", desc := "(I)I" } : Jvm.MethodName)) : Jvm.Cond) ∈ am_T := am_mem (am_c3 (List.mem_of_getElem? (i := 140) rfl)) rfl
theorem tw_621 : ((Jvm.Cond.instanceMethod ({ cls := "DawnTales", name := "best", desc := "(I)I" } : Jvm.MethodName)) : Jvm.Cond) ∈ am_T := am_mem (am_c3 (List.mem_of_getElem? (i := 141) rfl)) rfl
theorem tw_622 : ((Jvm.Cond.selects "DawnTales" ({ cls := "DawnTales", name := "best", desc := "(I)I" } : Jvm.MethodName) ({ cls := "DawnTales", name := "best", desc := "(I)I" } : Jvm.MethodName)) : Jvm.Cond) ∈ am_T := am_mem (am_c3 (List.mem_of_getElem? (i := 142) rfl)) rfl
theorem tw_623 : ((Jvm.Cond.code ({ cls := "DawnTales", name := "best", desc := "(I)I" } : Jvm.MethodName) prog_1_method_15_code (3 : Nat) (Option.some Jvm.ClassFile.FieldType.int)) : Jvm.Cond) ∈ am_T := am_mem (am_c3 (List.mem_of_getElem? (i := 143) rfl)) rfl
theorem tw_624 : ((Jvm.Cond.methodLink "DawnTales" (204 : Nat) ({ cls := "DawnTales", name := "isPairPart", desc := "(I)Z" } : Jvm.MethodName)) : Jvm.Cond) ∈ am_T := am_mem (am_c3 (List.mem_of_getElem? (i := 144) rfl)) rfl
theorem tw_625 : ((Jvm.Cond.static ({ cls := "DawnTales", name := "isPairPart", desc := "(I)Z" } : Jvm.MethodName)) : Jvm.Cond) ∈ am_T := am_mem (am_c3 (List.mem_of_getElem? (i := 145) rfl)) rfl
theorem tw_626 : ((Jvm.Cond.code ({ cls := "DawnTales", name := "isPairPart", desc := "(I)Z" } : Jvm.MethodName) prog_1_method_33_code (1 : Nat) (Option.some Jvm.ClassFile.FieldType.boolean)) : Jvm.Cond) ∈ am_T := am_mem (am_c3 (List.mem_of_getElem? (i := 146) rfl)) rfl
theorem tw_627 : ((Jvm.Cond.methodLink "DawnTales" (207 : Nat) ({ cls := "DawnTales$Rows", name := "know", desc := "(LDawnTales$Book;)V" } : Jvm.MethodName)) : Jvm.Cond) ∈ am_T := am_mem (am_c3 (List.mem_of_getElem? (i := 147) rfl)) rfl
theorem tw_628 : ((Jvm.Cond.instanceMethod ({ cls := "DawnTales$Rows", name := "know", desc := "(LDawnTales$Book;)V" } : Jvm.MethodName)) : Jvm.Cond) ∈ am_T := am_mem (am_c3 (List.mem_of_getElem? (i := 148) rfl)) rfl
theorem tw_629 : ((Jvm.Cond.selects "DawnTales$Rows" ({ cls := "DawnTales$Rows", name := "know", desc := "(LDawnTales$Book;)V" } : Jvm.MethodName) ({ cls := "DawnTales$Rows", name := "know", desc := "(LDawnTales$Book;)V" } : Jvm.MethodName)) : Jvm.Cond) ∈ am_T := am_mem (am_c3 (List.mem_of_getElem? (i := 149) rfl)) rfl
theorem tw_630 : ((Jvm.Cond.code ({ cls := "DawnTales$Rows", name := "know", desc := "(LDawnTales$Book;)V" } : Jvm.MethodName) prog_7_method_7_code (2 : Nat) (Option.none : Option Jvm.ClassFile.FieldType)) : Jvm.Cond) ∈ am_T := am_mem (am_c3 (List.mem_of_getElem? (i := 150) rfl)) rfl
theorem tw_631 : ((Jvm.Cond.methodLink "DawnTales$Rows" (119 : Nat) ({ cls := "DawnTales$Rows", name := "walkAll", desc := "(LDawnTales$Book;)V" } : Jvm.MethodName)) : Jvm.Cond) ∈ am_T := am_mem (am_c3 (List.mem_of_getElem? (i := 151) rfl)) rfl
theorem tw_632 : ((Jvm.Cond.instanceMethod ({ cls := "DawnTales$Rows", name := "walkAll", desc := "(LDawnTales$Book;)V" } : Jvm.MethodName)) : Jvm.Cond) ∈ am_T := am_mem (am_c3 (List.mem_of_getElem? (i := 152) rfl)) rfl
theorem tw_633 : ((Jvm.Cond.selects "DawnTales$Rows" ({ cls := "DawnTales$Rows", name := "walkAll", desc := "(LDawnTales$Book;)V" } : Jvm.MethodName) ({ cls := "DawnTales$Rows", name := "walkAll", desc := "(LDawnTales$Book;)V" } : Jvm.MethodName)) : Jvm.Cond) ∈ am_T := am_mem (am_c3 (List.mem_of_getElem? (i := 153) rfl)) rfl
theorem tw_634 : ((Jvm.Cond.code ({ cls := "DawnTales$Rows", name := "walkAll", desc := "(LDawnTales$Book;)V" } : Jvm.MethodName) prog_7_method_8_code (4 : Nat) (Option.none : Option Jvm.ClassFile.FieldType)) : Jvm.Cond) ∈ am_T := am_mem (am_c3 (List.mem_of_getElem? (i := 154) rfl)) rfl
theorem tw_635 : ((Jvm.Cond.methodLink "DawnTales$Rows" (125 : Nat) ({ cls := "DawnTales$Rows", name := "list", desc := "(I)V" } : Jvm.MethodName)) : Jvm.Cond) ∈ am_T := am_mem (am_c3 (List.mem_of_getElem? (i := 155) rfl)) rfl
theorem tw_636 : ((Jvm.Cond.instanceMethod ({ cls := "DawnTales$Rows", name := "list", desc := "(I)V" } : Jvm.MethodName)) : Jvm.Cond) ∈ am_T := am_mem (am_c3 (List.mem_of_getElem? (i := 156) rfl)) rfl
theorem tw_637 : ((Jvm.Cond.selects "DawnTales$Rows" ({ cls := "DawnTales$Rows", name := "list", desc := "(I)V" } : Jvm.MethodName) ({ cls := "DawnTales$Rows", name := "list", desc := "(I)V" } : Jvm.MethodName)) : Jvm.Cond) ∈ am_T := am_mem (am_c3 (List.mem_of_getElem? (i := 157) rfl)) rfl
theorem tw_638 : ((Jvm.Cond.code ({ cls := "DawnTales$Rows", name := "list", desc := "(I)V" } : Jvm.MethodName) prog_7_method_10_code (5 : Nat) (Option.none : Option Jvm.ClassFile.FieldType)) : Jvm.Cond) ∈ am_T := am_mem (am_c3 (List.mem_of_getElem? (i := 158) rfl)) rfl
theorem tw_639 : ((Jvm.Cond.methodLink "DawnTales$Rows" (152 : Nat) ({ cls := "DawnTales$Rows", name := "listLonger", desc := "(II)V" } : Jvm.MethodName)) : Jvm.Cond) ∈ am_T := am_mem (am_c3 (List.mem_of_getElem? (i := 159) rfl)) rfl
theorem tw_640 : ((Jvm.Cond.instanceMethod ({ cls := "DawnTales$Rows", name := "listLonger", desc := "(II)V" } : Jvm.MethodName)) : Jvm.Cond) ∈ am_T := am_mem (am_c3 (List.mem_of_getElem? (i := 160) rfl)) rfl
theorem tw_641 : ((Jvm.Cond.selects "DawnTales$Rows" ({ cls := "DawnTales$Rows", name := "listLonger", desc := "(II)V" } : Jvm.MethodName) ({ cls := "DawnTales$Rows", name := "listLonger", desc := "(II)V" } : Jvm.MethodName)) : Jvm.Cond) ∈ am_T := am_mem (am_c3 (List.mem_of_getElem? (i := 161) rfl)) rfl
theorem tw_642 : ((Jvm.Cond.code ({ cls := "DawnTales$Rows", name := "listLonger", desc := "(II)V" } : Jvm.MethodName) prog_7_method_11_code (5 : Nat) (Option.none : Option Jvm.ClassFile.FieldType)) : Jvm.Cond) ∈ am_T := am_mem (am_c3 (List.mem_of_getElem? (i := 162) rfl)) rfl
theorem tw_643 : ((Jvm.Cond.methodLink "DawnTales$Rows" (155 : Nat) ({ cls := "DawnTales$Rows", name := "bitsOf", desc := "(I)I" } : Jvm.MethodName)) : Jvm.Cond) ∈ am_T := am_mem (am_c3 (List.mem_of_getElem? (i := 163) rfl)) rfl
theorem tw_644 : ((Jvm.Cond.static ({ cls := "DawnTales$Rows", name := "bitsOf", desc := "(I)I" } : Jvm.MethodName)) : Jvm.Cond) ∈ am_T := am_mem (am_c3 (List.mem_of_getElem? (i := 164) rfl)) rfl
theorem tw_645 : ((Jvm.Cond.code ({ cls := "DawnTales$Rows", name := "bitsOf", desc := "(I)I" } : Jvm.MethodName) prog_7_method_23_code (4 : Nat) (Option.some Jvm.ClassFile.FieldType.int)) : Jvm.Cond) ∈ am_T := am_mem (am_c3 (List.mem_of_getElem? (i := 165) rfl)) rfl
theorem tw_646 : ((Jvm.Cond.methodLink "DawnTales$Rows" (187 : Nat) ({ cls := "DawnTales$Telling", name := "bitOf", desc := "(I)I" } : Jvm.MethodName)) : Jvm.Cond) ∈ am_T := am_mem (am_c3 (List.mem_of_getElem? (i := 166) rfl)) rfl
theorem tw_647 : ((Jvm.Cond.static ({ cls := "DawnTales$Telling", name := "bitOf", desc := "(I)I" } : Jvm.MethodName)) : Jvm.Cond) ∈ am_T := am_mem (am_c3 (List.mem_of_getElem? (i := 167) rfl)) rfl
theorem tw_648 : ((Jvm.Cond.code ({ cls := "DawnTales$Telling", name := "bitOf", desc := "(I)I" } : Jvm.MethodName) prog_10_method_12_code (1 : Nat) (Option.some Jvm.ClassFile.FieldType.int)) : Jvm.Cond) ∈ am_T := am_mem (am_c3 (List.mem_of_getElem? (i := 168) rfl)) rfl
theorem tw_649 : ((Jvm.Cond.methodLink "DawnTales$Rows" (131 : Nat) ({ cls := "DawnTales$Rows", name := "takeOver", desc := "(II)V" } : Jvm.MethodName)) : Jvm.Cond) ∈ am_T := am_mem (am_c3 (List.mem_of_getElem? (i := 169) rfl)) rfl
theorem tw_650 : ((Jvm.Cond.instanceMethod ({ cls := "DawnTales$Rows", name := "takeOver", desc := "(II)V" } : Jvm.MethodName)) : Jvm.Cond) ∈ am_T := am_mem (am_c3 (List.mem_of_getElem? (i := 170) rfl)) rfl
theorem tw_651 : ((Jvm.Cond.selects "DawnTales$Rows" ({ cls := "DawnTales$Rows", name := "takeOver", desc := "(II)V" } : Jvm.MethodName) ({ cls := "DawnTales$Rows", name := "takeOver", desc := "(II)V" } : Jvm.MethodName)) : Jvm.Cond) ∈ am_T := am_mem (am_c3 (List.mem_of_getElem? (i := 171) rfl)) rfl
theorem tw_652 : ((Jvm.Cond.code ({ cls := "DawnTales$Rows", name := "takeOver", desc := "(II)V" } : Jvm.MethodName) prog_7_method_9_code (3 : Nat) (Option.none : Option Jvm.ClassFile.FieldType)) : Jvm.Cond) ∈ am_T := am_mem (am_c3 (List.mem_of_getElem? (i := 172) rfl)) rfl
theorem tw_653 : ((Jvm.Cond.methodLink "DawnTales$Rows" (143 : Nat) ({ cls := "java/lang/System", name := "arraycopy", desc := "(Ljava/lang/Object;ILjava/lang/Object;II)V" } : Jvm.MethodName)) : Jvm.Cond) ∈ am_T := am_mem (am_c3 (List.mem_of_getElem? (i := 173) rfl)) rfl
theorem tw_654 : ((Jvm.Cond.methodLink "DawnTales$Rows" (135 : Nat) ({ cls := "DawnTales$Rows", name := "spread", desc := "(II)Z" } : Jvm.MethodName)) : Jvm.Cond) ∈ am_T := am_mem (am_c3 (List.mem_of_getElem? (i := 174) rfl)) rfl
theorem tw_655 : ((Jvm.Cond.methodLink "DawnTales$Rows" (139 : Nat) ({ cls := "DawnTales$Rows", name := "walk", desc := "(LDawnTales$Book;)I" } : Jvm.MethodName)) : Jvm.Cond) ∈ am_T := am_mem (am_c3 (List.mem_of_getElem? (i := 175) rfl)) rfl
theorem tw_656 : ((Jvm.Cond.methodLink "DawnTales" (210 : Nat) ({ cls := "DawnTales$Rows", name := "bestPlace", desc := "()I" } : Jvm.MethodName)) : Jvm.Cond) ∈ am_T := am_mem (am_c3 (List.mem_of_getElem? (i := 176) rfl)) rfl
theorem tw_657 : ((Jvm.Cond.instanceMethod ({ cls := "DawnTales$Rows", name := "bestPlace", desc := "()I" } : Jvm.MethodName)) : Jvm.Cond) ∈ am_T := am_mem (am_c3 (List.mem_of_getElem? (i := 177) rfl)) rfl
theorem tw_658 : ((Jvm.Cond.selects "DawnTales$Rows" ({ cls := "DawnTales$Rows", name := "bestPlace", desc := "()I" } : Jvm.MethodName) ({ cls := "DawnTales$Rows", name := "bestPlace", desc := "()I" } : Jvm.MethodName)) : Jvm.Cond) ∈ am_T := am_mem (am_c3 (List.mem_of_getElem? (i := 178) rfl)) rfl
theorem tw_659 : ((Jvm.Cond.code ({ cls := "DawnTales$Rows", name := "bestPlace", desc := "()I" } : Jvm.MethodName) prog_7_method_13_code (3 : Nat) (Option.some Jvm.ClassFile.FieldType.int)) : Jvm.Cond) ∈ am_T := am_mem (am_c3 (List.mem_of_getElem? (i := 179) rfl)) rfl
theorem tw_660 : ((Jvm.Cond.methodLink "DawnTales$Rows" (167 : Nat) ({ cls := "DawnTales$Rows", name := "savedBy", desc := "(I)I" } : Jvm.MethodName)) : Jvm.Cond) ∈ am_T := am_mem (am_c3 (List.mem_of_getElem? (i := 180) rfl)) rfl
theorem tw_661 : ((Jvm.Cond.instanceMethod ({ cls := "DawnTales$Rows", name := "savedBy", desc := "(I)I" } : Jvm.MethodName)) : Jvm.Cond) ∈ am_T := am_mem (am_c3 (List.mem_of_getElem? (i := 181) rfl)) rfl
theorem tw_662 : ((Jvm.Cond.selects "DawnTales$Rows" ({ cls := "DawnTales$Rows", name := "savedBy", desc := "(I)I" } : Jvm.MethodName) ({ cls := "DawnTales$Rows", name := "savedBy", desc := "(I)I" } : Jvm.MethodName)) : Jvm.Cond) ∈ am_T := am_mem (am_c3 (List.mem_of_getElem? (i := 182) rfl)) rfl
theorem tw_663 : ((Jvm.Cond.code ({ cls := "DawnTales$Rows", name := "savedBy", desc := "(I)I" } : Jvm.MethodName) prog_7_method_19_code (2 : Nat) (Option.some Jvm.ClassFile.FieldType.int)) : Jvm.Cond) ∈ am_T := am_mem (am_c3 (List.mem_of_getElem? (i := 183) rfl)) rfl
theorem tw_664 : ((Jvm.Cond.methodLink "DawnTales" (213 : Nat) ({ cls := "DawnTales$Rows", name := "savedBy", desc := "(I)I" } : Jvm.MethodName)) : Jvm.Cond) ∈ am_T := am_mem (am_c3 (List.mem_of_getElem? (i := 184) rfl)) rfl
theorem tw_665 : ((Jvm.Cond.methodLink "DawnTales" (216 : Nat) ({ cls := "DawnTales$Rows", name := "rowAt", desc := "(I)I" } : Jvm.MethodName)) : Jvm.Cond) ∈ am_T := am_mem (am_c3 (List.mem_of_getElem? (i := 185) rfl)) rfl
theorem tw_666 : ((Jvm.Cond.instanceMethod ({ cls := "DawnTales$Rows", name := "rowAt", desc := "(I)I" } : Jvm.MethodName)) : Jvm.Cond) ∈ am_T := am_mem (am_c3 (List.mem_of_getElem? (i := 186) rfl)) rfl
theorem tw_667 : ((Jvm.Cond.selects "DawnTales$Rows" ({ cls := "DawnTales$Rows", name := "rowAt", desc := "(I)I" } : Jvm.MethodName) ({ cls := "DawnTales$Rows", name := "rowAt", desc := "(I)I" } : Jvm.MethodName)) : Jvm.Cond) ∈ am_T := am_mem (am_c3 (List.mem_of_getElem? (i := 187) rfl)) rfl
theorem tw_668 : ((Jvm.Cond.code ({ cls := "DawnTales$Rows", name := "rowAt", desc := "(I)I" } : Jvm.MethodName) prog_7_method_18_code (2 : Nat) (Option.some Jvm.ClassFile.FieldType.int)) : Jvm.Cond) ∈ am_T := am_mem (am_c3 (List.mem_of_getElem? (i := 188) rfl)) rfl
theorem tw_669 : ((Jvm.Cond.methodLink "DawnTalesLaw" (72 : Nat) ({ cls := "DawnTales", name := "fewest", desc := "(II)I" } : Jvm.MethodName)) : Jvm.Cond) ∈ am_T := am_mem (am_c3 (List.mem_of_getElem? (i := 189) rfl)) rfl
theorem tw_670 : ((Jvm.Cond.instanceMethod ({ cls := "DawnTales", name := "fewest", desc := "(II)I" } : Jvm.MethodName)) : Jvm.Cond) ∈ am_T := am_mem (am_c3 (List.mem_of_getElem? (i := 190) rfl)) rfl
theorem tw_671 : ((Jvm.Cond.selects "DawnTales" ({ cls := "DawnTales", name := "fewest", desc := "(II)I" } : Jvm.MethodName) ({ cls := "DawnTales", name := "fewest", desc := "(II)I" } : Jvm.MethodName)) : Jvm.Cond) ∈ am_T := am_mem (am_c3 (List.mem_of_getElem? (i := 191) rfl)) rfl
theorem tw_672 : ((Jvm.Cond.code ({ cls := "DawnTales", name := "fewest", desc := "(II)I" } : Jvm.MethodName) prog_1_method_16_code (4 : Nat) (Option.some Jvm.ClassFile.FieldType.int)) : Jvm.Cond) ∈ am_T := am_mem (am_c3 (List.mem_of_getElem? (i := 192) rfl)) rfl
theorem tw_673 : ((Jvm.Cond.methodLink "DawnTales" (219 : Nat) ({ cls := "DawnTales$Rows", name := "fewestPlace", desc := "(I)I" } : Jvm.MethodName)) : Jvm.Cond) ∈ am_T := am_mem (am_c3 (List.mem_of_getElem? (i := 193) rfl)) rfl
theorem tw_674 : ((Jvm.Cond.instanceMethod ({ cls := "DawnTales$Rows", name := "fewestPlace", desc := "(I)I" } : Jvm.MethodName)) : Jvm.Cond) ∈ am_T := am_mem (am_c3 (List.mem_of_getElem? (i := 194) rfl)) rfl
theorem tw_675 : ((Jvm.Cond.selects "DawnTales$Rows" ({ cls := "DawnTales$Rows", name := "fewestPlace", desc := "(I)I" } : Jvm.MethodName) ({ cls := "DawnTales$Rows", name := "fewestPlace", desc := "(I)I" } : Jvm.MethodName)) : Jvm.Cond) ∈ am_T := am_mem (am_c3 (List.mem_of_getElem? (i := 195) rfl)) rfl
theorem tw_676 : ((Jvm.Cond.code ({ cls := "DawnTales$Rows", name := "fewestPlace", desc := "(I)I" } : Jvm.MethodName) prog_7_method_14_code (3 : Nat) (Option.some Jvm.ClassFile.FieldType.int)) : Jvm.Cond) ∈ am_T := am_mem (am_c3 (List.mem_of_getElem? (i := 196) rfl)) rfl
theorem tw_677 : ((Jvm.Cond.methodLink "DawnTales" (222 : Nat) ({ cls := "DawnTales$Rows", name := "sizeAt", desc := "(I)I" } : Jvm.MethodName)) : Jvm.Cond) ∈ am_T := am_mem (am_c3 (List.mem_of_getElem? (i := 197) rfl)) rfl
theorem tw_678 : ((Jvm.Cond.instanceMethod ({ cls := "DawnTales$Rows", name := "sizeAt", desc := "(I)I" } : Jvm.MethodName)) : Jvm.Cond) ∈ am_T := am_mem (am_c3 (List.mem_of_getElem? (i := 198) rfl)) rfl
theorem tw_679 : ((Jvm.Cond.selects "DawnTales$Rows" ({ cls := "DawnTales$Rows", name := "sizeAt", desc := "(I)I" } : Jvm.MethodName) ({ cls := "DawnTales$Rows", name := "sizeAt", desc := "(I)I" } : Jvm.MethodName)) : Jvm.Cond) ∈ am_T := am_mem (am_c3 (List.mem_of_getElem? (i := 199) rfl)) rfl
theorem tw_680 : ((Jvm.Cond.code ({ cls := "DawnTales$Rows", name := "sizeAt", desc := "(I)I" } : Jvm.MethodName) prog_7_method_20_code (2 : Nat) (Option.some Jvm.ClassFile.FieldType.int)) : Jvm.Cond) ∈ am_T := am_mem (am_c3 (List.mem_of_getElem? (i := 200) rfl)) rfl
theorem tw_681 : ((Jvm.Cond.methodLink "DawnTales$Rows" (173 : Nat) ({ cls := "DawnTales$Rows", name := "rowAt", desc := "(I)I" } : Jvm.MethodName)) : Jvm.Cond) ∈ am_T := am_mem (am_c3 (List.mem_of_getElem? (i := 201) rfl)) rfl
theorem tw_682 : ((Jvm.Cond.methodLink "DawnTales$Rows" (179 : Nat) ({ cls := "java/lang/Integer", name := "bitCount", desc := "(I)I" } : Jvm.MethodName)) : Jvm.Cond) ∈ am_T := am_mem (am_c3 (List.mem_of_getElem? (i := 202) rfl)) rfl
theorem tw_683 : ((Jvm.Cond.static ({ cls := "java/lang/Integer", name := "bitCount", desc := "(I)I" } : Jvm.MethodName)) : Jvm.Cond) ∈ am_T := am_mem (am_c3 (List.mem_of_getElem? (i := 203) rfl)) rfl
theorem tw_684 : ((Jvm.Cond.code ({ cls := "java/lang/Integer", name := "bitCount", desc := "(I)I" } : Jvm.MethodName) prog_15_method_49_code (1 : Nat) (Option.some Jvm.ClassFile.FieldType.int)) : Jvm.Cond) ∈ am_T := am_mem (am_c3 (List.mem_of_getElem? (i := 204) rfl)) rfl
theorem tw_685 : ((Jvm.Cond.constant "java/lang/Integer" (265 : Nat) (1431655765 : Int32)) : Jvm.Cond) ∈ am_T := am_mem (am_c3 (List.mem_of_getElem? (i := 205) rfl)) rfl
theorem tw_686 : ((Jvm.Cond.constant "java/lang/Integer" (266 : Nat) (858993459 : Int32)) : Jvm.Cond) ∈ am_T := am_mem (am_c3 (List.mem_of_getElem? (i := 206) rfl)) rfl
theorem tw_687 : ((Jvm.Cond.constant "java/lang/Integer" (267 : Nat) (252645135 : Int32)) : Jvm.Cond) ∈ am_T := am_mem (am_c3 (List.mem_of_getElem? (i := 207) rfl)) rfl
theorem tw_688 : ((Jvm.Cond.methodLink "DawnTalesLaw" (76 : Nat) ({ cls := "DawnTales", name := "mind", desc := "(II)I" } : Jvm.MethodName)) : Jvm.Cond) ∈ am_T := am_mem (am_c3 (List.mem_of_getElem? (i := 208) rfl)) rfl
theorem tw_689 : ((Jvm.Cond.instanceMethod ({ cls := "DawnTales", name := "mind", desc := "(II)I" } : Jvm.MethodName)) : Jvm.Cond) ∈ am_T := am_mem (am_c3 (List.mem_of_getElem? (i := 209) rfl)) rfl
theorem tw_690 : ((Jvm.Cond.selects "DawnTales" ({ cls := "DawnTales", name := "mind", desc := "(II)I" } : Jvm.MethodName) ({ cls := "DawnTales", name := "mind", desc := "(II)I" } : Jvm.MethodName)) : Jvm.Cond) ∈ am_T := am_mem (am_c3 (List.mem_of_getElem? (i := 210) rfl)) rfl
theorem tw_691 : ((Jvm.Cond.code ({ cls := "DawnTales", name := "mind", desc := "(II)I" } : Jvm.MethodName) prog_1_method_17_code (4 : Nat) (Option.some Jvm.ClassFile.FieldType.int)) : Jvm.Cond) ∈ am_T := am_mem (am_c3 (List.mem_of_getElem? (i := 211) rfl)) rfl
theorem tw_692 : ((Jvm.Cond.methodLink "DawnTales" (225 : Nat) ({ cls := "DawnTales", name := "isDawn", desc := "(I)Z" } : Jvm.MethodName)) : Jvm.Cond) ∈ am_T := am_mem (am_c3 (List.mem_of_getElem? (i := 212) rfl)) rfl
theorem tw_693 : ((Jvm.Cond.static ({ cls := "DawnTales", name := "isDawn", desc := "(I)Z" } : Jvm.MethodName)) : Jvm.Cond) ∈ am_T := am_mem (am_c3 (List.mem_of_getElem? (i := 213) rfl)) rfl
theorem tw_694 : ((Jvm.Cond.code ({ cls := "DawnTales", name := "isDawn", desc := "(I)Z" } : Jvm.MethodName) prog_1_method_32_code (1 : Nat) (Option.some Jvm.ClassFile.FieldType.boolean)) : Jvm.Cond) ∈ am_T := am_mem (am_c3 (List.mem_of_getElem? (i := 214) rfl)) rfl
theorem tw_695 : ((Jvm.Cond.methodLink "DawnTales" (228 : Nat) ({ cls := "DawnTales$Rows", name := "mindPlace", desc := "(I)I" } : Jvm.MethodName)) : Jvm.Cond) ∈ am_T := am_mem (am_c3 (List.mem_of_getElem? (i := 215) rfl)) rfl
theorem tw_696 : ((Jvm.Cond.instanceMethod ({ cls := "DawnTales$Rows", name := "mindPlace", desc := "(I)I" } : Jvm.MethodName)) : Jvm.Cond) ∈ am_T := am_mem (am_c3 (List.mem_of_getElem? (i := 216) rfl)) rfl
theorem tw_697 : ((Jvm.Cond.selects "DawnTales$Rows" ({ cls := "DawnTales$Rows", name := "mindPlace", desc := "(I)I" } : Jvm.MethodName) ({ cls := "DawnTales$Rows", name := "mindPlace", desc := "(I)I" } : Jvm.MethodName)) : Jvm.Cond) ∈ am_T := am_mem (am_c3 (List.mem_of_getElem? (i := 217) rfl)) rfl
theorem tw_698 : ((Jvm.Cond.code ({ cls := "DawnTales$Rows", name := "mindPlace", desc := "(I)I" } : Jvm.MethodName) prog_7_method_15_code (5 : Nat) (Option.some Jvm.ClassFile.FieldType.int)) : Jvm.Cond) ∈ am_T := am_mem (am_c3 (List.mem_of_getElem? (i := 218) rfl)) rfl
theorem tw_699 : ((Jvm.Cond.methodLink "DawnTales$Rows" (170 : Nat) ({ cls := "DawnTales$Rows", name := "mostOpen", desc := "(II)I" } : Jvm.MethodName)) : Jvm.Cond) ∈ am_T := am_mem (am_c3 (List.mem_of_getElem? (i := 219) rfl)) rfl
theorem tw_700 : ((Jvm.Cond.instanceMethod ({ cls := "DawnTales$Rows", name := "mostOpen", desc := "(II)I" } : Jvm.MethodName)) : Jvm.Cond) ∈ am_T := am_mem (am_c3 (List.mem_of_getElem? (i := 220) rfl)) rfl
theorem tw_701 : ((Jvm.Cond.selects "DawnTales$Rows" ({ cls := "DawnTales$Rows", name := "mostOpen", desc := "(II)I" } : Jvm.MethodName) ({ cls := "DawnTales$Rows", name := "mostOpen", desc := "(II)I" } : Jvm.MethodName)) : Jvm.Cond) ∈ am_T := am_mem (am_c3 (List.mem_of_getElem? (i := 221) rfl)) rfl
theorem tw_702 : ((Jvm.Cond.code ({ cls := "DawnTales$Rows", name := "mostOpen", desc := "(II)I" } : Jvm.MethodName) prog_7_method_17_code (5 : Nat) (Option.some Jvm.ClassFile.FieldType.int)) : Jvm.Cond) ∈ am_T := am_mem (am_c3 (List.mem_of_getElem? (i := 222) rfl)) rfl
theorem tw_703 : ((Jvm.Cond.methodLink "DawnTales$Rows" (176 : Nat) ({ cls := "DawnTales$Rows", name := "openAt", desc := "(II)I" } : Jvm.MethodName)) : Jvm.Cond) ∈ am_T := am_mem (am_c3 (List.mem_of_getElem? (i := 223) rfl)) rfl
theorem tw_704 : ((Jvm.Cond.instanceMethod ({ cls := "DawnTales$Rows", name := "openAt", desc := "(II)I" } : Jvm.MethodName)) : Jvm.Cond) ∈ am_T := am_mem (am_c3 (List.mem_of_getElem? (i := 224) rfl)) rfl
theorem tw_705 : ((Jvm.Cond.selects "DawnTales$Rows" ({ cls := "DawnTales$Rows", name := "openAt", desc := "(II)I" } : Jvm.MethodName) ({ cls := "DawnTales$Rows", name := "openAt", desc := "(II)I" } : Jvm.MethodName)) : Jvm.Cond) ∈ am_T := am_mem (am_c3 (List.mem_of_getElem? (i := 225) rfl)) rfl
theorem tw_706 : ((Jvm.Cond.code ({ cls := "DawnTales$Rows", name := "openAt", desc := "(II)I" } : Jvm.MethodName) prog_7_method_21_code (4 : Nat) (Option.some Jvm.ClassFile.FieldType.int)) : Jvm.Cond) ∈ am_T := am_mem (am_c3 (List.mem_of_getElem? (i := 226) rfl)) rfl
theorem tw_707 : ((Jvm.Cond.methodLink "DawnTales$Rows" (184 : Nat) ({ cls := "java/lang/Math", name := "max", desc := "(II)I" } : Jvm.MethodName)) : Jvm.Cond) ∈ am_T := am_mem (am_c3 (List.mem_of_getElem? (i := 227) rfl)) rfl
theorem tw_708 : ((Jvm.Cond.methodLink "DawnTales" (231 : Nat) ({ cls := "DawnTales$Rows", name := "mostOpen", desc := "(II)I" } : Jvm.MethodName)) : Jvm.Cond) ∈ am_T := am_mem (am_c3 (List.mem_of_getElem? (i := 228) rfl)) rfl
theorem tw_709 : ((Jvm.Cond.methodLink "DawnTalesLaw" (80 : Nat) ({ cls := "DawnTales", name := "bars", desc := "(I)I" } : Jvm.MethodName)) : Jvm.Cond) ∈ am_T := am_mem (am_c3 (List.mem_of_getElem? (i := 229) rfl)) rfl
theorem tw_710 : ((Jvm.Cond.instanceMethod ({ cls := "DawnTales", name := "bars", desc := "(I)I" } : Jvm.MethodName)) : Jvm.Cond) ∈ am_T := am_mem (am_c3 (List.mem_of_getElem? (i := 230) rfl)) rfl
theorem tw_711 : ((Jvm.Cond.selects "DawnTales" ({ cls := "DawnTales", name := "bars", desc := "(I)I" } : Jvm.MethodName) ({ cls := "DawnTales", name := "bars", desc := "(I)I" } : Jvm.MethodName)) : Jvm.Cond) ∈ am_T := am_mem (am_c3 (List.mem_of_getElem? (i := 231) rfl)) rfl
theorem tw_712 : ((Jvm.Cond.code ({ cls := "DawnTales", name := "bars", desc := "(I)I" } : Jvm.MethodName) prog_1_method_18_code (2 : Nat) (Option.some Jvm.ClassFile.FieldType.int)) : Jvm.Cond) ∈ am_T := am_mem (am_c3 (List.mem_of_getElem? (i := 232) rfl)) rfl
theorem tw_713 : ((Jvm.Cond.methodLink "DawnTales" (235 : Nat) ({ cls := "DawnTales$Rows", name := "inAllThatReach", desc := "(I)I" } : Jvm.MethodName)) : Jvm.Cond) ∈ am_T := am_mem (am_c3 (List.mem_of_getElem? (i := 233) rfl)) rfl
theorem tw_714 : ((Jvm.Cond.instanceMethod ({ cls := "DawnTales$Rows", name := "inAllThatReach", desc := "(I)I" } : Jvm.MethodName)) : Jvm.Cond) ∈ am_T := am_mem (am_c3 (List.mem_of_getElem? (i := 234) rfl)) rfl
theorem tw_715 : ((Jvm.Cond.selects "DawnTales$Rows" ({ cls := "DawnTales$Rows", name := "inAllThatReach", desc := "(I)I" } : Jvm.MethodName) ({ cls := "DawnTales$Rows", name := "inAllThatReach", desc := "(I)I" } : Jvm.MethodName)) : Jvm.Cond) ∈ am_T := am_mem (am_c3 (List.mem_of_getElem? (i := 235) rfl)) rfl
theorem tw_716 : ((Jvm.Cond.code ({ cls := "DawnTales$Rows", name := "inAllThatReach", desc := "(I)I" } : Jvm.MethodName) prog_7_method_16_code (5 : Nat) (Option.some Jvm.ClassFile.FieldType.int)) : Jvm.Cond) ∈ am_T := am_mem (am_c3 (List.mem_of_getElem? (i := 236) rfl)) rfl
theorem tw_717 : ((Jvm.Cond.methodLink "DawnTales" (238 : Nat) ({ cls := "DawnTales", name := "firstOf", desc := "(I)I" } : Jvm.MethodName)) : Jvm.Cond) ∈ am_T := am_mem (am_c3 (List.mem_of_getElem? (i := 237) rfl)) rfl
theorem tw_718 : ((Jvm.Cond.static ({ cls := "DawnTales", name := "firstOf", desc := "(I)I" } : Jvm.MethodName)) : Jvm.Cond) ∈ am_T := am_mem (am_c3 (List.mem_of_getElem? (i := 238) rfl)) rfl
theorem tw_719 : ((Jvm.Cond.code ({ cls := "DawnTales", name := "firstOf", desc := "(I)I" } : Jvm.MethodName) prog_1_method_35_code (2 : Nat) (Option.some Jvm.ClassFile.FieldType.int)) : Jvm.Cond) ∈ am_T := am_mem (am_c3 (List.mem_of_getElem? (i := 239) rfl)) rfl
theorem tw_720 : ((Jvm.Cond.methodLink "DawnTalesLaw" (84 : Nat) ({ cls := "DawnTales", name := "longer", desc := "()I" } : Jvm.MethodName)) : Jvm.Cond) ∈ am_T := am_mem (am_c4 (List.mem_of_getElem? (i := 0) rfl)) rfl
theorem tw_721 : ((Jvm.Cond.instanceMethod ({ cls := "DawnTales", name := "longer", desc := "()I" } : Jvm.MethodName)) : Jvm.Cond) ∈ am_T := am_mem (am_c4 (List.mem_of_getElem? (i := 1) rfl)) rfl
theorem tw_722 : ((Jvm.Cond.selects "DawnTales" ({ cls := "DawnTales", name := "longer", desc := "()I" } : Jvm.MethodName) ({ cls := "DawnTales", name := "longer", desc := "()I" } : Jvm.MethodName)) : Jvm.Cond) ∈ am_T := am_mem (am_c4 (List.mem_of_getElem? (i := 2) rfl)) rfl
theorem tw_723 : ((Jvm.Cond.code ({ cls := "DawnTales", name := "longer", desc := "()I" } : Jvm.MethodName) prog_1_method_19_code (2 : Nat) (Option.some Jvm.ClassFile.FieldType.int)) : Jvm.Cond) ∈ am_T := am_mem (am_c4 (List.mem_of_getElem? (i := 3) rfl)) rfl
theorem tw_724 : ((Jvm.Cond.methodLink "DawnTales" (241 : Nat) ({ cls := "DawnTales$Rows", name := "bestIfLonger", desc := "(LDawnTales$Book;)I" } : Jvm.MethodName)) : Jvm.Cond) ∈ am_T := am_mem (am_c4 (List.mem_of_getElem? (i := 4) rfl)) rfl
theorem tw_725 : ((Jvm.Cond.instanceMethod ({ cls := "DawnTales$Rows", name := "bestIfLonger", desc := "(LDawnTales$Book;)I" } : Jvm.MethodName)) : Jvm.Cond) ∈ am_T := am_mem (am_c4 (List.mem_of_getElem? (i := 5) rfl)) rfl
theorem tw_726 : ((Jvm.Cond.selects "DawnTales$Rows" ({ cls := "DawnTales$Rows", name := "bestIfLonger", desc := "(LDawnTales$Book;)I" } : Jvm.MethodName) ({ cls := "DawnTales$Rows", name := "bestIfLonger", desc := "(LDawnTales$Book;)I" } : Jvm.MethodName)) : Jvm.Cond) ∈ am_T := am_mem (am_c4 (List.mem_of_getElem? (i := 6) rfl)) rfl
theorem tw_727 : ((Jvm.Cond.code ({ cls := "DawnTales$Rows", name := "bestIfLonger", desc := "(LDawnTales$Book;)I" } : Jvm.MethodName) prog_7_method_12_code (2 : Nat) (Option.some Jvm.ClassFile.FieldType.int)) : Jvm.Cond) ∈ am_T := am_mem (am_c4 (List.mem_of_getElem? (i := 7) rfl)) rfl
theorem tw_728 : ((Jvm.Cond.methodLink "DawnTales$Rows" (158 : Nat) ({ cls := "DawnTales$Book", name := "copyFrom", desc := "(LDawnTales$Book;)V" } : Jvm.MethodName)) : Jvm.Cond) ∈ am_T := am_mem (am_c4 (List.mem_of_getElem? (i := 8) rfl)) rfl
theorem tw_729 : ((Jvm.Cond.methodLink "DawnTales$Rows" (160 : Nat) ({ cls := "DawnTales$Book", name := "lengthenNights", desc := "()V" } : Jvm.MethodName)) : Jvm.Cond) ∈ am_T := am_mem (am_c4 (List.mem_of_getElem? (i := 9) rfl)) rfl
theorem tw_730 : ((Jvm.Cond.instanceMethod ({ cls := "DawnTales$Book", name := "lengthenNights", desc := "()V" } : Jvm.MethodName)) : Jvm.Cond) ∈ am_T := am_mem (am_c4 (List.mem_of_getElem? (i := 10) rfl)) rfl
theorem tw_731 : ((Jvm.Cond.selects "DawnTales$Book" ({ cls := "DawnTales$Book", name := "lengthenNights", desc := "()V" } : Jvm.MethodName) ({ cls := "DawnTales$Book", name := "lengthenNights", desc := "()V" } : Jvm.MethodName)) : Jvm.Cond) ∈ am_T := am_mem (am_c4 (List.mem_of_getElem? (i := 11) rfl)) rfl
theorem tw_732 : ((Jvm.Cond.code ({ cls := "DawnTales$Book", name := "lengthenNights", desc := "()V" } : Jvm.MethodName) prog_2_method_5_code (2 : Nat) (Option.none : Option Jvm.ClassFile.FieldType)) : Jvm.Cond) ∈ am_T := am_mem (am_c4 (List.mem_of_getElem? (i := 12) rfl)) rfl
theorem tw_733 : ((Jvm.Cond.methodLink "DawnTales$Rows" (163 : Nat) ({ cls := "DawnTales$Rows", name := "bestPlace", desc := "()I" } : Jvm.MethodName)) : Jvm.Cond) ∈ am_T := am_mem (am_c4 (List.mem_of_getElem? (i := 13) rfl)) rfl
theorem tw_734 : ((Jvm.Cond.methodLink "DawnTalesLaw" (88 : Nat) ({ cls := "DawnTales", name := "heard", desc := "(II)I" } : Jvm.MethodName)) : Jvm.Cond) ∈ am_T := am_mem (am_c4 (List.mem_of_getElem? (i := 14) rfl)) rfl
theorem tw_735 : ((Jvm.Cond.instanceMethod ({ cls := "DawnTales", name := "heard", desc := "(II)I" } : Jvm.MethodName)) : Jvm.Cond) ∈ am_T := am_mem (am_c4 (List.mem_of_getElem? (i := 15) rfl)) rfl
theorem tw_736 : ((Jvm.Cond.selects "DawnTales" ({ cls := "DawnTales", name := "heard", desc := "(II)I" } : Jvm.MethodName) ({ cls := "DawnTales", name := "heard", desc := "(II)I" } : Jvm.MethodName)) : Jvm.Cond) ∈ am_T := am_mem (am_c4 (List.mem_of_getElem? (i := 16) rfl)) rfl
theorem tw_737 : ((Jvm.Cond.code ({ cls := "DawnTales", name := "heard", desc := "(II)I" } : Jvm.MethodName) prog_1_method_20_code (3 : Nat) (Option.some Jvm.ClassFile.FieldType.int)) : Jvm.Cond) ∈ am_T := am_mem (am_c4 (List.mem_of_getElem? (i := 17) rfl)) rfl
theorem tw_738 : ((Jvm.Cond.methodLink "DawnTalesLaw" (92 : Nat) ({ cls := "DawnTales", name := "forget", desc := "()I" } : Jvm.MethodName)) : Jvm.Cond) ∈ am_T := am_mem (am_c4 (List.mem_of_getElem? (i := 18) rfl)) rfl
theorem tw_739 : ((Jvm.Cond.instanceMethod ({ cls := "DawnTales", name := "forget", desc := "()I" } : Jvm.MethodName)) : Jvm.Cond) ∈ am_T := am_mem (am_c4 (List.mem_of_getElem? (i := 19) rfl)) rfl
theorem tw_740 : ((Jvm.Cond.selects "DawnTales" ({ cls := "DawnTales", name := "forget", desc := "()I" } : Jvm.MethodName) ({ cls := "DawnTales", name := "forget", desc := "()I" } : Jvm.MethodName)) : Jvm.Cond) ∈ am_T := am_mem (am_c4 (List.mem_of_getElem? (i := 20) rfl)) rfl
theorem tw_741 : ((Jvm.Cond.code ({ cls := "DawnTales", name := "forget", desc := "()I" } : Jvm.MethodName) prog_1_method_21_code (2 : Nat) (Option.some Jvm.ClassFile.FieldType.int)) : Jvm.Cond) ∈ am_T := am_mem (am_c4 (List.mem_of_getElem? (i := 21) rfl)) rfl
theorem tw_742 : ((Jvm.Cond.methodLink "DawnTalesLaw" (96 : Nat) ({ cls := "DawnTales", name := "orders", desc := "(I)I" } : Jvm.MethodName)) : Jvm.Cond) ∈ am_T := am_mem (am_c4 (List.mem_of_getElem? (i := 22) rfl)) rfl
theorem tw_743 : ((Jvm.Cond.instanceMethod ({ cls := "DawnTales", name := "orders", desc := "(I)I" } : Jvm.MethodName)) : Jvm.Cond) ∈ am_T := am_mem (am_c4 (List.mem_of_getElem? (i := 23) rfl)) rfl
theorem tw_744 : ((Jvm.Cond.selects "DawnTales" ({ cls := "DawnTales", name := "orders", desc := "(I)I" } : Jvm.MethodName) ({ cls := "DawnTales", name := "orders", desc := "(I)I" } : Jvm.MethodName)) : Jvm.Cond) ∈ am_T := am_mem (am_c4 (List.mem_of_getElem? (i := 24) rfl)) rfl
theorem tw_745 : ((Jvm.Cond.code ({ cls := "DawnTales", name := "orders", desc := "(I)I" } : Jvm.MethodName) prog_1_method_22_code (5 : Nat) (Option.some Jvm.ClassFile.FieldType.int)) : Jvm.Cond) ∈ am_T := am_mem (am_c4 (List.mem_of_getElem? (i := 25) rfl)) rfl
theorem tw_746 : ((Jvm.Cond.methodLink "DawnTales" (253 : Nat) ({ cls := "DawnTales", name := "isAsHeard", desc := "(I)Z" } : Jvm.MethodName)) : Jvm.Cond) ∈ am_T := am_mem (am_c4 (List.mem_of_getElem? (i := 26) rfl)) rfl
theorem tw_748 : ((Jvm.Cond.instanceMethod ({ cls := "DawnTales", name := "isAsHeard", desc := "(I)Z" } : Jvm.MethodName)) : Jvm.Cond) ∈ am_T := am_mem (am_c4 (List.mem_of_getElem? (i := 28) rfl)) rfl
theorem tw_749 : ((Jvm.Cond.code ({ cls := "DawnTales", name := "isAsHeard", desc := "(I)Z" } : Jvm.MethodName) prog_1_method_31_code (4 : Nat) (Option.some Jvm.ClassFile.FieldType.boolean)) : Jvm.Cond) ∈ am_T := am_mem (am_c4 (List.mem_of_getElem? (i := 29) rfl)) rfl
theorem tw_750 : ((Jvm.Cond.methodLink "DawnTales" (256 : Nat) ({ cls := "DawnTales$Rows", name := "openAt", desc := "(II)I" } : Jvm.MethodName)) : Jvm.Cond) ∈ am_T := am_mem (am_c4 (List.mem_of_getElem? (i := 30) rfl)) rfl
theorem tw_751 : ((Jvm.Cond.methodLink "DawnTales" (302 : Nat) ({ cls := "java/lang/Integer", name := "bitCount", desc := "(I)I" } : Jvm.MethodName)) : Jvm.Cond) ∈ am_T := am_mem (am_c4 (List.mem_of_getElem? (i := 31) rfl)) rfl
theorem tw_752 : ((Jvm.Cond.methodLink "DawnTalesLaw" (100 : Nat) ({ cls := "DawnTales", name := "surely", desc := "(I)I" } : Jvm.MethodName)) : Jvm.Cond) ∈ am_T := am_mem (am_c4 (List.mem_of_getElem? (i := 32) rfl)) rfl
theorem tw_753 : ((Jvm.Cond.instanceMethod ({ cls := "DawnTales", name := "surely", desc := "(I)I" } : Jvm.MethodName)) : Jvm.Cond) ∈ am_T := am_mem (am_c4 (List.mem_of_getElem? (i := 33) rfl)) rfl
theorem tw_754 : ((Jvm.Cond.selects "DawnTales" ({ cls := "DawnTales", name := "surely", desc := "(I)I" } : Jvm.MethodName) ({ cls := "DawnTales", name := "surely", desc := "(I)I" } : Jvm.MethodName)) : Jvm.Cond) ∈ am_T := am_mem (am_c4 (List.mem_of_getElem? (i := 34) rfl)) rfl
theorem tw_755 : ((Jvm.Cond.code ({ cls := "DawnTales", name := "surely", desc := "(I)I" } : Jvm.MethodName) prog_1_method_23_code (5 : Nat) (Option.some Jvm.ClassFile.FieldType.int)) : Jvm.Cond) ∈ am_T := am_mem (am_c4 (List.mem_of_getElem? (i := 35) rfl)) rfl
theorem tw_756 : ((Jvm.Cond.methodLink "DawnTalesLaw" (104 : Nat) ({ cls := "DawnTales", name := "odds", desc := "(III)J" } : Jvm.MethodName)) : Jvm.Cond) ∈ am_T := am_mem (am_c4 (List.mem_of_getElem? (i := 36) rfl)) rfl
theorem tw_757 : ((Jvm.Cond.instanceMethod ({ cls := "DawnTales", name := "odds", desc := "(III)J" } : Jvm.MethodName)) : Jvm.Cond) ∈ am_T := am_mem (am_c4 (List.mem_of_getElem? (i := 37) rfl)) rfl
theorem tw_758 : ((Jvm.Cond.selects "DawnTales" ({ cls := "DawnTales", name := "odds", desc := "(III)J" } : Jvm.MethodName) ({ cls := "DawnTales", name := "odds", desc := "(III)J" } : Jvm.MethodName)) : Jvm.Cond) ∈ am_T := am_mem (am_c4 (List.mem_of_getElem? (i := 38) rfl)) rfl
theorem tw_759 : ((Jvm.Cond.code ({ cls := "DawnTales", name := "odds", desc := "(III)J" } : Jvm.MethodName) prog_1_method_24_code (9 : Nat) (Option.some Jvm.ClassFile.FieldType.long)) : Jvm.Cond) ∈ am_T := am_mem (am_c4 (List.mem_of_getElem? (i := 39) rfl)) rfl
theorem tw_760 : ((Jvm.Cond.constantLong "DawnTales" (259 : Nat) (-1 : Int64)) : Jvm.Cond) ∈ am_T := am_mem (am_c4 (List.mem_of_getElem? (i := 40) rfl)) rfl
theorem tw_761 : ((Jvm.Cond.methodLink "DawnTales" (261 : Nat) ({ cls := "DawnTales", name := "commonDivisor", desc := "(II)I" } : Jvm.MethodName)) : Jvm.Cond) ∈ am_T := am_mem (am_c4 (List.mem_of_getElem? (i := 41) rfl)) rfl
theorem tw_762 : ((Jvm.Cond.static ({ cls := "DawnTales", name := "commonDivisor", desc := "(II)I" } : Jvm.MethodName)) : Jvm.Cond) ∈ am_T := am_mem (am_c4 (List.mem_of_getElem? (i := 42) rfl)) rfl
theorem tw_763 : ((Jvm.Cond.code ({ cls := "DawnTales", name := "commonDivisor", desc := "(II)I" } : Jvm.MethodName) prog_1_method_36_code (6 : Nat) (Option.some Jvm.ClassFile.FieldType.int)) : Jvm.Cond) ∈ am_T := am_mem (am_c4 (List.mem_of_getElem? (i := 43) rfl)) rfl
theorem tw_764 : ((Jvm.Cond.methodLink "DawnTales" (264 : Nat) ({ cls := "java/lang/Math", name := "max", desc := "(II)I" } : Jvm.MethodName)) : Jvm.Cond) ∈ am_T := am_mem (am_c4 (List.mem_of_getElem? (i := 44) rfl)) rfl
theorem tw_765 : ((Jvm.Cond.methodLink "DawnTalesLaw" (109 : Nat) ({ cls := "DawnTales", name := "mark", desc := "(II)I" } : Jvm.MethodName)) : Jvm.Cond) ∈ am_T := am_mem (am_c4 (List.mem_of_getElem? (i := 45) rfl)) rfl
theorem tw_766 : ((Jvm.Cond.instanceMethod ({ cls := "DawnTales", name := "mark", desc := "(II)I" } : Jvm.MethodName)) : Jvm.Cond) ∈ am_T := am_mem (am_c4 (List.mem_of_getElem? (i := 46) rfl)) rfl
theorem tw_767 : ((Jvm.Cond.selects "DawnTales" ({ cls := "DawnTales", name := "mark", desc := "(II)I" } : Jvm.MethodName) ({ cls := "DawnTales", name := "mark", desc := "(II)I" } : Jvm.MethodName)) : Jvm.Cond) ∈ am_T := am_mem (am_c4 (List.mem_of_getElem? (i := 47) rfl)) rfl
theorem tw_768 : ((Jvm.Cond.code ({ cls := "DawnTales", name := "mark", desc := "(II)I" } : Jvm.MethodName) prog_1_method_25_code (3 : Nat) (Option.some Jvm.ClassFile.FieldType.int)) : Jvm.Cond) ∈ am_T := am_mem (am_c4 (List.mem_of_getElem? (i := 48) rfl)) rfl
theorem tw_769 : ((Jvm.Cond.constant "DawnTales" (269 : Nat) (-1000000 : Int32)) : Jvm.Cond) ∈ am_T := am_mem (am_c4 (List.mem_of_getElem? (i := 49) rfl)) rfl
theorem tw_770 : ((Jvm.Cond.methodLink "DawnTales" (270 : Nat) ({ cls := "DawnTales$TaleKind", name := "marked", desc := "(LDawnTales$Book;LDawnTales$Telling;I)I" } : Jvm.MethodName)) : Jvm.Cond) ∈ am_T := am_mem (am_c4 (List.mem_of_getElem? (i := 50) rfl)) rfl
theorem tw_771 : ((Jvm.Cond.instanceMethod ({ cls := "DawnTales$TaleKind", name := "marked", desc := "(LDawnTales$Book;LDawnTales$Telling;I)I" } : Jvm.MethodName)) : Jvm.Cond) ∈ am_T := am_mem (am_c4 (List.mem_of_getElem? (i := 51) rfl)) rfl
theorem tw_772 : ((Jvm.Cond.selects "DawnTales$TaleKind" ({ cls := "DawnTales$TaleKind", name := "marked", desc := "(LDawnTales$Book;LDawnTales$Telling;I)I" } : Jvm.MethodName) ({ cls := "DawnTales$TaleKind", name := "marked", desc := "(LDawnTales$Book;LDawnTales$Telling;I)I" } : Jvm.MethodName)) : Jvm.Cond) ∈ am_T := am_mem (am_c4 (List.mem_of_getElem? (i := 52) rfl)) rfl
theorem tw_773 : ((Jvm.Cond.sameMethod "DawnTales$TaleKind" "DawnTales$TaleKind" "marked" "(LDawnTales$Book;LDawnTales$Telling;I)I") : Jvm.Cond) ∈ am_T := am_mem (am_c4 (List.mem_of_getElem? (i := 53) rfl)) rfl
theorem tw_774 : ((Jvm.Cond.selects "DawnTales$BorrowedKind" ({ cls := "DawnTales$TaleKind", name := "marked", desc := "(LDawnTales$Book;LDawnTales$Telling;I)I" } : Jvm.MethodName) ({ cls := "DawnTales$BorrowedKind", name := "marked", desc := "(LDawnTales$Book;LDawnTales$Telling;I)I" } : Jvm.MethodName)) : Jvm.Cond) ∈ am_T := am_mem (am_c4 (List.mem_of_getElem? (i := 54) rfl)) rfl
theorem tw_775 : ((Jvm.Cond.instanceMethod ({ cls := "DawnTales$BorrowedKind", name := "marked", desc := "(LDawnTales$Book;LDawnTales$Telling;I)I" } : Jvm.MethodName)) : Jvm.Cond) ∈ am_T := am_mem (am_c4 (List.mem_of_getElem? (i := 55) rfl)) rfl
theorem tw_776 : ((Jvm.Cond.code ({ cls := "DawnTales$BorrowedKind", name := "marked", desc := "(LDawnTales$Book;LDawnTales$Telling;I)I" } : Jvm.MethodName) prog_3_method_2_code (4 : Nat) (Option.some Jvm.ClassFile.FieldType.int)) : Jvm.Cond) ∈ am_T := am_mem (am_c4 (List.mem_of_getElem? (i := 56) rfl)) rfl
theorem tw_777 : ((Jvm.Cond.constantLong "DawnTales$BorrowedKind" (13 : Nat) (10 : Int64)) : Jvm.Cond) ∈ am_T := am_mem (am_c4 (List.mem_of_getElem? (i := 57) rfl)) rfl
theorem tw_778 : ((Jvm.Cond.methodLink "DawnTales$BorrowedKind" (15 : Nat) ({ cls := "DawnTales$TaleKind", name := "marked", desc := "(LDawnTales$Book;LDawnTales$Telling;I)I" } : Jvm.MethodName)) : Jvm.Cond) ∈ am_T := am_mem (am_c4 (List.mem_of_getElem? (i := 58) rfl)) rfl
theorem tw_779 : ((Jvm.Cond.methodLink "DawnTales$BorrowedKind" (19 : Nat) ({ cls := "DawnTales$Book", name := "partsOf", desc := "(I)I" } : Jvm.MethodName)) : Jvm.Cond) ∈ am_T := am_mem (am_c4 (List.mem_of_getElem? (i := 59) rfl)) rfl
theorem tw_780 : ((Jvm.Cond.selects "DawnTales$EndlessKind" ({ cls := "DawnTales$TaleKind", name := "marked", desc := "(LDawnTales$Book;LDawnTales$Telling;I)I" } : Jvm.MethodName) ({ cls := "DawnTales$EndlessKind", name := "marked", desc := "(LDawnTales$Book;LDawnTales$Telling;I)I" } : Jvm.MethodName)) : Jvm.Cond) ∈ am_T := am_mem (am_c4 (List.mem_of_getElem? (i := 60) rfl)) rfl
theorem tw_781 : ((Jvm.Cond.instanceMethod ({ cls := "DawnTales$EndlessKind", name := "marked", desc := "(LDawnTales$Book;LDawnTales$Telling;I)I" } : Jvm.MethodName)) : Jvm.Cond) ∈ am_T := am_mem (am_c4 (List.mem_of_getElem? (i := 61) rfl)) rfl
theorem tw_782 : ((Jvm.Cond.code ({ cls := "DawnTales$EndlessKind", name := "marked", desc := "(LDawnTales$Book;LDawnTales$Telling;I)I" } : Jvm.MethodName) prog_4_method_2_code (4 : Nat) (Option.some Jvm.ClassFile.FieldType.int)) : Jvm.Cond) ∈ am_T := am_mem (am_c4 (List.mem_of_getElem? (i := 62) rfl)) rfl
theorem tw_783 : ((Jvm.Cond.constantLong "DawnTales$EndlessKind" (13 : Nat) (10000 : Int64)) : Jvm.Cond) ∈ am_T := am_mem (am_c4 (List.mem_of_getElem? (i := 63) rfl)) rfl
theorem tw_784 : ((Jvm.Cond.methodLink "DawnTales$EndlessKind" (15 : Nat) ({ cls := "DawnTales$RingKind", name := "marked", desc := "(LDawnTales$Book;LDawnTales$Telling;I)I" } : Jvm.MethodName)) : Jvm.Cond) ∈ am_T := am_mem (am_c4 (List.mem_of_getElem? (i := 64) rfl)) rfl
theorem tw_785 : ((Jvm.Cond.instanceMethod ({ cls := "DawnTales$RingKind", name := "marked", desc := "(LDawnTales$Book;LDawnTales$Telling;I)I" } : Jvm.MethodName)) : Jvm.Cond) ∈ am_T := am_mem (am_c4 (List.mem_of_getElem? (i := 65) rfl)) rfl
theorem tw_786 : ((Jvm.Cond.code ({ cls := "DawnTales$RingKind", name := "marked", desc := "(LDawnTales$Book;LDawnTales$Telling;I)I" } : Jvm.MethodName) prog_6_method_2_code (4 : Nat) (Option.some Jvm.ClassFile.FieldType.int)) : Jvm.Cond) ∈ am_T := am_mem (am_c4 (List.mem_of_getElem? (i := 66) rfl)) rfl
theorem tw_787 : ((Jvm.Cond.constantLong "DawnTales$RingKind" (13 : Nat) (100 : Int64)) : Jvm.Cond) ∈ am_T := am_mem (am_c4 (List.mem_of_getElem? (i := 67) rfl)) rfl
theorem tw_788 : ((Jvm.Cond.methodLink "DawnTales$RingKind" (15 : Nat) ({ cls := "DawnTales$TaleKind", name := "marked", desc := "(LDawnTales$Book;LDawnTales$Telling;I)I" } : Jvm.MethodName)) : Jvm.Cond) ∈ am_T := am_mem (am_c4 (List.mem_of_getElem? (i := 68) rfl)) rfl
theorem tw_789 : ((Jvm.Cond.methodLink "DawnTales$RingKind" (19 : Nat) ({ cls := "DawnTales$Book", name := "toldWithin", desc := "(I)I" } : Jvm.MethodName)) : Jvm.Cond) ∈ am_T := am_mem (am_c4 (List.mem_of_getElem? (i := 69) rfl)) rfl
theorem tw_790 : ((Jvm.Cond.instanceMethod ({ cls := "DawnTales$Book", name := "toldWithin", desc := "(I)I" } : Jvm.MethodName)) : Jvm.Cond) ∈ am_T := am_mem (am_c4 (List.mem_of_getElem? (i := 70) rfl)) rfl
theorem tw_791 : ((Jvm.Cond.selects "DawnTales$Book" ({ cls := "DawnTales$Book", name := "toldWithin", desc := "(I)I" } : Jvm.MethodName) ({ cls := "DawnTales$Book", name := "toldWithin", desc := "(I)I" } : Jvm.MethodName)) : Jvm.Cond) ∈ am_T := am_mem (am_c4 (List.mem_of_getElem? (i := 71) rfl)) rfl
theorem tw_792 : ((Jvm.Cond.code ({ cls := "DawnTales$Book", name := "toldWithin", desc := "(I)I" } : Jvm.MethodName) prog_2_method_11_code (4 : Nat) (Option.some Jvm.ClassFile.FieldType.int)) : Jvm.Cond) ∈ am_T := am_mem (am_c4 (List.mem_of_getElem? (i := 72) rfl)) rfl
theorem tw_793 : ((Jvm.Cond.methodLink "DawnTales$Book" (54 : Nat) ({ cls := "DawnTales$Book", name := "withinOf", desc := "(I)I" } : Jvm.MethodName)) : Jvm.Cond) ∈ am_T := am_mem (am_c4 (List.mem_of_getElem? (i := 73) rfl)) rfl
theorem tw_794 : ((Jvm.Cond.selects "DawnTales$JokeKind" ({ cls := "DawnTales$TaleKind", name := "marked", desc := "(LDawnTales$Book;LDawnTales$Telling;I)I" } : Jvm.MethodName) ({ cls := "DawnTales$JokeKind", name := "marked", desc := "(LDawnTales$Book;LDawnTales$Telling;I)I" } : Jvm.MethodName)) : Jvm.Cond) ∈ am_T := am_mem (am_c4 (List.mem_of_getElem? (i := 74) rfl)) rfl
theorem tw_795 : ((Jvm.Cond.instanceMethod ({ cls := "DawnTales$JokeKind", name := "marked", desc := "(LDawnTales$Book;LDawnTales$Telling;I)I" } : Jvm.MethodName)) : Jvm.Cond) ∈ am_T := am_mem (am_c4 (List.mem_of_getElem? (i := 75) rfl)) rfl
theorem tw_796 : ((Jvm.Cond.code ({ cls := "DawnTales$JokeKind", name := "marked", desc := "(LDawnTales$Book;LDawnTales$Telling;I)I" } : Jvm.MethodName) prog_5_method_2_code (4 : Nat) (Option.some Jvm.ClassFile.FieldType.int)) : Jvm.Cond) ∈ am_T := am_mem (am_c4 (List.mem_of_getElem? (i := 76) rfl)) rfl
theorem tw_797 : ((Jvm.Cond.constantLong "DawnTales$JokeKind" (13 : Nat) (100000 : Int64)) : Jvm.Cond) ∈ am_T := am_mem (am_c4 (List.mem_of_getElem? (i := 77) rfl)) rfl
theorem tw_798 : ((Jvm.Cond.methodLink "DawnTales$JokeKind" (15 : Nat) ({ cls := "DawnTales$TaleKind", name := "marked", desc := "(LDawnTales$Book;LDawnTales$Telling;I)I" } : Jvm.MethodName)) : Jvm.Cond) ∈ am_T := am_mem (am_c4 (List.mem_of_getElem? (i := 78) rfl)) rfl
theorem tw_799 : ((Jvm.Cond.selects "DawnTales$RingKind" ({ cls := "DawnTales$TaleKind", name := "marked", desc := "(LDawnTales$Book;LDawnTales$Telling;I)I" } : Jvm.MethodName) ({ cls := "DawnTales$RingKind", name := "marked", desc := "(LDawnTales$Book;LDawnTales$Telling;I)I" } : Jvm.MethodName)) : Jvm.Cond) ∈ am_T := am_mem (am_c4 (List.mem_of_getElem? (i := 79) rfl)) rfl
theorem tw_800 : ((Jvm.Cond.selects "DawnTales$TrueKind" ({ cls := "DawnTales$TaleKind", name := "marked", desc := "(LDawnTales$Book;LDawnTales$Telling;I)I" } : Jvm.MethodName) ({ cls := "DawnTales$TrueKind", name := "marked", desc := "(LDawnTales$Book;LDawnTales$Telling;I)I" } : Jvm.MethodName)) : Jvm.Cond) ∈ am_T := am_mem (am_c4 (List.mem_of_getElem? (i := 80) rfl)) rfl
theorem tw_801 : ((Jvm.Cond.instanceMethod ({ cls := "DawnTales$TrueKind", name := "marked", desc := "(LDawnTales$Book;LDawnTales$Telling;I)I" } : Jvm.MethodName)) : Jvm.Cond) ∈ am_T := am_mem (am_c4 (List.mem_of_getElem? (i := 81) rfl)) rfl
theorem tw_802 : ((Jvm.Cond.code ({ cls := "DawnTales$TrueKind", name := "marked", desc := "(LDawnTales$Book;LDawnTales$Telling;I)I" } : Jvm.MethodName) prog_12_method_2_code (4 : Nat) (Option.some Jvm.ClassFile.FieldType.int)) : Jvm.Cond) ∈ am_T := am_mem (am_c4 (List.mem_of_getElem? (i := 82) rfl)) rfl
theorem tw_803 : ((Jvm.Cond.constantLong "DawnTales$TrueKind" (13 : Nat) (1000 : Int64)) : Jvm.Cond) ∈ am_T := am_mem (am_c4 (List.mem_of_getElem? (i := 83) rfl)) rfl
theorem tw_804 : ((Jvm.Cond.methodLink "DawnTales$TrueKind" (15 : Nat) ({ cls := "DawnTales$BorrowedKind", name := "marked", desc := "(LDawnTales$Book;LDawnTales$Telling;I)I" } : Jvm.MethodName)) : Jvm.Cond) ∈ am_T := am_mem (am_c4 (List.mem_of_getElem? (i := 84) rfl)) rfl
theorem tw_805 : ((Jvm.Cond.code ({ cls := "DawnTales$TaleKind", name := "marked", desc := "(LDawnTales$Book;LDawnTales$Telling;I)I" } : Jvm.MethodName) prog_9_method_2_code (4 : Nat) (Option.some Jvm.ClassFile.FieldType.int)) : Jvm.Cond) ∈ am_T := am_mem (am_c4 (List.mem_of_getElem? (i := 85) rfl)) rfl
theorem tw_806 : ((Jvm.Cond.methodLink "DawnTales$TaleKind" (13 : Nat) ({ cls := "DawnTales$Telling", name := "leftOf", desc := "(I)I" } : Jvm.MethodName)) : Jvm.Cond) ∈ am_T := am_mem (am_c4 (List.mem_of_getElem? (i := 86) rfl)) rfl
theorem tw_807 : ((Jvm.Cond.methodLink "DawnTalesLaw" (113 : Nat) ({ cls := "DawnTales", name := "keep", desc := "(I)I" } : Jvm.MethodName)) : Jvm.Cond) ∈ am_T := am_mem (am_c4 (List.mem_of_getElem? (i := 87) rfl)) rfl
theorem tw_808 : ((Jvm.Cond.instanceMethod ({ cls := "DawnTales", name := "keep", desc := "(I)I" } : Jvm.MethodName)) : Jvm.Cond) ∈ am_T := am_mem (am_c4 (List.mem_of_getElem? (i := 88) rfl)) rfl
theorem tw_809 : ((Jvm.Cond.selects "DawnTales" ({ cls := "DawnTales", name := "keep", desc := "(I)I" } : Jvm.MethodName) ({ cls := "DawnTales", name := "keep", desc := "(I)I" } : Jvm.MethodName)) : Jvm.Cond) ∈ am_T := am_mem (am_c4 (List.mem_of_getElem? (i := 89) rfl)) rfl
theorem tw_810 : ((Jvm.Cond.code ({ cls := "DawnTales", name := "keep", desc := "(I)I" } : Jvm.MethodName) prog_1_method_26_code (2 : Nat) (Option.some Jvm.ClassFile.FieldType.int)) : Jvm.Cond) ∈ am_T := am_mem (am_c4 (List.mem_of_getElem? (i := 90) rfl)) rfl
theorem tw_811 : ((Jvm.Cond.methodLink "DawnTales" (274 : Nat) ({ cls := "DawnTales", name := "isImage", desc := "(I)Z" } : Jvm.MethodName)) : Jvm.Cond) ∈ am_T := am_mem (am_c4 (List.mem_of_getElem? (i := 91) rfl)) rfl
theorem tw_812 : ((Jvm.Cond.static ({ cls := "DawnTales", name := "isImage", desc := "(I)Z" } : Jvm.MethodName)) : Jvm.Cond) ∈ am_T := am_mem (am_c4 (List.mem_of_getElem? (i := 92) rfl)) rfl
theorem tw_813 : ((Jvm.Cond.code ({ cls := "DawnTales", name := "isImage", desc := "(I)Z" } : Jvm.MethodName) prog_1_method_34_code (1 : Nat) (Option.some Jvm.ClassFile.FieldType.boolean)) : Jvm.Cond) ∈ am_T := am_mem (am_c4 (List.mem_of_getElem? (i := 93) rfl)) rfl
theorem tw_814 : ((Jvm.Cond.methodLink "DawnTales" (277 : Nat) ({ cls := "DawnTales$Stand", name := "copyFrom", desc := "(LDawnTales$Stand;)V" } : Jvm.MethodName)) : Jvm.Cond) ∈ am_T := am_mem (am_c4 (List.mem_of_getElem? (i := 94) rfl)) rfl
theorem tw_815 : ((Jvm.Cond.instanceMethod ({ cls := "DawnTales$Stand", name := "copyFrom", desc := "(LDawnTales$Stand;)V" } : Jvm.MethodName)) : Jvm.Cond) ∈ am_T := am_mem (am_c4 (List.mem_of_getElem? (i := 95) rfl)) rfl
theorem tw_816 : ((Jvm.Cond.selects "DawnTales$Stand" ({ cls := "DawnTales$Stand", name := "copyFrom", desc := "(LDawnTales$Stand;)V" } : Jvm.MethodName) ({ cls := "DawnTales$Stand", name := "copyFrom", desc := "(LDawnTales$Stand;)V" } : Jvm.MethodName)) : Jvm.Cond) ∈ am_T := am_mem (am_c4 (List.mem_of_getElem? (i := 96) rfl)) rfl
theorem tw_817 : ((Jvm.Cond.code ({ cls := "DawnTales$Stand", name := "copyFrom", desc := "(LDawnTales$Stand;)V" } : Jvm.MethodName) prog_8_method_3_code (3 : Nat) (Option.none : Option Jvm.ClassFile.FieldType)) : Jvm.Cond) ∈ am_T := am_mem (am_c4 (List.mem_of_getElem? (i := 97) rfl)) rfl
theorem tw_818 : ((Jvm.Cond.methodLink "DawnTalesLaw" (117 : Nat) ({ cls := "DawnTales", name := "back", desc := "(I)I" } : Jvm.MethodName)) : Jvm.Cond) ∈ am_T := am_mem (am_c4 (List.mem_of_getElem? (i := 98) rfl)) rfl
theorem tw_819 : ((Jvm.Cond.instanceMethod ({ cls := "DawnTales", name := "back", desc := "(I)I" } : Jvm.MethodName)) : Jvm.Cond) ∈ am_T := am_mem (am_c4 (List.mem_of_getElem? (i := 99) rfl)) rfl
theorem tw_820 : ((Jvm.Cond.selects "DawnTales" ({ cls := "DawnTales", name := "back", desc := "(I)I" } : Jvm.MethodName) ({ cls := "DawnTales", name := "back", desc := "(I)I" } : Jvm.MethodName)) : Jvm.Cond) ∈ am_T := am_mem (am_c4 (List.mem_of_getElem? (i := 100) rfl)) rfl
theorem tw_821 : ((Jvm.Cond.code ({ cls := "DawnTales", name := "back", desc := "(I)I" } : Jvm.MethodName) prog_1_method_27_code (2 : Nat) (Option.some Jvm.ClassFile.FieldType.int)) : Jvm.Cond) ∈ am_T := am_mem (am_c4 (List.mem_of_getElem? (i := 101) rfl)) rfl
theorem tw_822 : ((Jvm.Cond.methodLink "DawnTalesLaw" (121 : Nat) ({ cls := "DawnTales", name := "count", desc := "(I)I" } : Jvm.MethodName)) : Jvm.Cond) ∈ am_T := am_mem (am_c4 (List.mem_of_getElem? (i := 102) rfl)) rfl
theorem tw_823 : ((Jvm.Cond.instanceMethod ({ cls := "DawnTales", name := "count", desc := "(I)I" } : Jvm.MethodName)) : Jvm.Cond) ∈ am_T := am_mem (am_c4 (List.mem_of_getElem? (i := 103) rfl)) rfl
theorem tw_824 : ((Jvm.Cond.selects "DawnTales" ({ cls := "DawnTales", name := "count", desc := "(I)I" } : Jvm.MethodName) ({ cls := "DawnTales", name := "count", desc := "(I)I" } : Jvm.MethodName)) : Jvm.Cond) ∈ am_T := am_mem (am_c4 (List.mem_of_getElem? (i := 104) rfl)) rfl
theorem tw_825 : ((Jvm.Cond.code ({ cls := "DawnTales", name := "count", desc := "(I)I" } : Jvm.MethodName) prog_1_method_28_code (2 : Nat) (Option.some Jvm.ClassFile.FieldType.int)) : Jvm.Cond) ∈ am_T := am_mem (am_c4 (List.mem_of_getElem? (i := 105) rfl)) rfl
theorem tw_826 : ((Jvm.Cond.methodLink "DawnTalesLaw" (125 : Nat) ({ cls := "DawnTales", name := "trace", desc := "()J" } : Jvm.MethodName)) : Jvm.Cond) ∈ am_T := am_mem (am_c4 (List.mem_of_getElem? (i := 106) rfl)) rfl
theorem tw_827 : ((Jvm.Cond.instanceMethod ({ cls := "DawnTales", name := "trace", desc := "()J" } : Jvm.MethodName)) : Jvm.Cond) ∈ am_T := am_mem (am_c4 (List.mem_of_getElem? (i := 107) rfl)) rfl
theorem tw_828 : ((Jvm.Cond.selects "DawnTales" ({ cls := "DawnTales", name := "trace", desc := "()J" } : Jvm.MethodName) ({ cls := "DawnTales", name := "trace", desc := "()J" } : Jvm.MethodName)) : Jvm.Cond) ∈ am_T := am_mem (am_c4 (List.mem_of_getElem? (i := 108) rfl)) rfl
theorem tw_829 : ((Jvm.Cond.code ({ cls := "DawnTales", name := "trace", desc := "()J" } : Jvm.MethodName) prog_1_method_29_code (4 : Nat) (Option.some Jvm.ClassFile.FieldType.long)) : Jvm.Cond) ∈ am_T := am_mem (am_c4 (List.mem_of_getElem? (i := 109) rfl)) rfl
theorem tw_830 : ((Jvm.Cond.classLink "DawnTalesLaw" (10 : Nat) "DawnTalesModel") : Jvm.Cond) ∈ am_T := am_mem (am_c4 (List.mem_of_getElem? (i := 110) rfl)) rfl
theorem tw_831 : ((Jvm.Cond.instantiable "DawnTalesModel" (37 : Nat)) : Jvm.Cond) ∈ am_T := am_mem (am_c4 (List.mem_of_getElem? (i := 111) rfl)) rfl
theorem tw_832 : ((Jvm.Cond.methodLink "DawnTalesLaw" (12 : Nat) ({ cls := "DawnTalesModel", name := "<init>", desc := "()V" } : Jvm.MethodName)) : Jvm.Cond) ∈ am_T := am_mem (am_c4 (List.mem_of_getElem? (i := 112) rfl)) rfl
theorem tw_833 : ((Jvm.Cond.instanceMethod ({ cls := "DawnTalesModel", name := "<init>", desc := "()V" } : Jvm.MethodName)) : Jvm.Cond) ∈ am_T := am_mem (am_c4 (List.mem_of_getElem? (i := 113) rfl)) rfl
theorem tw_834 : ((Jvm.Cond.code ({ cls := "DawnTalesModel", name := "<init>", desc := "()V" } : Jvm.MethodName) prog_14_method_3_code (1 : Nat) (Option.none : Option Jvm.ClassFile.FieldType)) : Jvm.Cond) ∈ am_T := am_mem (am_c4 (List.mem_of_getElem? (i := 114) rfl)) rfl
theorem tw_835 : ((Jvm.Cond.methodLink "DawnTalesModel" (1 : Nat) ({ cls := "java/lang/Object", name := "<init>", desc := "()V" } : Jvm.MethodName)) : Jvm.Cond) ∈ am_T := am_mem (am_c4 (List.mem_of_getElem? (i := 115) rfl)) rfl
theorem tw_836 : ((Jvm.Cond.methodLink "DawnTalesModel" (58 : Nat) ({ cls := "DawnTalesModel", name := "plain", desc := "()V" } : Jvm.MethodName)) : Jvm.Cond) ∈ am_T := am_mem (am_c4 (List.mem_of_getElem? (i := 116) rfl)) rfl
theorem tw_838 : ((Jvm.Cond.instanceMethod ({ cls := "DawnTalesModel", name := "plain", desc := "()V" } : Jvm.MethodName)) : Jvm.Cond) ∈ am_T := am_mem (am_c4 (List.mem_of_getElem? (i := 118) rfl)) rfl
theorem tw_839 : ((Jvm.Cond.code ({ cls := "DawnTalesModel", name := "plain", desc := "()V" } : Jvm.MethodName) prog_14_method_17_code (1 : Nat) (Option.none : Option Jvm.ClassFile.FieldType)) : Jvm.Cond) ∈ am_T := am_mem (am_c4 (List.mem_of_getElem? (i := 119) rfl)) rfl
theorem tw_840 : ((Jvm.Cond.methodLink "DawnTalesModel" (134 : Nat) ({ cls := "DawnTalesModel", name := "takes", desc := "()V" } : Jvm.MethodName)) : Jvm.Cond) ∈ am_T := am_mem (am_c4 (List.mem_of_getElem? (i := 120) rfl)) rfl
theorem tw_842 : ((Jvm.Cond.instanceMethod ({ cls := "DawnTalesModel", name := "takes", desc := "()V" } : Jvm.MethodName)) : Jvm.Cond) ∈ am_T := am_mem (am_c4 (List.mem_of_getElem? (i := 122) rfl)) rfl
theorem tw_843 : ((Jvm.Cond.code ({ cls := "DawnTalesModel", name := "takes", desc := "()V" } : Jvm.MethodName) prog_14_method_16_code (2 : Nat) (Option.none : Option Jvm.ClassFile.FieldType)) : Jvm.Cond) ∈ am_T := am_mem (am_c4 (List.mem_of_getElem? (i := 123) rfl)) rfl
theorem tw_844 : ((Jvm.Cond.methodLink "DawnTalesModel" (149 : Nat) ({ cls := "DawnTalesModel", name := "beginsAnew", desc := "()V" } : Jvm.MethodName)) : Jvm.Cond) ∈ am_T := am_mem (am_c4 (List.mem_of_getElem? (i := 124) rfl)) rfl
theorem tw_846 : ((Jvm.Cond.instanceMethod ({ cls := "DawnTalesModel", name := "beginsAnew", desc := "()V" } : Jvm.MethodName)) : Jvm.Cond) ∈ am_T := am_mem (am_c4 (List.mem_of_getElem? (i := 126) rfl)) rfl
theorem tw_847 : ((Jvm.Cond.code ({ cls := "DawnTalesModel", name := "beginsAnew", desc := "()V" } : Jvm.MethodName) prog_14_method_20_code (2 : Nat) (Option.none : Option Jvm.ClassFile.FieldType)) : Jvm.Cond) ∈ am_T := am_mem (am_c4 (List.mem_of_getElem? (i := 127) rfl)) rfl
theorem tw_848 : ((Jvm.Cond.methodLink "DawnTalesModel" (164 : Nat) ({ cls := "DawnTalesModel", name := "hoursOf", desc := "(I)I" } : Jvm.MethodName)) : Jvm.Cond) ∈ am_T := am_mem (am_c4 (List.mem_of_getElem? (i := 128) rfl)) rfl
theorem tw_850 : ((Jvm.Cond.instanceMethod ({ cls := "DawnTalesModel", name := "hoursOf", desc := "(I)I" } : Jvm.MethodName)) : Jvm.Cond) ∈ am_T := am_mem (am_c4 (List.mem_of_getElem? (i := 130) rfl)) rfl
theorem tw_851 : ((Jvm.Cond.code ({ cls := "DawnTalesModel", name := "hoursOf", desc := "(I)I" } : Jvm.MethodName) prog_14_method_19_code (2 : Nat) (Option.some Jvm.ClassFile.FieldType.int)) : Jvm.Cond) ∈ am_T := am_mem (am_c4 (List.mem_of_getElem? (i := 131) rfl)) rfl
theorem tw_852 : ((Jvm.Cond.fieldLink "DawnTalesModel" (7 : Nat) "DawnTalesModel" "text" "[I") : Jvm.Cond) ∈ am_T := am_mem (am_c4 (List.mem_of_getElem? (i := 132) rfl)) rfl
theorem tw_853 : ((Jvm.Cond.fieldLink "DawnTalesModel" (67 : Nat) "DawnTalesModel" "size" "I") : Jvm.Cond) ∈ am_T := am_mem (am_c4 (List.mem_of_getElem? (i := 133) rfl)) rfl
theorem tw_854 : ((Jvm.Cond.fieldLink "DawnTalesModel" (79 : Nat) "DawnTalesModel" "at" "I") : Jvm.Cond) ∈ am_T := am_mem (am_c4 (List.mem_of_getElem? (i := 134) rfl)) rfl
theorem tw_855 : ((Jvm.Cond.fieldLink "DawnTalesModel" (89 : Nat) "DawnTalesModel" "begin" "I") : Jvm.Cond) ∈ am_T := am_mem (am_c4 (List.mem_of_getElem? (i := 135) rfl)) rfl
theorem tw_856 : ((Jvm.Cond.fieldLink "DawnTalesModel" (92 : Nat) "DawnTalesModel" "token" "I") : Jvm.Cond) ∈ am_T := am_mem (am_c4 (List.mem_of_getElem? (i := 136) rfl)) rfl
theorem tw_857 : ((Jvm.Cond.fieldLink "DawnTalesModel" (82 : Nat) "DawnTalesModel" "told" "I") : Jvm.Cond) ∈ am_T := am_mem (am_c4 (List.mem_of_getElem? (i := 137) rfl)) rfl
theorem tw_858 : ((Jvm.Cond.fieldLink "DawnTalesModel" (107 : Nat) "DawnTalesModel" "readTales" "I") : Jvm.Cond) ∈ am_T := am_mem (am_c4 (List.mem_of_getElem? (i := 138) rfl)) rfl
theorem tw_859 : ((Jvm.Cond.fieldLink "DawnTalesModel" (114 : Nat) "DawnTalesModel" "readNights" "I") : Jvm.Cond) ∈ am_T := am_mem (am_c4 (List.mem_of_getElem? (i := 139) rfl)) rfl
theorem tw_860 : ((Jvm.Cond.fieldLink "DawnTalesModel" (125 : Nat) "DawnTalesModel" "readMemory" "I") : Jvm.Cond) ∈ am_T := am_mem (am_c4 (List.mem_of_getElem? (i := 140) rfl)) rfl
theorem tw_861 : ((Jvm.Cond.fieldLink "DawnTalesModel" (128 : Nat) "DawnTalesModel" "readDepth" "I") : Jvm.Cond) ∈ am_T := am_mem (am_c4 (List.mem_of_getElem? (i := 141) rfl)) rfl
theorem tw_862 : ((Jvm.Cond.fieldLink "DawnTalesModel" (13 : Nat) "DawnTalesModel" "readParts" "[I") : Jvm.Cond) ∈ am_T := am_mem (am_c4 (List.mem_of_getElem? (i := 142) rfl)) rfl
theorem tw_863 : ((Jvm.Cond.fieldLink "DawnTalesModel" (16 : Nat) "DawnTalesModel" "readWithin" "[I") : Jvm.Cond) ∈ am_T := am_mem (am_c4 (List.mem_of_getElem? (i := 143) rfl)) rfl
theorem tw_864 : ((Jvm.Cond.fieldLink "DawnTalesModel" (19 : Nat) "DawnTalesModel" "readHours" "[I") : Jvm.Cond) ∈ am_T := am_mem (am_c4 (List.mem_of_getElem? (i := 144) rfl)) rfl
theorem tw_865 : ((Jvm.Cond.fieldLink "DawnTalesModel" (137 : Nat) "DawnTalesModel" "tales" "I") : Jvm.Cond) ∈ am_T := am_mem (am_c4 (List.mem_of_getElem? (i := 145) rfl)) rfl
theorem tw_866 : ((Jvm.Cond.fieldLink "DawnTalesModel" (140 : Nat) "DawnTalesModel" "nights" "I") : Jvm.Cond) ∈ am_T := am_mem (am_c4 (List.mem_of_getElem? (i := 146) rfl)) rfl
theorem tw_867 : ((Jvm.Cond.fieldLink "DawnTalesModel" (143 : Nat) "DawnTalesModel" "memory" "I") : Jvm.Cond) ∈ am_T := am_mem (am_c4 (List.mem_of_getElem? (i := 147) rfl)) rfl
theorem tw_868 : ((Jvm.Cond.fieldLink "DawnTalesModel" (146 : Nat) "DawnTalesModel" "depth" "I") : Jvm.Cond) ∈ am_T := am_mem (am_c4 (List.mem_of_getElem? (i := 148) rfl)) rfl
theorem tw_869 : ((Jvm.Cond.fieldLink "DawnTalesModel" (22 : Nat) "DawnTalesModel" "parts" "[I") : Jvm.Cond) ∈ am_T := am_mem (am_c4 (List.mem_of_getElem? (i := 149) rfl)) rfl
theorem tw_870 : ((Jvm.Cond.fieldLink "DawnTalesModel" (25 : Nat) "DawnTalesModel" "within" "[I") : Jvm.Cond) ∈ am_T := am_mem (am_c4 (List.mem_of_getElem? (i := 150) rfl)) rfl
theorem tw_871 : ((Jvm.Cond.fieldLink "DawnTalesModel" (28 : Nat) "DawnTalesModel" "hours" "[I") : Jvm.Cond) ∈ am_T := am_mem (am_c4 (List.mem_of_getElem? (i := 151) rfl)) rfl
theorem tw_872 : ((Jvm.Cond.fieldLink "DawnTalesModel" (161 : Nat) "DawnTalesModel" "longer" "I") : Jvm.Cond) ∈ am_T := am_mem (am_c4 (List.mem_of_getElem? (i := 152) rfl)) rfl
theorem tw_873 : ((Jvm.Cond.fieldLink "DawnTalesModel" (31 : Nat) "DawnTalesModel" "now" "[I") : Jvm.Cond) ∈ am_T := am_mem (am_c4 (List.mem_of_getElem? (i := 153) rfl)) rfl
theorem tw_874 : ((Jvm.Cond.fieldLink "DawnTalesModel" (34 : Nat) "DawnTalesModel" "row" "[I") : Jvm.Cond) ∈ am_T := am_mem (am_c4 (List.mem_of_getElem? (i := 154) rfl)) rfl
theorem tw_875 : ((Jvm.Cond.fieldLink "DawnTalesModel" (152 : Nat) "DawnTalesModel" "saved" "I") : Jvm.Cond) ∈ am_T := am_mem (am_c4 (List.mem_of_getElem? (i := 155) rfl)) rfl
theorem tw_876 : ((Jvm.Cond.fieldLink "DawnTalesModel" (37 : Nat) "DawnTalesModel" "undone" "[I") : Jvm.Cond) ∈ am_T := am_mem (am_c4 (List.mem_of_getElem? (i := 156) rfl)) rfl
theorem tw_877 : ((Jvm.Cond.fieldLink "DawnTalesModel" (155 : Nat) "DawnTalesModel" "undos" "I") : Jvm.Cond) ∈ am_T := am_mem (am_c4 (List.mem_of_getElem? (i := 157) rfl)) rfl
theorem tw_878 : ((Jvm.Cond.fieldLink "DawnTalesModel" (40 : Nat) "DawnTalesModel" "order" "[I") : Jvm.Cond) ∈ am_T := am_mem (am_c4 (List.mem_of_getElem? (i := 158) rfl)) rfl
theorem tw_879 : ((Jvm.Cond.fieldLink "DawnTalesModel" (199 : Nat) "DawnTalesModel" "many" "I") : Jvm.Cond) ∈ am_T := am_mem (am_c4 (List.mem_of_getElem? (i := 159) rfl)) rfl
theorem tw_880 : ((Jvm.Cond.fieldLink "DawnTalesModel" (43 : Nat) "DawnTalesModel" "opens" "[I") : Jvm.Cond) ∈ am_T := am_mem (am_c4 (List.mem_of_getElem? (i := 160) rfl)) rfl
theorem tw_881 : ((Jvm.Cond.fieldLink "DawnTalesModel" (46 : Nat) "DawnTalesModel" "sets" "[I") : Jvm.Cond) ∈ am_T := am_mem (am_c4 (List.mem_of_getElem? (i := 161) rfl)) rfl
theorem tw_882 : ((Jvm.Cond.fieldLink "DawnTalesModel" (213 : Nat) "DawnTalesModel" "bestDawns" "I") : Jvm.Cond) ∈ am_T := am_mem (am_c4 (List.mem_of_getElem? (i := 162) rfl)) rfl
theorem tw_883 : ((Jvm.Cond.fieldLink "DawnTalesModel" (216 : Nat) "DawnTalesModel" "bestRow" "I") : Jvm.Cond) ∈ am_T := am_mem (am_c4 (List.mem_of_getElem? (i := 163) rfl)) rfl
theorem tw_884 : ((Jvm.Cond.fieldLink "DawnTalesModel" (158 : Nat) "DawnTalesModel" "heards" "I") : Jvm.Cond) ∈ am_T := am_mem (am_c4 (List.mem_of_getElem? (i := 164) rfl)) rfl
theorem tw_885 : ((Jvm.Cond.fieldLink "DawnTalesModel" (49 : Nat) "DawnTalesModel" "heardWhen" "[I") : Jvm.Cond) ∈ am_T := am_mem (am_c4 (List.mem_of_getElem? (i := 165) rfl)) rfl
theorem tw_886 : ((Jvm.Cond.fieldLink "DawnTalesModel" (52 : Nat) "DawnTalesModel" "heardOpen" "[I") : Jvm.Cond) ∈ am_T := am_mem (am_c4 (List.mem_of_getElem? (i := 166) rfl)) rfl
theorem tw_887 : ((Jvm.Cond.fieldLink "DawnTalesModel" (245 : Nat) "DawnTalesModel" "trace" "J") : Jvm.Cond) ∈ am_T := am_mem (am_c4 (List.mem_of_getElem? (i := 167) rfl)) rfl
theorem tw_888 : ((Jvm.Cond.fieldLink "DawnTalesModel" (55 : Nat) "DawnTalesModel" "kept" "[I") : Jvm.Cond) ∈ am_T := am_mem (am_c4 (List.mem_of_getElem? (i := 168) rfl)) rfl
theorem tw_889 : ((Jvm.Cond.laysFinal "DawnTalesModel" "DawnTalesModel" "text" "[I") : Jvm.Cond) ∈ am_T := am_mem (am_c4 (List.mem_of_getElem? (i := 169) rfl)) rfl
theorem tw_891 : ((Jvm.Cond.lays "DawnTalesModel" "DawnTalesModel" "size" "I") : Jvm.Cond) ∈ am_T := am_mem (am_c4 (List.mem_of_getElem? (i := 171) rfl)) rfl
theorem tw_893 : ((Jvm.Cond.lays "DawnTalesModel" "DawnTalesModel" "at" "I") : Jvm.Cond) ∈ am_T := am_mem (am_c4 (List.mem_of_getElem? (i := 173) rfl)) rfl
theorem tw_895 : ((Jvm.Cond.lays "DawnTalesModel" "DawnTalesModel" "begin" "I") : Jvm.Cond) ∈ am_T := am_mem (am_c4 (List.mem_of_getElem? (i := 175) rfl)) rfl
theorem tw_897 : ((Jvm.Cond.lays "DawnTalesModel" "DawnTalesModel" "token" "I") : Jvm.Cond) ∈ am_T := am_mem (am_c4 (List.mem_of_getElem? (i := 177) rfl)) rfl
theorem tw_899 : ((Jvm.Cond.lays "DawnTalesModel" "DawnTalesModel" "told" "I") : Jvm.Cond) ∈ am_T := am_mem (am_c4 (List.mem_of_getElem? (i := 179) rfl)) rfl
theorem tw_901 : ((Jvm.Cond.lays "DawnTalesModel" "DawnTalesModel" "readTales" "I") : Jvm.Cond) ∈ am_T := am_mem (am_c4 (List.mem_of_getElem? (i := 181) rfl)) rfl
theorem tw_903 : ((Jvm.Cond.lays "DawnTalesModel" "DawnTalesModel" "readNights" "I") : Jvm.Cond) ∈ am_T := am_mem (am_c4 (List.mem_of_getElem? (i := 183) rfl)) rfl
theorem tw_905 : ((Jvm.Cond.lays "DawnTalesModel" "DawnTalesModel" "readMemory" "I") : Jvm.Cond) ∈ am_T := am_mem (am_c4 (List.mem_of_getElem? (i := 185) rfl)) rfl
theorem tw_907 : ((Jvm.Cond.lays "DawnTalesModel" "DawnTalesModel" "readDepth" "I") : Jvm.Cond) ∈ am_T := am_mem (am_c4 (List.mem_of_getElem? (i := 187) rfl)) rfl
theorem tw_909 : ((Jvm.Cond.laysFinal "DawnTalesModel" "DawnTalesModel" "readParts" "[I") : Jvm.Cond) ∈ am_T := am_mem (am_c4 (List.mem_of_getElem? (i := 189) rfl)) rfl
theorem tw_911 : ((Jvm.Cond.laysFinal "DawnTalesModel" "DawnTalesModel" "readWithin" "[I") : Jvm.Cond) ∈ am_T := am_mem (am_c4 (List.mem_of_getElem? (i := 191) rfl)) rfl
theorem tw_913 : ((Jvm.Cond.laysFinal "DawnTalesModel" "DawnTalesModel" "readHours" "[I") : Jvm.Cond) ∈ am_T := am_mem (am_c4 (List.mem_of_getElem? (i := 193) rfl)) rfl
theorem tw_915 : ((Jvm.Cond.lays "DawnTalesModel" "DawnTalesModel" "tales" "I") : Jvm.Cond) ∈ am_T := am_mem (am_c4 (List.mem_of_getElem? (i := 195) rfl)) rfl
theorem tw_917 : ((Jvm.Cond.lays "DawnTalesModel" "DawnTalesModel" "nights" "I") : Jvm.Cond) ∈ am_T := am_mem (am_c4 (List.mem_of_getElem? (i := 197) rfl)) rfl
theorem tw_919 : ((Jvm.Cond.lays "DawnTalesModel" "DawnTalesModel" "memory" "I") : Jvm.Cond) ∈ am_T := am_mem (am_c4 (List.mem_of_getElem? (i := 199) rfl)) rfl
theorem tw_921 : ((Jvm.Cond.lays "DawnTalesModel" "DawnTalesModel" "depth" "I") : Jvm.Cond) ∈ am_T := am_mem (am_c4 (List.mem_of_getElem? (i := 201) rfl)) rfl
theorem tw_923 : ((Jvm.Cond.laysFinal "DawnTalesModel" "DawnTalesModel" "parts" "[I") : Jvm.Cond) ∈ am_T := am_mem (am_c4 (List.mem_of_getElem? (i := 203) rfl)) rfl
theorem tw_925 : ((Jvm.Cond.laysFinal "DawnTalesModel" "DawnTalesModel" "within" "[I") : Jvm.Cond) ∈ am_T := am_mem (am_c4 (List.mem_of_getElem? (i := 205) rfl)) rfl
theorem tw_927 : ((Jvm.Cond.laysFinal "DawnTalesModel" "DawnTalesModel" "hours" "[I") : Jvm.Cond) ∈ am_T := am_mem (am_c4 (List.mem_of_getElem? (i := 207) rfl)) rfl
theorem tw_929 : ((Jvm.Cond.lays "DawnTalesModel" "DawnTalesModel" "longer" "I") : Jvm.Cond) ∈ am_T := am_mem (am_c4 (List.mem_of_getElem? (i := 209) rfl)) rfl
theorem tw_931 : ((Jvm.Cond.laysFinal "DawnTalesModel" "DawnTalesModel" "now" "[I") : Jvm.Cond) ∈ am_T := am_mem (am_c4 (List.mem_of_getElem? (i := 211) rfl)) rfl
theorem tw_933 : ((Jvm.Cond.laysFinal "DawnTalesModel" "DawnTalesModel" "row" "[I") : Jvm.Cond) ∈ am_T := am_mem (am_c4 (List.mem_of_getElem? (i := 213) rfl)) rfl
theorem tw_935 : ((Jvm.Cond.lays "DawnTalesModel" "DawnTalesModel" "saved" "I") : Jvm.Cond) ∈ am_T := am_mem (am_c4 (List.mem_of_getElem? (i := 215) rfl)) rfl
theorem tw_937 : ((Jvm.Cond.laysFinal "DawnTalesModel" "DawnTalesModel" "undone" "[I") : Jvm.Cond) ∈ am_T := am_mem (am_c4 (List.mem_of_getElem? (i := 217) rfl)) rfl
theorem tw_939 : ((Jvm.Cond.lays "DawnTalesModel" "DawnTalesModel" "undos" "I") : Jvm.Cond) ∈ am_T := am_mem (am_c4 (List.mem_of_getElem? (i := 219) rfl)) rfl
theorem tw_941 : ((Jvm.Cond.laysFinal "DawnTalesModel" "DawnTalesModel" "order" "[I") : Jvm.Cond) ∈ am_T := am_mem (am_c4 (List.mem_of_getElem? (i := 221) rfl)) rfl
theorem tw_943 : ((Jvm.Cond.lays "DawnTalesModel" "DawnTalesModel" "many" "I") : Jvm.Cond) ∈ am_T := am_mem (am_c4 (List.mem_of_getElem? (i := 223) rfl)) rfl
theorem tw_945 : ((Jvm.Cond.laysFinal "DawnTalesModel" "DawnTalesModel" "opens" "[I") : Jvm.Cond) ∈ am_T := am_mem (am_c4 (List.mem_of_getElem? (i := 225) rfl)) rfl
theorem tw_947 : ((Jvm.Cond.laysFinal "DawnTalesModel" "DawnTalesModel" "sets" "[I") : Jvm.Cond) ∈ am_T := am_mem (am_c4 (List.mem_of_getElem? (i := 227) rfl)) rfl
theorem tw_949 : ((Jvm.Cond.lays "DawnTalesModel" "DawnTalesModel" "bestDawns" "I") : Jvm.Cond) ∈ am_T := am_mem (am_c4 (List.mem_of_getElem? (i := 229) rfl)) rfl
theorem tw_951 : ((Jvm.Cond.lays "DawnTalesModel" "DawnTalesModel" "bestRow" "I") : Jvm.Cond) ∈ am_T := am_mem (am_c4 (List.mem_of_getElem? (i := 231) rfl)) rfl
theorem tw_953 : ((Jvm.Cond.lays "DawnTalesModel" "DawnTalesModel" "heards" "I") : Jvm.Cond) ∈ am_T := am_mem (am_c4 (List.mem_of_getElem? (i := 233) rfl)) rfl
theorem tw_955 : ((Jvm.Cond.laysFinal "DawnTalesModel" "DawnTalesModel" "heardWhen" "[I") : Jvm.Cond) ∈ am_T := am_mem (am_c4 (List.mem_of_getElem? (i := 235) rfl)) rfl
theorem tw_957 : ((Jvm.Cond.laysFinal "DawnTalesModel" "DawnTalesModel" "heardOpen" "[I") : Jvm.Cond) ∈ am_T := am_mem (am_c4 (List.mem_of_getElem? (i := 237) rfl)) rfl
theorem tw_959 : ((Jvm.Cond.lays "DawnTalesModel" "DawnTalesModel" "trace" "J") : Jvm.Cond) ∈ am_T := am_mem (am_c4 (List.mem_of_getElem? (i := 239) rfl)) rfl
theorem tw_961 : ((Jvm.Cond.laysFinal "DawnTalesModel" "DawnTalesModel" "kept" "[I") : Jvm.Cond) ∈ am_T := am_mem (am_c5 (List.mem_of_getElem? (i := 1) rfl)) rfl
theorem tw_963 : ((Jvm.Cond.superclass "DawnTalesModel" "java/lang/Object") : Jvm.Cond) ∈ am_T := am_mem (am_c5 (List.mem_of_getElem? (i := 3) rfl)) rfl
theorem tw_964 : ((Jvm.Cond.methodLink "DawnTalesLaw" (17 : Nat) ({ cls := "DawnTalesModel", name := "type", desc := "(I)I" } : Jvm.MethodName)) : Jvm.Cond) ∈ am_T := am_mem (am_c5 (List.mem_of_getElem? (i := 4) rfl)) rfl
theorem tw_965 : ((Jvm.Cond.instanceMethod ({ cls := "DawnTalesModel", name := "type", desc := "(I)I" } : Jvm.MethodName)) : Jvm.Cond) ∈ am_T := am_mem (am_c5 (List.mem_of_getElem? (i := 5) rfl)) rfl
theorem tw_966 : ((Jvm.Cond.selects "DawnTalesModel" ({ cls := "DawnTalesModel", name := "type", desc := "(I)I" } : Jvm.MethodName) ({ cls := "DawnTalesModel", name := "type", desc := "(I)I" } : Jvm.MethodName)) : Jvm.Cond) ∈ am_T := am_mem (am_c5 (List.mem_of_getElem? (i := 6) rfl)) rfl
theorem tw_967 : ((Jvm.Cond.code ({ cls := "DawnTalesModel", name := "type", desc := "(I)I" } : Jvm.MethodName) prog_14_method_4_code (2 : Nat) (Option.some Jvm.ClassFile.FieldType.int)) : Jvm.Cond) ∈ am_T := am_mem (am_c5 (List.mem_of_getElem? (i := 7) rfl)) rfl
theorem tw_968 : ((Jvm.Cond.constantLong "DawnTalesModel" (61 : Nat) (255 : Int64)) : Jvm.Cond) ∈ am_T := am_mem (am_c5 (List.mem_of_getElem? (i := 8) rfl)) rfl
theorem tw_969 : ((Jvm.Cond.methodLink "DawnTalesModel" (63 : Nat) ({ cls := "DawnTalesModel", name := "in", desc := "(JJJ)Z" } : Jvm.MethodName)) : Jvm.Cond) ∈ am_T := am_mem (am_c5 (List.mem_of_getElem? (i := 9) rfl)) rfl
theorem tw_970 : ((Jvm.Cond.static ({ cls := "DawnTalesModel", name := "in", desc := "(JJJ)Z" } : Jvm.MethodName)) : Jvm.Cond) ∈ am_T := am_mem (am_c5 (List.mem_of_getElem? (i := 10) rfl)) rfl
theorem tw_971 : ((Jvm.Cond.code ({ cls := "DawnTalesModel", name := "in", desc := "(JJJ)Z" } : Jvm.MethodName) prog_14_method_2_code (6 : Nat) (Option.some Jvm.ClassFile.FieldType.boolean)) : Jvm.Cond) ∈ am_T := am_mem (am_c5 (List.mem_of_getElem? (i := 11) rfl)) rfl
theorem tw_972 : ((Jvm.Cond.methodLink "DawnTalesLaw" (22 : Nat) ({ cls := "DawnTalesModel", name := "clear", desc := "()I" } : Jvm.MethodName)) : Jvm.Cond) ∈ am_T := am_mem (am_c5 (List.mem_of_getElem? (i := 12) rfl)) rfl
theorem tw_973 : ((Jvm.Cond.instanceMethod ({ cls := "DawnTalesModel", name := "clear", desc := "()I" } : Jvm.MethodName)) : Jvm.Cond) ∈ am_T := am_mem (am_c5 (List.mem_of_getElem? (i := 13) rfl)) rfl
theorem tw_974 : ((Jvm.Cond.selects "DawnTalesModel" ({ cls := "DawnTalesModel", name := "clear", desc := "()I" } : Jvm.MethodName) ({ cls := "DawnTalesModel", name := "clear", desc := "()I" } : Jvm.MethodName)) : Jvm.Cond) ∈ am_T := am_mem (am_c5 (List.mem_of_getElem? (i := 14) rfl)) rfl
theorem tw_975 : ((Jvm.Cond.code ({ cls := "DawnTalesModel", name := "clear", desc := "()I" } : Jvm.MethodName) prog_14_method_5_code (2 : Nat) (Option.some Jvm.ClassFile.FieldType.int)) : Jvm.Cond) ∈ am_T := am_mem (am_c5 (List.mem_of_getElem? (i := 15) rfl)) rfl
theorem tw_976 : ((Jvm.Cond.methodLink "DawnTalesLaw" (26 : Nat) ({ cls := "DawnTalesModel", name := "tales", desc := "()I" } : Jvm.MethodName)) : Jvm.Cond) ∈ am_T := am_mem (am_c5 (List.mem_of_getElem? (i := 16) rfl)) rfl
theorem tw_977 : ((Jvm.Cond.instanceMethod ({ cls := "DawnTalesModel", name := "tales", desc := "()I" } : Jvm.MethodName)) : Jvm.Cond) ∈ am_T := am_mem (am_c5 (List.mem_of_getElem? (i := 17) rfl)) rfl
theorem tw_978 : ((Jvm.Cond.selects "DawnTalesModel" ({ cls := "DawnTalesModel", name := "tales", desc := "()I" } : Jvm.MethodName) ({ cls := "DawnTalesModel", name := "tales", desc := "()I" } : Jvm.MethodName)) : Jvm.Cond) ∈ am_T := am_mem (am_c5 (List.mem_of_getElem? (i := 18) rfl)) rfl
theorem tw_979 : ((Jvm.Cond.code ({ cls := "DawnTalesModel", name := "tales", desc := "()I" } : Jvm.MethodName) prog_14_method_15_code (2 : Nat) (Option.some Jvm.ClassFile.FieldType.int)) : Jvm.Cond) ∈ am_T := am_mem (am_c5 (List.mem_of_getElem? (i := 19) rfl)) rfl
theorem tw_980 : ((Jvm.Cond.methodLink "DawnTalesModel" (104 : Nat) ({ cls := "DawnTalesModel", name := "reads", desc := "()V" } : Jvm.MethodName)) : Jvm.Cond) ∈ am_T := am_mem (am_c5 (List.mem_of_getElem? (i := 20) rfl)) rfl
theorem tw_982 : ((Jvm.Cond.instanceMethod ({ cls := "DawnTalesModel", name := "reads", desc := "()V" } : Jvm.MethodName)) : Jvm.Cond) ∈ am_T := am_mem (am_c5 (List.mem_of_getElem? (i := 22) rfl)) rfl
theorem tw_983 : ((Jvm.Cond.code ({ cls := "DawnTalesModel", name := "reads", desc := "()V" } : Jvm.MethodName) prog_14_method_10_code (1 : Nat) (Option.none : Option Jvm.ClassFile.FieldType)) : Jvm.Cond) ∈ am_T := am_mem (am_c5 (List.mem_of_getElem? (i := 23) rfl)) rfl
theorem tw_984 : ((Jvm.Cond.methodLink "DawnTalesModel" (85 : Nat) ({ cls := "DawnTalesModel", name := "isLetter", desc := "(I)Z" } : Jvm.MethodName)) : Jvm.Cond) ∈ am_T := am_mem (am_c5 (List.mem_of_getElem? (i := 24) rfl)) rfl
theorem tw_985 : ((Jvm.Cond.static ({ cls := "DawnTalesModel", name := "isLetter", desc := "(I)Z" } : Jvm.MethodName)) : Jvm.Cond) ∈ am_T := am_mem (am_c5 (List.mem_of_getElem? (i := 25) rfl)) rfl
theorem tw_986 : ((Jvm.Cond.code ({ cls := "DawnTalesModel", name := "isLetter", desc := "(I)Z" } : Jvm.MethodName) prog_14_method_6_code (1 : Nat) (Option.some Jvm.ClassFile.FieldType.boolean)) : Jvm.Cond) ∈ am_T := am_mem (am_c5 (List.mem_of_getElem? (i := 26) rfl)) rfl
theorem tw_987 : ((Jvm.Cond.constantLong "DawnTalesModel" (71 : Nat) (97 : Int64)) : Jvm.Cond) ∈ am_T := am_mem (am_c5 (List.mem_of_getElem? (i := 27) rfl)) rfl
theorem tw_988 : ((Jvm.Cond.constantLong "DawnTalesModel" (73 : Nat) (122 : Int64)) : Jvm.Cond) ∈ am_T := am_mem (am_c5 (List.mem_of_getElem? (i := 28) rfl)) rfl
theorem tw_989 : ((Jvm.Cond.methodLink "DawnTalesModel" (98 : Nat) ({ cls := "DawnTalesModel", name := "readLetters", desc := "()V" } : Jvm.MethodName)) : Jvm.Cond) ∈ am_T := am_mem (am_c5 (List.mem_of_getElem? (i := 29) rfl)) rfl
theorem tw_991 : ((Jvm.Cond.instanceMethod ({ cls := "DawnTalesModel", name := "readLetters", desc := "()V" } : Jvm.MethodName)) : Jvm.Cond) ∈ am_T := am_mem (am_c5 (List.mem_of_getElem? (i := 31) rfl)) rfl
theorem tw_992 : ((Jvm.Cond.code ({ cls := "DawnTalesModel", name := "readLetters", desc := "()V" } : Jvm.MethodName) prog_14_method_8_code (1 : Nat) (Option.none : Option Jvm.ClassFile.FieldType)) : Jvm.Cond) ∈ am_T := am_mem (am_c5 (List.mem_of_getElem? (i := 32) rfl)) rfl
theorem tw_993 : ((Jvm.Cond.methodLink "DawnTalesModel" (95 : Nat) ({ cls := "DawnTalesModel", name := "isFigure", desc := "(I)Z" } : Jvm.MethodName)) : Jvm.Cond) ∈ am_T := am_mem (am_c5 (List.mem_of_getElem? (i := 33) rfl)) rfl
theorem tw_994 : ((Jvm.Cond.static ({ cls := "DawnTalesModel", name := "isFigure", desc := "(I)Z" } : Jvm.MethodName)) : Jvm.Cond) ∈ am_T := am_mem (am_c5 (List.mem_of_getElem? (i := 34) rfl)) rfl
theorem tw_995 : ((Jvm.Cond.code ({ cls := "DawnTalesModel", name := "isFigure", desc := "(I)Z" } : Jvm.MethodName) prog_14_method_7_code (1 : Nat) (Option.some Jvm.ClassFile.FieldType.boolean)) : Jvm.Cond) ∈ am_T := am_mem (am_c5 (List.mem_of_getElem? (i := 35) rfl)) rfl
theorem tw_996 : ((Jvm.Cond.constantLong "DawnTalesModel" (75 : Nat) (48 : Int64)) : Jvm.Cond) ∈ am_T := am_mem (am_c5 (List.mem_of_getElem? (i := 36) rfl)) rfl
theorem tw_997 : ((Jvm.Cond.constantLong "DawnTalesModel" (77 : Nat) (57 : Int64)) : Jvm.Cond) ∈ am_T := am_mem (am_c5 (List.mem_of_getElem? (i := 37) rfl)) rfl
theorem tw_998 : ((Jvm.Cond.methodLink "DawnTalesModel" (101 : Nat) ({ cls := "DawnTalesModel", name := "readNumber", desc := "()V" } : Jvm.MethodName)) : Jvm.Cond) ∈ am_T := am_mem (am_c5 (List.mem_of_getElem? (i := 38) rfl)) rfl
theorem tw_1000 : ((Jvm.Cond.instanceMethod ({ cls := "DawnTalesModel", name := "readNumber", desc := "()V" } : Jvm.MethodName)) : Jvm.Cond) ∈ am_T := am_mem (am_c5 (List.mem_of_getElem? (i := 40) rfl)) rfl
theorem tw_1001 : ((Jvm.Cond.code ({ cls := "DawnTalesModel", name := "readNumber", desc := "()V" } : Jvm.MethodName) prog_14_method_9_code (2 : Nat) (Option.none : Option Jvm.ClassFile.FieldType)) : Jvm.Cond) ∈ am_T := am_mem (am_c5 (List.mem_of_getElem? (i := 41) rfl)) rfl
theorem tw_1002 : ((Jvm.Cond.methodLink "DawnTalesModel" (131 : Nat) ({ cls := "DawnTalesModel", name := "readItem", desc := "()Z" } : Jvm.MethodName)) : Jvm.Cond) ∈ am_T := am_mem (am_c5 (List.mem_of_getElem? (i := 42) rfl)) rfl
theorem tw_1004 : ((Jvm.Cond.instanceMethod ({ cls := "DawnTalesModel", name := "readItem", desc := "()Z" } : Jvm.MethodName)) : Jvm.Cond) ∈ am_T := am_mem (am_c5 (List.mem_of_getElem? (i := 44) rfl)) rfl
theorem tw_1005 : ((Jvm.Cond.code ({ cls := "DawnTalesModel", name := "readItem", desc := "()Z" } : Jvm.MethodName) prog_14_method_14_code (2 : Nat) (Option.some Jvm.ClassFile.FieldType.boolean)) : Jvm.Cond) ∈ am_T := am_mem (am_c5 (List.mem_of_getElem? (i := 45) rfl)) rfl
theorem tw_1006 : ((Jvm.Cond.methodLink "DawnTalesModel" (119 : Nat) ({ cls := "DawnTalesModel", name := "readTale", desc := "()Z" } : Jvm.MethodName)) : Jvm.Cond) ∈ am_T := am_mem (am_c5 (List.mem_of_getElem? (i := 46) rfl)) rfl
theorem tw_1008 : ((Jvm.Cond.instanceMethod ({ cls := "DawnTalesModel", name := "readTale", desc := "()Z" } : Jvm.MethodName)) : Jvm.Cond) ∈ am_T := am_mem (am_c5 (List.mem_of_getElem? (i := 48) rfl)) rfl
theorem tw_1009 : ((Jvm.Cond.code ({ cls := "DawnTalesModel", name := "readTale", desc := "()Z" } : Jvm.MethodName) prog_14_method_12_code (1 : Nat) (Option.some Jvm.ClassFile.FieldType.boolean)) : Jvm.Cond) ∈ am_T := am_mem (am_c5 (List.mem_of_getElem? (i := 49) rfl)) rfl
theorem tw_1010 : ((Jvm.Cond.methodLink "DawnTalesModel" (110 : Nat) ({ cls := "DawnTalesModel", name := "number", desc := "(II)Z" } : Jvm.MethodName)) : Jvm.Cond) ∈ am_T := am_mem (am_c5 (List.mem_of_getElem? (i := 50) rfl)) rfl
theorem tw_1012 : ((Jvm.Cond.instanceMethod ({ cls := "DawnTalesModel", name := "number", desc := "(II)Z" } : Jvm.MethodName)) : Jvm.Cond) ∈ am_T := am_mem (am_c5 (List.mem_of_getElem? (i := 52) rfl)) rfl
theorem tw_1013 : ((Jvm.Cond.code ({ cls := "DawnTalesModel", name := "number", desc := "(II)Z" } : Jvm.MethodName) prog_14_method_11_code (3 : Nat) (Option.some Jvm.ClassFile.FieldType.boolean)) : Jvm.Cond) ∈ am_T := am_mem (am_c5 (List.mem_of_getElem? (i := 53) rfl)) rfl
theorem tw_1014 : ((Jvm.Cond.methodLink "DawnTalesModel" (123 : Nat) ({ cls := "DawnTalesModel", name := "readNights", desc := "()Z" } : Jvm.MethodName)) : Jvm.Cond) ∈ am_T := am_mem (am_c5 (List.mem_of_getElem? (i := 54) rfl)) rfl
theorem tw_1016 : ((Jvm.Cond.instanceMethod ({ cls := "DawnTalesModel", name := "readNights", desc := "()Z" } : Jvm.MethodName)) : Jvm.Cond) ∈ am_T := am_mem (am_c5 (List.mem_of_getElem? (i := 56) rfl)) rfl
theorem tw_1017 : ((Jvm.Cond.code ({ cls := "DawnTalesModel", name := "readNights", desc := "()Z" } : Jvm.MethodName) prog_14_method_13_code (1 : Nat) (Option.some Jvm.ClassFile.FieldType.boolean)) : Jvm.Cond) ∈ am_T := am_mem (am_c5 (List.mem_of_getElem? (i := 57) rfl)) rfl
theorem tw_1018 : ((Jvm.Cond.constantLong "DawnTalesModel" (117 : Nat) (9 : Int64)) : Jvm.Cond) ∈ am_T := am_mem (am_c5 (List.mem_of_getElem? (i := 58) rfl)) rfl
theorem tw_1019 : ((Jvm.Cond.methodLink "DawnTalesLaw" (31 : Nat) ({ cls := "DawnTalesModel", name := "tale", desc := "(II)I" } : Jvm.MethodName)) : Jvm.Cond) ∈ am_T := am_mem (am_c5 (List.mem_of_getElem? (i := 59) rfl)) rfl
theorem tw_1020 : ((Jvm.Cond.instanceMethod ({ cls := "DawnTalesModel", name := "tale", desc := "(II)I" } : Jvm.MethodName)) : Jvm.Cond) ∈ am_T := am_mem (am_c5 (List.mem_of_getElem? (i := 60) rfl)) rfl
theorem tw_1021 : ((Jvm.Cond.selects "DawnTalesModel" ({ cls := "DawnTalesModel", name := "tale", desc := "(II)I" } : Jvm.MethodName) ({ cls := "DawnTalesModel", name := "tale", desc := "(II)I" } : Jvm.MethodName)) : Jvm.Cond) ∈ am_T := am_mem (am_c5 (List.mem_of_getElem? (i := 61) rfl)) rfl
theorem tw_1022 : ((Jvm.Cond.code ({ cls := "DawnTalesModel", name := "tale", desc := "(II)I" } : Jvm.MethodName) prog_14_method_26_code (5 : Nat) (Option.some Jvm.ClassFile.FieldType.int)) : Jvm.Cond) ∈ am_T := am_mem (am_c5 (List.mem_of_getElem? (i := 62) rfl)) rfl
theorem tw_1023 : ((Jvm.Cond.methodLink "DawnTalesModel" (176 : Nat) ({ cls := "DawnTalesModel", name := "isTale", desc := "(I)Z" } : Jvm.MethodName)) : Jvm.Cond) ∈ am_T := am_mem (am_c5 (List.mem_of_getElem? (i := 63) rfl)) rfl
theorem tw_1025 : ((Jvm.Cond.instanceMethod ({ cls := "DawnTalesModel", name := "isTale", desc := "(I)Z" } : Jvm.MethodName)) : Jvm.Cond) ∈ am_T := am_mem (am_c5 (List.mem_of_getElem? (i := 65) rfl)) rfl
theorem tw_1026 : ((Jvm.Cond.code ({ cls := "DawnTalesModel", name := "isTale", desc := "(I)Z" } : Jvm.MethodName) prog_14_method_18_code (2 : Nat) (Option.some Jvm.ClassFile.FieldType.boolean)) : Jvm.Cond) ∈ am_T := am_mem (am_c5 (List.mem_of_getElem? (i := 66) rfl)) rfl
theorem tw_1027 : ((Jvm.Cond.methodLink "DawnTalesLaw" (35 : Nat) ({ cls := "DawnTalesModel", name := "hours", desc := "(I)I" } : Jvm.MethodName)) : Jvm.Cond) ∈ am_T := am_mem (am_c5 (List.mem_of_getElem? (i := 67) rfl)) rfl
theorem tw_1028 : ((Jvm.Cond.instanceMethod ({ cls := "DawnTalesModel", name := "hours", desc := "(I)I" } : Jvm.MethodName)) : Jvm.Cond) ∈ am_T := am_mem (am_c5 (List.mem_of_getElem? (i := 68) rfl)) rfl
theorem tw_1029 : ((Jvm.Cond.selects "DawnTalesModel" ({ cls := "DawnTalesModel", name := "hours", desc := "(I)I" } : Jvm.MethodName) ({ cls := "DawnTalesModel", name := "hours", desc := "(I)I" } : Jvm.MethodName)) : Jvm.Cond) ∈ am_T := am_mem (am_c5 (List.mem_of_getElem? (i := 69) rfl)) rfl
theorem tw_1030 : ((Jvm.Cond.code ({ cls := "DawnTalesModel", name := "hours", desc := "(I)I" } : Jvm.MethodName) prog_14_method_27_code (2 : Nat) (Option.some Jvm.ClassFile.FieldType.int)) : Jvm.Cond) ∈ am_T := am_mem (am_c5 (List.mem_of_getElem? (i := 70) rfl)) rfl
theorem tw_1031 : ((Jvm.Cond.constantLong "DawnTalesModel" (179 : Nat) (200 : Int64)) : Jvm.Cond) ∈ am_T := am_mem (am_c5 (List.mem_of_getElem? (i := 71) rfl)) rfl
theorem tw_1032 : ((Jvm.Cond.methodLink "DawnTalesLaw" (39 : Nat) ({ cls := "DawnTalesModel", name := "begins", desc := "(I)I" } : Jvm.MethodName)) : Jvm.Cond) ∈ am_T := am_mem (am_c5 (List.mem_of_getElem? (i := 72) rfl)) rfl
theorem tw_1033 : ((Jvm.Cond.instanceMethod ({ cls := "DawnTalesModel", name := "begins", desc := "(I)I" } : Jvm.MethodName)) : Jvm.Cond) ∈ am_T := am_mem (am_c5 (List.mem_of_getElem? (i := 73) rfl)) rfl
theorem tw_1034 : ((Jvm.Cond.selects "DawnTalesModel" ({ cls := "DawnTalesModel", name := "begins", desc := "(I)I" } : Jvm.MethodName) ({ cls := "DawnTalesModel", name := "begins", desc := "(I)I" } : Jvm.MethodName)) : Jvm.Cond) ∈ am_T := am_mem (am_c5 (List.mem_of_getElem? (i := 74) rfl)) rfl
theorem tw_1035 : ((Jvm.Cond.code ({ cls := "DawnTalesModel", name := "begins", desc := "(I)I" } : Jvm.MethodName) prog_14_method_30_code (2 : Nat) (Option.some Jvm.ClassFile.FieldType.int)) : Jvm.Cond) ∈ am_T := am_mem (am_c5 (List.mem_of_getElem? (i := 75) rfl)) rfl
theorem tw_1036 : ((Jvm.Cond.methodLink "DawnTalesModel" (181 : Nat) ({ cls := "DawnTalesModel", name := "has", desc := "()Z" } : Jvm.MethodName)) : Jvm.Cond) ∈ am_T := am_mem (am_c5 (List.mem_of_getElem? (i := 76) rfl)) rfl
theorem tw_1038 : ((Jvm.Cond.instanceMethod ({ cls := "DawnTalesModel", name := "has", desc := "()Z" } : Jvm.MethodName)) : Jvm.Cond) ∈ am_T := am_mem (am_c5 (List.mem_of_getElem? (i := 78) rfl)) rfl
theorem tw_1039 : ((Jvm.Cond.code ({ cls := "DawnTalesModel", name := "has", desc := "()Z" } : Jvm.MethodName) prog_14_method_29_code (1 : Nat) (Option.some Jvm.ClassFile.FieldType.boolean)) : Jvm.Cond) ∈ am_T := am_mem (am_c5 (List.mem_of_getElem? (i := 79) rfl)) rfl
theorem tw_1040 : ((Jvm.Cond.methodLink "DawnTalesModel" (184 : Nat) ({ cls := "DawnTalesModel", name := "mayBegin", desc := "([II)Z" } : Jvm.MethodName)) : Jvm.Cond) ∈ am_T := am_mem (am_c5 (List.mem_of_getElem? (i := 80) rfl)) rfl
theorem tw_1042 : ((Jvm.Cond.instanceMethod ({ cls := "DawnTalesModel", name := "mayBegin", desc := "([II)Z" } : Jvm.MethodName)) : Jvm.Cond) ∈ am_T := am_mem (am_c5 (List.mem_of_getElem? (i := 82) rfl)) rfl
theorem tw_1043 : ((Jvm.Cond.code ({ cls := "DawnTalesModel", name := "mayBegin", desc := "([II)Z" } : Jvm.MethodName) prog_14_method_22_code (3 : Nat) (Option.some Jvm.ClassFile.FieldType.boolean)) : Jvm.Cond) ∈ am_T := am_mem (am_c5 (List.mem_of_getElem? (i := 83) rfl)) rfl
theorem tw_1044 : ((Jvm.Cond.methodLink "DawnTalesModel" (168 : Nat) ({ cls := "DawnTalesModel", name := "inner", desc := "([I)I" } : Jvm.MethodName)) : Jvm.Cond) ∈ am_T := am_mem (am_c5 (List.mem_of_getElem? (i := 84) rfl)) rfl
theorem tw_1045 : ((Jvm.Cond.static ({ cls := "DawnTalesModel", name := "inner", desc := "([I)I" } : Jvm.MethodName)) : Jvm.Cond) ∈ am_T := am_mem (am_c5 (List.mem_of_getElem? (i := 85) rfl)) rfl
theorem tw_1046 : ((Jvm.Cond.code ({ cls := "DawnTalesModel", name := "inner", desc := "([I)I" } : Jvm.MethodName) prog_14_method_21_code (1 : Nat) (Option.some Jvm.ClassFile.FieldType.int)) : Jvm.Cond) ∈ am_T := am_mem (am_c5 (List.mem_of_getElem? (i := 86) rfl)) rfl
theorem tw_1047 : ((Jvm.Cond.methodLink "DawnTalesModel" (188 : Nat) ({ cls := "DawnTalesModel", name := "notes", desc := "()V" } : Jvm.MethodName)) : Jvm.Cond) ∈ am_T := am_mem (am_c5 (List.mem_of_getElem? (i := 87) rfl)) rfl
theorem tw_1049 : ((Jvm.Cond.instanceMethod ({ cls := "DawnTalesModel", name := "notes", desc := "()V" } : Jvm.MethodName)) : Jvm.Cond) ∈ am_T := am_mem (am_c5 (List.mem_of_getElem? (i := 89) rfl)) rfl
theorem tw_1050 : ((Jvm.Cond.code ({ cls := "DawnTalesModel", name := "notes", desc := "()V" } : Jvm.MethodName) prog_14_method_28_code (2 : Nat) (Option.none : Option Jvm.ClassFile.FieldType)) : Jvm.Cond) ∈ am_T := am_mem (am_c5 (List.mem_of_getElem? (i := 90) rfl)) rfl
theorem tw_1051 : ((Jvm.Cond.methodLink "DawnTalesModel" (191 : Nat) ({ cls := "DawnTalesModel", name := "goesIn", desc := "([II)V" } : Jvm.MethodName)) : Jvm.Cond) ∈ am_T := am_mem (am_c5 (List.mem_of_getElem? (i := 91) rfl)) rfl
theorem tw_1052 : ((Jvm.Cond.static ({ cls := "DawnTalesModel", name := "goesIn", desc := "([II)V" } : Jvm.MethodName)) : Jvm.Cond) ∈ am_T := am_mem (am_c5 (List.mem_of_getElem? (i := 92) rfl)) rfl
theorem tw_1053 : ((Jvm.Cond.code ({ cls := "DawnTalesModel", name := "goesIn", desc := "([II)V" } : Jvm.MethodName) prog_14_method_24_code (2 : Nat) (Option.none : Option Jvm.ClassFile.FieldType)) : Jvm.Cond) ∈ am_T := am_mem (am_c5 (List.mem_of_getElem? (i := 93) rfl)) rfl
theorem tw_1054 : ((Jvm.Cond.methodLink "DawnTalesModel" (172 : Nat) ({ cls := "DawnTalesModel", name := "goesOn", desc := "([I)V" } : Jvm.MethodName)) : Jvm.Cond) ∈ am_T := am_mem (am_c5 (List.mem_of_getElem? (i := 94) rfl)) rfl
theorem tw_1055 : ((Jvm.Cond.static ({ cls := "DawnTalesModel", name := "goesOn", desc := "([I)V" } : Jvm.MethodName)) : Jvm.Cond) ∈ am_T := am_mem (am_c5 (List.mem_of_getElem? (i := 95) rfl)) rfl
theorem tw_1056 : ((Jvm.Cond.code ({ cls := "DawnTalesModel", name := "goesOn", desc := "([I)V" } : Jvm.MethodName) prog_14_method_23_code (2 : Nat) (Option.none : Option Jvm.ClassFile.FieldType)) : Jvm.Cond) ∈ am_T := am_mem (am_c5 (List.mem_of_getElem? (i := 96) rfl)) rfl
theorem tw_1057 : ((Jvm.Cond.methodLink "DawnTalesLaw" (43 : Nat) ({ cls := "DawnTalesModel", name := "tells", desc := "()I" } : Jvm.MethodName)) : Jvm.Cond) ∈ am_T := am_mem (am_c5 (List.mem_of_getElem? (i := 97) rfl)) rfl
theorem tw_1058 : ((Jvm.Cond.instanceMethod ({ cls := "DawnTalesModel", name := "tells", desc := "()I" } : Jvm.MethodName)) : Jvm.Cond) ∈ am_T := am_mem (am_c5 (List.mem_of_getElem? (i := 98) rfl)) rfl
theorem tw_1059 : ((Jvm.Cond.selects "DawnTalesModel" ({ cls := "DawnTalesModel", name := "tells", desc := "()I" } : Jvm.MethodName) ({ cls := "DawnTalesModel", name := "tells", desc := "()I" } : Jvm.MethodName)) : Jvm.Cond) ∈ am_T := am_mem (am_c5 (List.mem_of_getElem? (i := 99) rfl)) rfl
theorem tw_1060 : ((Jvm.Cond.code ({ cls := "DawnTalesModel", name := "tells", desc := "()I" } : Jvm.MethodName) prog_14_method_31_code (1 : Nat) (Option.some Jvm.ClassFile.FieldType.int)) : Jvm.Cond) ∈ am_T := am_mem (am_c5 (List.mem_of_getElem? (i := 100) rfl)) rfl
theorem tw_1061 : ((Jvm.Cond.methodLink "DawnTalesLaw" (47 : Nat) ({ cls := "DawnTalesModel", name := "silent", desc := "()I" } : Jvm.MethodName)) : Jvm.Cond) ∈ am_T := am_mem (am_c5 (List.mem_of_getElem? (i := 101) rfl)) rfl
theorem tw_1062 : ((Jvm.Cond.instanceMethod ({ cls := "DawnTalesModel", name := "silent", desc := "()I" } : Jvm.MethodName)) : Jvm.Cond) ∈ am_T := am_mem (am_c5 (List.mem_of_getElem? (i := 102) rfl)) rfl
theorem tw_1063 : ((Jvm.Cond.selects "DawnTalesModel" ({ cls := "DawnTalesModel", name := "silent", desc := "()I" } : Jvm.MethodName) ({ cls := "DawnTalesModel", name := "silent", desc := "()I" } : Jvm.MethodName)) : Jvm.Cond) ∈ am_T := am_mem (am_c5 (List.mem_of_getElem? (i := 103) rfl)) rfl
theorem tw_1064 : ((Jvm.Cond.code ({ cls := "DawnTalesModel", name := "silent", desc := "()I" } : Jvm.MethodName) prog_14_method_32_code (1 : Nat) (Option.some Jvm.ClassFile.FieldType.int)) : Jvm.Cond) ∈ am_T := am_mem (am_c5 (List.mem_of_getElem? (i := 104) rfl)) rfl
theorem tw_1065 : ((Jvm.Cond.methodLink "DawnTalesLaw" (51 : Nat) ({ cls := "DawnTalesModel", name := "dawn", desc := "()I" } : Jvm.MethodName)) : Jvm.Cond) ∈ am_T := am_mem (am_c5 (List.mem_of_getElem? (i := 105) rfl)) rfl
theorem tw_1066 : ((Jvm.Cond.instanceMethod ({ cls := "DawnTalesModel", name := "dawn", desc := "()I" } : Jvm.MethodName)) : Jvm.Cond) ∈ am_T := am_mem (am_c5 (List.mem_of_getElem? (i := 106) rfl)) rfl
theorem tw_1067 : ((Jvm.Cond.selects "DawnTalesModel" ({ cls := "DawnTalesModel", name := "dawn", desc := "()I" } : Jvm.MethodName) ({ cls := "DawnTalesModel", name := "dawn", desc := "()I" } : Jvm.MethodName)) : Jvm.Cond) ∈ am_T := am_mem (am_c5 (List.mem_of_getElem? (i := 107) rfl)) rfl
theorem tw_1068 : ((Jvm.Cond.code ({ cls := "DawnTalesModel", name := "dawn", desc := "()I" } : Jvm.MethodName) prog_14_method_33_code (2 : Nat) (Option.some Jvm.ClassFile.FieldType.int)) : Jvm.Cond) ∈ am_T := am_mem (am_c5 (List.mem_of_getElem? (i := 108) rfl)) rfl
theorem tw_1069 : ((Jvm.Cond.methodLink "DawnTalesModel" (195 : Nat) ({ cls := "DawnTalesModel", name := "dawns", desc := "([I)Z" } : Jvm.MethodName)) : Jvm.Cond) ∈ am_T := am_mem (am_c5 (List.mem_of_getElem? (i := 109) rfl)) rfl
theorem tw_1071 : ((Jvm.Cond.instanceMethod ({ cls := "DawnTalesModel", name := "dawns", desc := "([I)Z" } : Jvm.MethodName)) : Jvm.Cond) ∈ am_T := am_mem (am_c5 (List.mem_of_getElem? (i := 111) rfl)) rfl
theorem tw_1072 : ((Jvm.Cond.code ({ cls := "DawnTalesModel", name := "dawns", desc := "([I)Z" } : Jvm.MethodName) prog_14_method_25_code (4 : Nat) (Option.some Jvm.ClassFile.FieldType.boolean)) : Jvm.Cond) ∈ am_T := am_mem (am_c5 (List.mem_of_getElem? (i := 112) rfl)) rfl
theorem tw_1073 : ((Jvm.Cond.methodLink "DawnTalesLaw" (55 : Nat) ({ cls := "DawnTalesModel", name := "undo", desc := "()I" } : Jvm.MethodName)) : Jvm.Cond) ∈ am_T := am_mem (am_c5 (List.mem_of_getElem? (i := 113) rfl)) rfl
theorem tw_1074 : ((Jvm.Cond.instanceMethod ({ cls := "DawnTalesModel", name := "undo", desc := "()I" } : Jvm.MethodName)) : Jvm.Cond) ∈ am_T := am_mem (am_c5 (List.mem_of_getElem? (i := 114) rfl)) rfl
theorem tw_1075 : ((Jvm.Cond.selects "DawnTalesModel" ({ cls := "DawnTalesModel", name := "undo", desc := "()I" } : Jvm.MethodName) ({ cls := "DawnTalesModel", name := "undo", desc := "()I" } : Jvm.MethodName)) : Jvm.Cond) ∈ am_T := am_mem (am_c5 (List.mem_of_getElem? (i := 115) rfl)) rfl
theorem tw_1076 : ((Jvm.Cond.code ({ cls := "DawnTalesModel", name := "undo", desc := "()I" } : Jvm.MethodName) prog_14_method_34_code (2 : Nat) (Option.some Jvm.ClassFile.FieldType.int)) : Jvm.Cond) ∈ am_T := am_mem (am_c5 (List.mem_of_getElem? (i := 116) rfl)) rfl
theorem tw_1077 : ((Jvm.Cond.methodLink "DawnTalesLaw" (59 : Nat) ({ cls := "DawnTalesModel", name := "now", desc := "(I)I" } : Jvm.MethodName)) : Jvm.Cond) ∈ am_T := am_mem (am_c5 (List.mem_of_getElem? (i := 117) rfl)) rfl
theorem tw_1078 : ((Jvm.Cond.instanceMethod ({ cls := "DawnTalesModel", name := "now", desc := "(I)I" } : Jvm.MethodName)) : Jvm.Cond) ∈ am_T := am_mem (am_c5 (List.mem_of_getElem? (i := 118) rfl)) rfl
theorem tw_1079 : ((Jvm.Cond.selects "DawnTalesModel" ({ cls := "DawnTalesModel", name := "now", desc := "(I)I" } : Jvm.MethodName) ({ cls := "DawnTalesModel", name := "now", desc := "(I)I" } : Jvm.MethodName)) : Jvm.Cond) ∈ am_T := am_mem (am_c5 (List.mem_of_getElem? (i := 119) rfl)) rfl
theorem tw_1080 : ((Jvm.Cond.code ({ cls := "DawnTalesModel", name := "now", desc := "(I)I" } : Jvm.MethodName) prog_14_method_35_code (5 : Nat) (Option.some Jvm.ClassFile.FieldType.int)) : Jvm.Cond) ∈ am_T := am_mem (am_c5 (List.mem_of_getElem? (i := 120) rfl)) rfl
theorem tw_1081 : ((Jvm.Cond.methodLink "DawnTalesLaw" (63 : Nat) ({ cls := "DawnTalesModel", name := "on", desc := "()I" } : Jvm.MethodName)) : Jvm.Cond) ∈ am_T := am_mem (am_c5 (List.mem_of_getElem? (i := 121) rfl)) rfl
theorem tw_1082 : ((Jvm.Cond.instanceMethod ({ cls := "DawnTalesModel", name := "on", desc := "()I" } : Jvm.MethodName)) : Jvm.Cond) ∈ am_T := am_mem (am_c5 (List.mem_of_getElem? (i := 122) rfl)) rfl
theorem tw_1083 : ((Jvm.Cond.selects "DawnTalesModel" ({ cls := "DawnTalesModel", name := "on", desc := "()I" } : Jvm.MethodName) ({ cls := "DawnTalesModel", name := "on", desc := "()I" } : Jvm.MethodName)) : Jvm.Cond) ∈ am_T := am_mem (am_c5 (List.mem_of_getElem? (i := 123) rfl)) rfl
theorem tw_1084 : ((Jvm.Cond.code ({ cls := "DawnTalesModel", name := "on", desc := "()I" } : Jvm.MethodName) prog_14_method_36_code (2 : Nat) (Option.some Jvm.ClassFile.FieldType.int)) : Jvm.Cond) ∈ am_T := am_mem (am_c5 (List.mem_of_getElem? (i := 124) rfl)) rfl
theorem tw_1085 : ((Jvm.Cond.methodLink "DawnTalesLaw" (67 : Nat) ({ cls := "DawnTalesModel", name := "by", desc := "(I)I" } : Jvm.MethodName)) : Jvm.Cond) ∈ am_T := am_mem (am_c5 (List.mem_of_getElem? (i := 125) rfl)) rfl
theorem tw_1086 : ((Jvm.Cond.instanceMethod ({ cls := "DawnTalesModel", name := "by", desc := "(I)I" } : Jvm.MethodName)) : Jvm.Cond) ∈ am_T := am_mem (am_c5 (List.mem_of_getElem? (i := 126) rfl)) rfl
theorem tw_1087 : ((Jvm.Cond.selects "DawnTalesModel" ({ cls := "DawnTalesModel", name := "by", desc := "(I)I" } : Jvm.MethodName) ({ cls := "DawnTalesModel", name := "by", desc := "(I)I" } : Jvm.MethodName)) : Jvm.Cond) ∈ am_T := am_mem (am_c5 (List.mem_of_getElem? (i := 127) rfl)) rfl
theorem tw_1088 : ((Jvm.Cond.code ({ cls := "DawnTalesModel", name := "by", desc := "(I)I" } : Jvm.MethodName) prog_14_method_38_code (6 : Nat) (Option.some Jvm.ClassFile.FieldType.int)) : Jvm.Cond) ∈ am_T := am_mem (am_c5 (List.mem_of_getElem? (i := 128) rfl)) rfl
theorem tw_1089 : ((Jvm.Cond.constant "DawnTalesModel" (202 : Nat) (1000000 : Int32)) : Jvm.Cond) ∈ am_T := am_mem (am_c5 (List.mem_of_getElem? (i := 129) rfl)) rfl
theorem tw_1090 : ((Jvm.Cond.methodLink "DawnTalesModel" (203 : Nat) ({ cls := "DawnTalesModel", name := "saves", desc := "()I" } : Jvm.MethodName)) : Jvm.Cond) ∈ am_T := am_mem (am_c5 (List.mem_of_getElem? (i := 130) rfl)) rfl
theorem tw_1092 : ((Jvm.Cond.instanceMethod ({ cls := "DawnTalesModel", name := "saves", desc := "()I" } : Jvm.MethodName)) : Jvm.Cond) ∈ am_T := am_mem (am_c5 (List.mem_of_getElem? (i := 132) rfl)) rfl
theorem tw_1093 : ((Jvm.Cond.code ({ cls := "DawnTalesModel", name := "saves", desc := "()I" } : Jvm.MethodName) prog_14_method_37_code (4 : Nat) (Option.some Jvm.ClassFile.FieldType.int)) : Jvm.Cond) ∈ am_T := am_mem (am_c5 (List.mem_of_getElem? (i := 133) rfl)) rfl
theorem tw_1094 : ((Jvm.Cond.methodLink "DawnTalesLaw" (71 : Nat) ({ cls := "DawnTalesModel", name := "best", desc := "(I)I" } : Jvm.MethodName)) : Jvm.Cond) ∈ am_T := am_mem (am_c5 (List.mem_of_getElem? (i := 134) rfl)) rfl
theorem tw_1095 : ((Jvm.Cond.instanceMethod ({ cls := "DawnTalesModel", name := "best", desc := "(I)I" } : Jvm.MethodName)) : Jvm.Cond) ∈ am_T := am_mem (am_c5 (List.mem_of_getElem? (i := 135) rfl)) rfl
theorem tw_1096 : ((Jvm.Cond.selects "DawnTalesModel" ({ cls := "DawnTalesModel", name := "best", desc := "(I)I" } : Jvm.MethodName) ({ cls := "DawnTalesModel", name := "best", desc := "(I)I" } : Jvm.MethodName)) : Jvm.Cond) ∈ am_T := am_mem (am_c5 (List.mem_of_getElem? (i := 136) rfl)) rfl
theorem tw_1097 : ((Jvm.Cond.code ({ cls := "DawnTalesModel", name := "best", desc := "(I)I" } : Jvm.MethodName) prog_14_method_45_code (2 : Nat) (Option.some Jvm.ClassFile.FieldType.int)) : Jvm.Cond) ∈ am_T := am_mem (am_c5 (List.mem_of_getElem? (i := 137) rfl)) rfl
theorem tw_1098 : ((Jvm.Cond.methodLink "DawnTalesModel" (228 : Nat) ({ cls := "DawnTalesModel", name := "finds", desc := "()V" } : Jvm.MethodName)) : Jvm.Cond) ∈ am_T := am_mem (am_c5 (List.mem_of_getElem? (i := 138) rfl)) rfl
theorem tw_1100 : ((Jvm.Cond.instanceMethod ({ cls := "DawnTalesModel", name := "finds", desc := "()V" } : Jvm.MethodName)) : Jvm.Cond) ∈ am_T := am_mem (am_c5 (List.mem_of_getElem? (i := 140) rfl)) rfl
theorem tw_1101 : ((Jvm.Cond.code ({ cls := "DawnTalesModel", name := "finds", desc := "()V" } : Jvm.MethodName) prog_14_method_44_code (4 : Nat) (Option.none : Option Jvm.ClassFile.FieldType)) : Jvm.Cond) ∈ am_T := am_mem (am_c5 (List.mem_of_getElem? (i := 141) rfl)) rfl
theorem tw_1102 : ((Jvm.Cond.methodLink "DawnTalesModel" (219 : Nat) ({ cls := "DawnTalesModel", name := "starts", desc := "(I)Z" } : Jvm.MethodName)) : Jvm.Cond) ∈ am_T := am_mem (am_c5 (List.mem_of_getElem? (i := 142) rfl)) rfl
theorem tw_1104 : ((Jvm.Cond.instanceMethod ({ cls := "DawnTalesModel", name := "starts", desc := "(I)Z" } : Jvm.MethodName)) : Jvm.Cond) ∈ am_T := am_mem (am_c5 (List.mem_of_getElem? (i := 144) rfl)) rfl
theorem tw_1105 : ((Jvm.Cond.code ({ cls := "DawnTalesModel", name := "starts", desc := "(I)Z" } : Jvm.MethodName) prog_14_method_43_code (2 : Nat) (Option.some Jvm.ClassFile.FieldType.boolean)) : Jvm.Cond) ∈ am_T := am_mem (am_c5 (List.mem_of_getElem? (i := 145) rfl)) rfl
theorem tw_1106 : ((Jvm.Cond.methodLink "DawnTalesModel" (210 : Nat) ({ cls := "DawnTalesModel", name := "fills", desc := "(I)Z" } : Jvm.MethodName)) : Jvm.Cond) ∈ am_T := am_mem (am_c5 (List.mem_of_getElem? (i := 146) rfl)) rfl
theorem tw_1108 : ((Jvm.Cond.instanceMethod ({ cls := "DawnTalesModel", name := "fills", desc := "(I)Z" } : Jvm.MethodName)) : Jvm.Cond) ∈ am_T := am_mem (am_c5 (List.mem_of_getElem? (i := 148) rfl)) rfl
theorem tw_1109 : ((Jvm.Cond.code ({ cls := "DawnTalesModel", name := "fills", desc := "(I)Z" } : Jvm.MethodName) prog_14_method_42_code (3 : Nat) (Option.some Jvm.ClassFile.FieldType.boolean)) : Jvm.Cond) ∈ am_T := am_mem (am_c5 (List.mem_of_getElem? (i := 149) rfl)) rfl
theorem tw_1110 : ((Jvm.Cond.methodLink "DawnTalesModel" (207 : Nat) ({ cls := "DawnTalesModel", name := "isMet", desc := "(I)Z" } : Jvm.MethodName)) : Jvm.Cond) ∈ am_T := am_mem (am_c5 (List.mem_of_getElem? (i := 150) rfl)) rfl
theorem tw_1112 : ((Jvm.Cond.instanceMethod ({ cls := "DawnTalesModel", name := "isMet", desc := "(I)Z" } : Jvm.MethodName)) : Jvm.Cond) ∈ am_T := am_mem (am_c5 (List.mem_of_getElem? (i := 152) rfl)) rfl
theorem tw_1113 : ((Jvm.Cond.code ({ cls := "DawnTalesModel", name := "isMet", desc := "(I)Z" } : Jvm.MethodName) prog_14_method_41_code (4 : Nat) (Option.some Jvm.ClassFile.FieldType.boolean)) : Jvm.Cond) ∈ am_T := am_mem (am_c5 (List.mem_of_getElem? (i := 153) rfl)) rfl
theorem tw_1114 : ((Jvm.Cond.methodLink "DawnTalesModel" (222 : Nat) ({ cls := "DawnTalesModel", name := "code", desc := "()I" } : Jvm.MethodName)) : Jvm.Cond) ∈ am_T := am_mem (am_c5 (List.mem_of_getElem? (i := 154) rfl)) rfl
theorem tw_1116 : ((Jvm.Cond.instanceMethod ({ cls := "DawnTalesModel", name := "code", desc := "()I" } : Jvm.MethodName)) : Jvm.Cond) ∈ am_T := am_mem (am_c5 (List.mem_of_getElem? (i := 156) rfl)) rfl
theorem tw_1117 : ((Jvm.Cond.code ({ cls := "DawnTalesModel", name := "code", desc := "()I" } : Jvm.MethodName) prog_14_method_39_code (3 : Nat) (Option.some Jvm.ClassFile.FieldType.int)) : Jvm.Cond) ∈ am_T := am_mem (am_c5 (List.mem_of_getElem? (i := 157) rfl)) rfl
theorem tw_1118 : ((Jvm.Cond.methodLink "DawnTalesModel" (225 : Nat) ({ cls := "DawnTalesModel", name := "turns", desc := "()Z" } : Jvm.MethodName)) : Jvm.Cond) ∈ am_T := am_mem (am_c5 (List.mem_of_getElem? (i := 158) rfl)) rfl
theorem tw_1120 : ((Jvm.Cond.instanceMethod ({ cls := "DawnTalesModel", name := "turns", desc := "()Z" } : Jvm.MethodName)) : Jvm.Cond) ∈ am_T := am_mem (am_c5 (List.mem_of_getElem? (i := 160) rfl)) rfl
theorem tw_1121 : ((Jvm.Cond.code ({ cls := "DawnTalesModel", name := "turns", desc := "()Z" } : Jvm.MethodName) prog_14_method_40_code (2 : Nat) (Option.some Jvm.ClassFile.FieldType.boolean)) : Jvm.Cond) ∈ am_T := am_mem (am_c5 (List.mem_of_getElem? (i := 161) rfl)) rfl
theorem tw_1122 : ((Jvm.Cond.methodLink "DawnTalesLaw" (75 : Nat) ({ cls := "DawnTalesModel", name := "fewest", desc := "(II)I" } : Jvm.MethodName)) : Jvm.Cond) ∈ am_T := am_mem (am_c5 (List.mem_of_getElem? (i := 162) rfl)) rfl
theorem tw_1123 : ((Jvm.Cond.instanceMethod ({ cls := "DawnTalesModel", name := "fewest", desc := "(II)I" } : Jvm.MethodName)) : Jvm.Cond) ∈ am_T := am_mem (am_c5 (List.mem_of_getElem? (i := 163) rfl)) rfl
theorem tw_1124 : ((Jvm.Cond.selects "DawnTalesModel" ({ cls := "DawnTalesModel", name := "fewest", desc := "(II)I" } : Jvm.MethodName) ({ cls := "DawnTalesModel", name := "fewest", desc := "(II)I" } : Jvm.MethodName)) : Jvm.Cond) ∈ am_T := am_mem (am_c5 (List.mem_of_getElem? (i := 164) rfl)) rfl
theorem tw_1125 : ((Jvm.Cond.code ({ cls := "DawnTalesModel", name := "fewest", desc := "(II)I" } : Jvm.MethodName) prog_14_method_46_code (5 : Nat) (Option.some Jvm.ClassFile.FieldType.int)) : Jvm.Cond) ∈ am_T := am_mem (am_c5 (List.mem_of_getElem? (i := 165) rfl)) rfl
theorem tw_1126 : ((Jvm.Cond.constantLong "DawnTalesModel" (231 : Nat) (30 : Int64)) : Jvm.Cond) ∈ am_T := am_mem (am_c5 (List.mem_of_getElem? (i := 166) rfl)) rfl
theorem tw_1127 : ((Jvm.Cond.methodLink "DawnTalesLaw" (79 : Nat) ({ cls := "DawnTalesModel", name := "mind", desc := "(II)I" } : Jvm.MethodName)) : Jvm.Cond) ∈ am_T := am_mem (am_c5 (List.mem_of_getElem? (i := 167) rfl)) rfl
theorem tw_1128 : ((Jvm.Cond.instanceMethod ({ cls := "DawnTalesModel", name := "mind", desc := "(II)I" } : Jvm.MethodName)) : Jvm.Cond) ∈ am_T := am_mem (am_c5 (List.mem_of_getElem? (i := 168) rfl)) rfl
theorem tw_1129 : ((Jvm.Cond.selects "DawnTalesModel" ({ cls := "DawnTalesModel", name := "mind", desc := "(II)I" } : Jvm.MethodName) ({ cls := "DawnTalesModel", name := "mind", desc := "(II)I" } : Jvm.MethodName)) : Jvm.Cond) ∈ am_T := am_mem (am_c5 (List.mem_of_getElem? (i := 169) rfl)) rfl
theorem tw_1130 : ((Jvm.Cond.code ({ cls := "DawnTalesModel", name := "mind", desc := "(II)I" } : Jvm.MethodName) prog_14_method_47_code (10 : Nat) (Option.some Jvm.ClassFile.FieldType.int)) : Jvm.Cond) ∈ am_T := am_mem (am_c5 (List.mem_of_getElem? (i := 170) rfl)) rfl
theorem tw_1131 : ((Jvm.Cond.methodLink "DawnTalesLaw" (83 : Nat) ({ cls := "DawnTalesModel", name := "bars", desc := "(I)I" } : Jvm.MethodName)) : Jvm.Cond) ∈ am_T := am_mem (am_c5 (List.mem_of_getElem? (i := 171) rfl)) rfl
theorem tw_1132 : ((Jvm.Cond.instanceMethod ({ cls := "DawnTalesModel", name := "bars", desc := "(I)I" } : Jvm.MethodName)) : Jvm.Cond) ∈ am_T := am_mem (am_c5 (List.mem_of_getElem? (i := 172) rfl)) rfl
theorem tw_1133 : ((Jvm.Cond.selects "DawnTalesModel" ({ cls := "DawnTalesModel", name := "bars", desc := "(I)I" } : Jvm.MethodName) ({ cls := "DawnTalesModel", name := "bars", desc := "(I)I" } : Jvm.MethodName)) : Jvm.Cond) ∈ am_T := am_mem (am_c5 (List.mem_of_getElem? (i := 173) rfl)) rfl
theorem tw_1134 : ((Jvm.Cond.code ({ cls := "DawnTalesModel", name := "bars", desc := "(I)I" } : Jvm.MethodName) prog_14_method_48_code (8 : Nat) (Option.some Jvm.ClassFile.FieldType.int)) : Jvm.Cond) ∈ am_T := am_mem (am_c5 (List.mem_of_getElem? (i := 174) rfl)) rfl
theorem tw_1135 : ((Jvm.Cond.methodLink "DawnTalesLaw" (87 : Nat) ({ cls := "DawnTalesModel", name := "longer", desc := "()I" } : Jvm.MethodName)) : Jvm.Cond) ∈ am_T := am_mem (am_c5 (List.mem_of_getElem? (i := 175) rfl)) rfl
theorem tw_1136 : ((Jvm.Cond.instanceMethod ({ cls := "DawnTalesModel", name := "longer", desc := "()I" } : Jvm.MethodName)) : Jvm.Cond) ∈ am_T := am_mem (am_c5 (List.mem_of_getElem? (i := 176) rfl)) rfl
theorem tw_1137 : ((Jvm.Cond.selects "DawnTalesModel" ({ cls := "DawnTalesModel", name := "longer", desc := "()I" } : Jvm.MethodName) ({ cls := "DawnTalesModel", name := "longer", desc := "()I" } : Jvm.MethodName)) : Jvm.Cond) ∈ am_T := am_mem (am_c5 (List.mem_of_getElem? (i := 177) rfl)) rfl
theorem tw_1138 : ((Jvm.Cond.code ({ cls := "DawnTalesModel", name := "longer", desc := "()I" } : Jvm.MethodName) prog_14_method_49_code (2 : Nat) (Option.some Jvm.ClassFile.FieldType.int)) : Jvm.Cond) ∈ am_T := am_mem (am_c5 (List.mem_of_getElem? (i := 178) rfl)) rfl
theorem tw_1139 : ((Jvm.Cond.methodLink "DawnTalesLaw" (91 : Nat) ({ cls := "DawnTalesModel", name := "heard", desc := "(II)I" } : Jvm.MethodName)) : Jvm.Cond) ∈ am_T := am_mem (am_c5 (List.mem_of_getElem? (i := 179) rfl)) rfl
theorem tw_1140 : ((Jvm.Cond.instanceMethod ({ cls := "DawnTalesModel", name := "heard", desc := "(II)I" } : Jvm.MethodName)) : Jvm.Cond) ∈ am_T := am_mem (am_c5 (List.mem_of_getElem? (i := 180) rfl)) rfl
theorem tw_1141 : ((Jvm.Cond.selects "DawnTalesModel" ({ cls := "DawnTalesModel", name := "heard", desc := "(II)I" } : Jvm.MethodName) ({ cls := "DawnTalesModel", name := "heard", desc := "(II)I" } : Jvm.MethodName)) : Jvm.Cond) ∈ am_T := am_mem (am_c5 (List.mem_of_getElem? (i := 181) rfl)) rfl
theorem tw_1142 : ((Jvm.Cond.code ({ cls := "DawnTalesModel", name := "heard", desc := "(II)I" } : Jvm.MethodName) prog_14_method_50_code (3 : Nat) (Option.some Jvm.ClassFile.FieldType.int)) : Jvm.Cond) ∈ am_T := am_mem (am_c5 (List.mem_of_getElem? (i := 182) rfl)) rfl
theorem tw_1143 : ((Jvm.Cond.constantLong "DawnTalesModel" (233 : Nat) (6 : Int64)) : Jvm.Cond) ∈ am_T := am_mem (am_c5 (List.mem_of_getElem? (i := 183) rfl)) rfl
theorem tw_1144 : ((Jvm.Cond.methodLink "DawnTalesLaw" (95 : Nat) ({ cls := "DawnTalesModel", name := "forget", desc := "()I" } : Jvm.MethodName)) : Jvm.Cond) ∈ am_T := am_mem (am_c5 (List.mem_of_getElem? (i := 184) rfl)) rfl
theorem tw_1145 : ((Jvm.Cond.instanceMethod ({ cls := "DawnTalesModel", name := "forget", desc := "()I" } : Jvm.MethodName)) : Jvm.Cond) ∈ am_T := am_mem (am_c5 (List.mem_of_getElem? (i := 185) rfl)) rfl
theorem tw_1146 : ((Jvm.Cond.selects "DawnTalesModel" ({ cls := "DawnTalesModel", name := "forget", desc := "()I" } : Jvm.MethodName) ({ cls := "DawnTalesModel", name := "forget", desc := "()I" } : Jvm.MethodName)) : Jvm.Cond) ∈ am_T := am_mem (am_c5 (List.mem_of_getElem? (i := 186) rfl)) rfl
theorem tw_1147 : ((Jvm.Cond.code ({ cls := "DawnTalesModel", name := "forget", desc := "()I" } : Jvm.MethodName) prog_14_method_51_code (2 : Nat) (Option.some Jvm.ClassFile.FieldType.int)) : Jvm.Cond) ∈ am_T := am_mem (am_c5 (List.mem_of_getElem? (i := 187) rfl)) rfl
theorem tw_1148 : ((Jvm.Cond.methodLink "DawnTalesLaw" (99 : Nat) ({ cls := "DawnTalesModel", name := "orders", desc := "(I)I" } : Jvm.MethodName)) : Jvm.Cond) ∈ am_T := am_mem (am_c5 (List.mem_of_getElem? (i := 188) rfl)) rfl
theorem tw_1149 : ((Jvm.Cond.instanceMethod ({ cls := "DawnTalesModel", name := "orders", desc := "(I)I" } : Jvm.MethodName)) : Jvm.Cond) ∈ am_T := am_mem (am_c5 (List.mem_of_getElem? (i := 189) rfl)) rfl
theorem tw_1150 : ((Jvm.Cond.selects "DawnTalesModel" ({ cls := "DawnTalesModel", name := "orders", desc := "(I)I" } : Jvm.MethodName) ({ cls := "DawnTalesModel", name := "orders", desc := "(I)I" } : Jvm.MethodName)) : Jvm.Cond) ∈ am_T := am_mem (am_c5 (List.mem_of_getElem? (i := 190) rfl)) rfl
theorem tw_1151 : ((Jvm.Cond.code ({ cls := "DawnTalesModel", name := "orders", desc := "(I)I" } : Jvm.MethodName) prog_14_method_53_code (6 : Nat) (Option.some Jvm.ClassFile.FieldType.int)) : Jvm.Cond) ∈ am_T := am_mem (am_c5 (List.mem_of_getElem? (i := 191) rfl)) rfl
theorem tw_1152 : ((Jvm.Cond.methodLink "DawnTalesModel" (235 : Nat) ({ cls := "DawnTalesModel", name := "isHeard", desc := "(I)Z" } : Jvm.MethodName)) : Jvm.Cond) ∈ am_T := am_mem (am_c5 (List.mem_of_getElem? (i := 192) rfl)) rfl
theorem tw_1154 : ((Jvm.Cond.instanceMethod ({ cls := "DawnTalesModel", name := "isHeard", desc := "(I)Z" } : Jvm.MethodName)) : Jvm.Cond) ∈ am_T := am_mem (am_c5 (List.mem_of_getElem? (i := 194) rfl)) rfl
theorem tw_1155 : ((Jvm.Cond.code ({ cls := "DawnTalesModel", name := "isHeard", desc := "(I)Z" } : Jvm.MethodName) prog_14_method_52_code (4 : Nat) (Option.some Jvm.ClassFile.FieldType.boolean)) : Jvm.Cond) ∈ am_T := am_mem (am_c5 (List.mem_of_getElem? (i := 195) rfl)) rfl
theorem tw_1156 : ((Jvm.Cond.methodLink "DawnTalesLaw" (103 : Nat) ({ cls := "DawnTalesModel", name := "surely", desc := "(I)I" } : Jvm.MethodName)) : Jvm.Cond) ∈ am_T := am_mem (am_c5 (List.mem_of_getElem? (i := 196) rfl)) rfl
theorem tw_1157 : ((Jvm.Cond.instanceMethod ({ cls := "DawnTalesModel", name := "surely", desc := "(I)I" } : Jvm.MethodName)) : Jvm.Cond) ∈ am_T := am_mem (am_c5 (List.mem_of_getElem? (i := 197) rfl)) rfl
theorem tw_1158 : ((Jvm.Cond.selects "DawnTalesModel" ({ cls := "DawnTalesModel", name := "surely", desc := "(I)I" } : Jvm.MethodName) ({ cls := "DawnTalesModel", name := "surely", desc := "(I)I" } : Jvm.MethodName)) : Jvm.Cond) ∈ am_T := am_mem (am_c5 (List.mem_of_getElem? (i := 198) rfl)) rfl
theorem tw_1159 : ((Jvm.Cond.code ({ cls := "DawnTalesModel", name := "surely", desc := "(I)I" } : Jvm.MethodName) prog_14_method_54_code (6 : Nat) (Option.some Jvm.ClassFile.FieldType.int)) : Jvm.Cond) ∈ am_T := am_mem (am_c5 (List.mem_of_getElem? (i := 199) rfl)) rfl
theorem tw_1160 : ((Jvm.Cond.methodLink "DawnTalesLaw" (108 : Nat) ({ cls := "DawnTalesModel", name := "odds", desc := "(III)J" } : Jvm.MethodName)) : Jvm.Cond) ∈ am_T := am_mem (am_c5 (List.mem_of_getElem? (i := 200) rfl)) rfl
theorem tw_1161 : ((Jvm.Cond.instanceMethod ({ cls := "DawnTalesModel", name := "odds", desc := "(III)J" } : Jvm.MethodName)) : Jvm.Cond) ∈ am_T := am_mem (am_c5 (List.mem_of_getElem? (i := 201) rfl)) rfl
theorem tw_1162 : ((Jvm.Cond.selects "DawnTalesModel" ({ cls := "DawnTalesModel", name := "odds", desc := "(III)J" } : Jvm.MethodName) ({ cls := "DawnTalesModel", name := "odds", desc := "(III)J" } : Jvm.MethodName)) : Jvm.Cond) ∈ am_T := am_mem (am_c5 (List.mem_of_getElem? (i := 202) rfl)) rfl
theorem tw_1163 : ((Jvm.Cond.code ({ cls := "DawnTalesModel", name := "odds", desc := "(III)J" } : Jvm.MethodName) prog_14_method_55_code (14 : Nat) (Option.some Jvm.ClassFile.FieldType.long)) : Jvm.Cond) ∈ am_T := am_mem (am_c5 (List.mem_of_getElem? (i := 203) rfl)) rfl
theorem tw_1164 : ((Jvm.Cond.constantLong "DawnTalesModel" (238 : Nat) (10 : Int64)) : Jvm.Cond) ∈ am_T := am_mem (am_c5 (List.mem_of_getElem? (i := 204) rfl)) rfl
theorem tw_1165 : ((Jvm.Cond.constantLong "DawnTalesModel" (240 : Nat) (-1 : Int64)) : Jvm.Cond) ∈ am_T := am_mem (am_c5 (List.mem_of_getElem? (i := 205) rfl)) rfl
theorem tw_1166 : ((Jvm.Cond.methodLink "DawnTalesLaw" (112 : Nat) ({ cls := "DawnTalesModel", name := "mark", desc := "(II)I" } : Jvm.MethodName)) : Jvm.Cond) ∈ am_T := am_mem (am_c5 (List.mem_of_getElem? (i := 206) rfl)) rfl
theorem tw_1167 : ((Jvm.Cond.instanceMethod ({ cls := "DawnTalesModel", name := "mark", desc := "(II)I" } : Jvm.MethodName)) : Jvm.Cond) ∈ am_T := am_mem (am_c5 (List.mem_of_getElem? (i := 207) rfl)) rfl
theorem tw_1168 : ((Jvm.Cond.selects "DawnTalesModel" ({ cls := "DawnTalesModel", name := "mark", desc := "(II)I" } : Jvm.MethodName) ({ cls := "DawnTalesModel", name := "mark", desc := "(II)I" } : Jvm.MethodName)) : Jvm.Cond) ∈ am_T := am_mem (am_c5 (List.mem_of_getElem? (i := 208) rfl)) rfl
theorem tw_1169 : ((Jvm.Cond.code ({ cls := "DawnTalesModel", name := "mark", desc := "(II)I" } : Jvm.MethodName) prog_14_method_56_code (6 : Nat) (Option.some Jvm.ClassFile.FieldType.int)) : Jvm.Cond) ∈ am_T := am_mem (am_c5 (List.mem_of_getElem? (i := 209) rfl)) rfl
theorem tw_1170 : ((Jvm.Cond.constantLong "DawnTalesModel" (242 : Nat) (5 : Int64)) : Jvm.Cond) ∈ am_T := am_mem (am_c5 (List.mem_of_getElem? (i := 210) rfl)) rfl
theorem tw_1171 : ((Jvm.Cond.constant "DawnTalesModel" (244 : Nat) (-1000000 : Int32)) : Jvm.Cond) ∈ am_T := am_mem (am_c5 (List.mem_of_getElem? (i := 211) rfl)) rfl
theorem tw_1172 : ((Jvm.Cond.constantLong "DawnTalesModel" (249 : Nat) (11 : Int64)) : Jvm.Cond) ∈ am_T := am_mem (am_c5 (List.mem_of_getElem? (i := 212) rfl)) rfl
theorem tw_1173 : ((Jvm.Cond.constantLong "DawnTalesModel" (251 : Nat) (101 : Int64)) : Jvm.Cond) ∈ am_T := am_mem (am_c5 (List.mem_of_getElem? (i := 213) rfl)) rfl
theorem tw_1174 : ((Jvm.Cond.constantLong "DawnTalesModel" (253 : Nat) (1011 : Int64)) : Jvm.Cond) ∈ am_T := am_mem (am_c5 (List.mem_of_getElem? (i := 214) rfl)) rfl
theorem tw_1175 : ((Jvm.Cond.constantLong "DawnTalesModel" (255 : Nat) (10101 : Int64)) : Jvm.Cond) ∈ am_T := am_mem (am_c5 (List.mem_of_getElem? (i := 215) rfl)) rfl
theorem tw_1176 : ((Jvm.Cond.constantLong "DawnTalesModel" (257 : Nat) (100001 : Int64)) : Jvm.Cond) ∈ am_T := am_mem (am_c5 (List.mem_of_getElem? (i := 216) rfl)) rfl
theorem tw_1177 : ((Jvm.Cond.methodLink "DawnTalesLaw" (129 : Nat) ({ cls := "DawnTalesModel", name := "trace", desc := "()J" } : Jvm.MethodName)) : Jvm.Cond) ∈ am_T := am_mem (am_c5 (List.mem_of_getElem? (i := 217) rfl)) rfl
theorem tw_1178 : ((Jvm.Cond.instanceMethod ({ cls := "DawnTalesModel", name := "trace", desc := "()J" } : Jvm.MethodName)) : Jvm.Cond) ∈ am_T := am_mem (am_c5 (List.mem_of_getElem? (i := 218) rfl)) rfl
theorem tw_1179 : ((Jvm.Cond.selects "DawnTalesModel" ({ cls := "DawnTalesModel", name := "trace", desc := "()J" } : Jvm.MethodName) ({ cls := "DawnTalesModel", name := "trace", desc := "()J" } : Jvm.MethodName)) : Jvm.Cond) ∈ am_T := am_mem (am_c5 (List.mem_of_getElem? (i := 219) rfl)) rfl
theorem tw_1180 : ((Jvm.Cond.code ({ cls := "DawnTalesModel", name := "trace", desc := "()J" } : Jvm.MethodName) prog_14_method_57_code (1 : Nat) (Option.some Jvm.ClassFile.FieldType.long)) : Jvm.Cond) ∈ am_T := am_mem (am_c5 (List.mem_of_getElem? (i := 220) rfl)) rfl
theorem tw_1181 : ((Jvm.Cond.methodLink "DawnTalesLaw" (116 : Nat) ({ cls := "DawnTalesModel", name := "keep", desc := "(I)I" } : Jvm.MethodName)) : Jvm.Cond) ∈ am_T := am_mem (am_c5 (List.mem_of_getElem? (i := 221) rfl)) rfl
theorem tw_1182 : ((Jvm.Cond.instanceMethod ({ cls := "DawnTalesModel", name := "keep", desc := "(I)I" } : Jvm.MethodName)) : Jvm.Cond) ∈ am_T := am_mem (am_c5 (List.mem_of_getElem? (i := 222) rfl)) rfl
theorem tw_1183 : ((Jvm.Cond.selects "DawnTalesModel" ({ cls := "DawnTalesModel", name := "keep", desc := "(I)I" } : Jvm.MethodName) ({ cls := "DawnTalesModel", name := "keep", desc := "(I)I" } : Jvm.MethodName)) : Jvm.Cond) ∈ am_T := am_mem (am_c5 (List.mem_of_getElem? (i := 223) rfl)) rfl
theorem tw_1184 : ((Jvm.Cond.code ({ cls := "DawnTalesModel", name := "keep", desc := "(I)I" } : Jvm.MethodName) prog_14_method_58_code (4 : Nat) (Option.some Jvm.ClassFile.FieldType.int)) : Jvm.Cond) ∈ am_T := am_mem (am_c5 (List.mem_of_getElem? (i := 224) rfl)) rfl
theorem tw_1185 : ((Jvm.Cond.methodLink "DawnTalesLaw" (120 : Nat) ({ cls := "DawnTalesModel", name := "back", desc := "(I)I" } : Jvm.MethodName)) : Jvm.Cond) ∈ am_T := am_mem (am_c5 (List.mem_of_getElem? (i := 225) rfl)) rfl
theorem tw_1186 : ((Jvm.Cond.instanceMethod ({ cls := "DawnTalesModel", name := "back", desc := "(I)I" } : Jvm.MethodName)) : Jvm.Cond) ∈ am_T := am_mem (am_c5 (List.mem_of_getElem? (i := 226) rfl)) rfl
theorem tw_1187 : ((Jvm.Cond.selects "DawnTalesModel" ({ cls := "DawnTalesModel", name := "back", desc := "(I)I" } : Jvm.MethodName) ({ cls := "DawnTalesModel", name := "back", desc := "(I)I" } : Jvm.MethodName)) : Jvm.Cond) ∈ am_T := am_mem (am_c5 (List.mem_of_getElem? (i := 227) rfl)) rfl
theorem tw_1188 : ((Jvm.Cond.code ({ cls := "DawnTalesModel", name := "back", desc := "(I)I" } : Jvm.MethodName) prog_14_method_59_code (4 : Nat) (Option.some Jvm.ClassFile.FieldType.int)) : Jvm.Cond) ∈ am_T := am_mem (am_c5 (List.mem_of_getElem? (i := 228) rfl)) rfl
theorem tw_1189 : ((Jvm.Cond.methodLink "DawnTalesLaw" (124 : Nat) ({ cls := "DawnTalesModel", name := "count", desc := "(I)I" } : Jvm.MethodName)) : Jvm.Cond) ∈ am_T := am_mem (am_c5 (List.mem_of_getElem? (i := 229) rfl)) rfl
theorem tw_1190 : ((Jvm.Cond.instanceMethod ({ cls := "DawnTalesModel", name := "count", desc := "(I)I" } : Jvm.MethodName)) : Jvm.Cond) ∈ am_T := am_mem (am_c5 (List.mem_of_getElem? (i := 230) rfl)) rfl
theorem tw_1191 : ((Jvm.Cond.selects "DawnTalesModel" ({ cls := "DawnTalesModel", name := "count", desc := "(I)I" } : Jvm.MethodName) ({ cls := "DawnTalesModel", name := "count", desc := "(I)I" } : Jvm.MethodName)) : Jvm.Cond) ∈ am_T := am_mem (am_c5 (List.mem_of_getElem? (i := 231) rfl)) rfl
theorem tw_1192 : ((Jvm.Cond.code ({ cls := "DawnTalesModel", name := "count", desc := "(I)I" } : Jvm.MethodName) prog_14_method_60_code (2 : Nat) (Option.some Jvm.ClassFile.FieldType.int)) : Jvm.Cond) ∈ am_T := am_mem (am_c5 (List.mem_of_getElem? (i := 232) rfl)) rfl
theorem tw_1193 : ((Jvm.Cond.sameMethod "DawnTales$RingKind" "DawnTales$RingKind" "marked" "(LDawnTales$Book;LDawnTales$Telling;I)I") : Jvm.Cond) ∈ am_T := am_mem (am_c5 (List.mem_of_getElem? (i := 233) rfl)) rfl
theorem tw_1194 : ((Jvm.Cond.sameMethod "DawnTales$BorrowedKind" "DawnTales$BorrowedKind" "marked" "(LDawnTales$Book;LDawnTales$Telling;I)I") : Jvm.Cond) ∈ am_T := am_mem (am_c5 (List.mem_of_getElem? (i := 234) rfl)) rfl
theorem tw_1195 : ((Jvm.Cond.castable "DawnTales$BorrowedKind" "DawnTales$TaleKind") : Jvm.Cond) ∈ lw_tbl := am_c5 (List.mem_of_getElem? (i := 235) rfl)
theorem tw_1196 : ((Jvm.Cond.castable "DawnTales$RingKind" "DawnTales$TaleKind") : Jvm.Cond) ∈ lw_tbl := am_c5 (List.mem_of_getElem? (i := 236) rfl)
theorem tw_1197 : ((Jvm.Cond.castable "DawnTales$TrueKind" "DawnTales$TaleKind") : Jvm.Cond) ∈ lw_tbl := am_c5 (List.mem_of_getElem? (i := 237) rfl)
theorem tw_1198 : ((Jvm.Cond.castable "DawnTales$EndlessKind" "DawnTales$TaleKind") : Jvm.Cond) ∈ lw_tbl := am_c5 (List.mem_of_getElem? (i := 238) rfl)
theorem tw_1199 : ((Jvm.Cond.castable "DawnTales$JokeKind" "DawnTales$TaleKind") : Jvm.Cond) ∈ lw_tbl := am_c5 (List.mem_of_getElem? (i := 239) rfl)
theorem twp_0 : (Jvm.Cond.selects "DawnTales" ({ cls := "DawnTales", name := "startAnew", desc := "()V" } : Jvm.MethodName) ({ cls := "DawnTales", name := "startAnew", desc := "()V" } : Jvm.MethodName) : Jvm.Cond) ∈ am_T := am_mem (am_pv (q := (⟨"DawnTales", "startAnew", "()V"⟩, 11)) (List.mem_append_left _ (List.mem_of_getElem? (i := 0) rfl))) rfl
theorem twp_1 : (Jvm.Cond.selects "DawnTales" ({ cls := "DawnTales", name := "isAsHeard", desc := "(I)Z" } : Jvm.MethodName) ({ cls := "DawnTales", name := "isAsHeard", desc := "(I)Z" } : Jvm.MethodName) : Jvm.Cond) ∈ am_T := am_mem (am_pv (q := (⟨"DawnTales", "isAsHeard", "(I)Z"⟩, 11)) (List.mem_append_left _ (List.mem_of_getElem? (i := 1) rfl))) rfl
theorem twp_2 : (Jvm.Cond.selects "DawnTalesModel" ({ cls := "DawnTalesModel", name := "plain", desc := "()V" } : Jvm.MethodName) ({ cls := "DawnTalesModel", name := "plain", desc := "()V" } : Jvm.MethodName) : Jvm.Cond) ∈ am_T := am_mem (am_pv (q := (⟨"DawnTalesModel", "plain", "()V"⟩, 37)) (List.mem_append_left _ (List.mem_of_getElem? (i := 2) rfl))) rfl
theorem twp_3 : (Jvm.Cond.selects "DawnTalesModel" ({ cls := "DawnTalesModel", name := "takes", desc := "()V" } : Jvm.MethodName) ({ cls := "DawnTalesModel", name := "takes", desc := "()V" } : Jvm.MethodName) : Jvm.Cond) ∈ am_T := am_mem (am_pv (q := (⟨"DawnTalesModel", "takes", "()V"⟩, 37)) (List.mem_append_left _ (List.mem_of_getElem? (i := 3) rfl))) rfl
theorem twp_4 : (Jvm.Cond.selects "DawnTalesModel" ({ cls := "DawnTalesModel", name := "beginsAnew", desc := "()V" } : Jvm.MethodName) ({ cls := "DawnTalesModel", name := "beginsAnew", desc := "()V" } : Jvm.MethodName) : Jvm.Cond) ∈ am_T := am_mem (am_pv (q := (⟨"DawnTalesModel", "beginsAnew", "()V"⟩, 37)) (List.mem_append_left _ (List.mem_of_getElem? (i := 4) rfl))) rfl
theorem twp_5 : (Jvm.Cond.selects "DawnTalesModel" ({ cls := "DawnTalesModel", name := "hoursOf", desc := "(I)I" } : Jvm.MethodName) ({ cls := "DawnTalesModel", name := "hoursOf", desc := "(I)I" } : Jvm.MethodName) : Jvm.Cond) ∈ am_T := am_mem (am_pv (q := (⟨"DawnTalesModel", "hoursOf", "(I)I"⟩, 37)) (List.mem_append_left _ (List.mem_of_getElem? (i := 5) rfl))) rfl
theorem twp_6 : (Jvm.Cond.selects "DawnTalesModel" ({ cls := "DawnTalesModel", name := "reads", desc := "()V" } : Jvm.MethodName) ({ cls := "DawnTalesModel", name := "reads", desc := "()V" } : Jvm.MethodName) : Jvm.Cond) ∈ am_T := am_mem (am_pv (q := (⟨"DawnTalesModel", "reads", "()V"⟩, 37)) (List.mem_append_left _ (List.mem_of_getElem? (i := 6) rfl))) rfl
theorem twp_7 : (Jvm.Cond.selects "DawnTalesModel" ({ cls := "DawnTalesModel", name := "readLetters", desc := "()V" } : Jvm.MethodName) ({ cls := "DawnTalesModel", name := "readLetters", desc := "()V" } : Jvm.MethodName) : Jvm.Cond) ∈ am_T := am_mem (am_pv (q := (⟨"DawnTalesModel", "readLetters", "()V"⟩, 37)) (List.mem_append_left _ (List.mem_of_getElem? (i := 7) rfl))) rfl
theorem twp_8 : (Jvm.Cond.selects "DawnTalesModel" ({ cls := "DawnTalesModel", name := "readNumber", desc := "()V" } : Jvm.MethodName) ({ cls := "DawnTalesModel", name := "readNumber", desc := "()V" } : Jvm.MethodName) : Jvm.Cond) ∈ am_T := am_mem (am_pv (q := (⟨"DawnTalesModel", "readNumber", "()V"⟩, 37)) (List.mem_append_left _ (List.mem_of_getElem? (i := 8) rfl))) rfl
theorem twp_9 : (Jvm.Cond.selects "DawnTalesModel" ({ cls := "DawnTalesModel", name := "readItem", desc := "()Z" } : Jvm.MethodName) ({ cls := "DawnTalesModel", name := "readItem", desc := "()Z" } : Jvm.MethodName) : Jvm.Cond) ∈ am_T := am_mem (am_pv (q := (⟨"DawnTalesModel", "readItem", "()Z"⟩, 37)) (List.mem_append_left _ (List.mem_of_getElem? (i := 9) rfl))) rfl
theorem twp_10 : (Jvm.Cond.selects "DawnTalesModel" ({ cls := "DawnTalesModel", name := "readTale", desc := "()Z" } : Jvm.MethodName) ({ cls := "DawnTalesModel", name := "readTale", desc := "()Z" } : Jvm.MethodName) : Jvm.Cond) ∈ am_T := am_mem (am_pv (q := (⟨"DawnTalesModel", "readTale", "()Z"⟩, 37)) (List.mem_append_left _ (List.mem_of_getElem? (i := 10) rfl))) rfl
theorem twp_11 : (Jvm.Cond.selects "DawnTalesModel" ({ cls := "DawnTalesModel", name := "number", desc := "(II)Z" } : Jvm.MethodName) ({ cls := "DawnTalesModel", name := "number", desc := "(II)Z" } : Jvm.MethodName) : Jvm.Cond) ∈ am_T := am_mem (am_pv (q := (⟨"DawnTalesModel", "number", "(II)Z"⟩, 37)) (List.mem_append_left _ (List.mem_of_getElem? (i := 11) rfl))) rfl
theorem twp_12 : (Jvm.Cond.selects "DawnTalesModel" ({ cls := "DawnTalesModel", name := "readNights", desc := "()Z" } : Jvm.MethodName) ({ cls := "DawnTalesModel", name := "readNights", desc := "()Z" } : Jvm.MethodName) : Jvm.Cond) ∈ am_T := am_mem (am_pv (q := (⟨"DawnTalesModel", "readNights", "()Z"⟩, 37)) (List.mem_append_left _ (List.mem_of_getElem? (i := 12) rfl))) rfl
theorem twp_13 : (Jvm.Cond.selects "DawnTalesModel" ({ cls := "DawnTalesModel", name := "isTale", desc := "(I)Z" } : Jvm.MethodName) ({ cls := "DawnTalesModel", name := "isTale", desc := "(I)Z" } : Jvm.MethodName) : Jvm.Cond) ∈ am_T := am_mem (am_pv (q := (⟨"DawnTalesModel", "isTale", "(I)Z"⟩, 37)) (List.mem_append_left _ (List.mem_of_getElem? (i := 13) rfl))) rfl
theorem twp_14 : (Jvm.Cond.selects "DawnTalesModel" ({ cls := "DawnTalesModel", name := "has", desc := "()Z" } : Jvm.MethodName) ({ cls := "DawnTalesModel", name := "has", desc := "()Z" } : Jvm.MethodName) : Jvm.Cond) ∈ am_T := am_mem (am_pv (q := (⟨"DawnTalesModel", "has", "()Z"⟩, 37)) (List.mem_append_left _ (List.mem_of_getElem? (i := 14) rfl))) rfl
theorem twp_15 : (Jvm.Cond.selects "DawnTalesModel" ({ cls := "DawnTalesModel", name := "mayBegin", desc := "([II)Z" } : Jvm.MethodName) ({ cls := "DawnTalesModel", name := "mayBegin", desc := "([II)Z" } : Jvm.MethodName) : Jvm.Cond) ∈ am_T := am_mem (am_pv (q := (⟨"DawnTalesModel", "mayBegin", "([II)Z"⟩, 37)) (List.mem_append_left _ (List.mem_of_getElem? (i := 15) rfl))) rfl
theorem twp_16 : (Jvm.Cond.selects "DawnTalesModel" ({ cls := "DawnTalesModel", name := "notes", desc := "()V" } : Jvm.MethodName) ({ cls := "DawnTalesModel", name := "notes", desc := "()V" } : Jvm.MethodName) : Jvm.Cond) ∈ am_T := am_mem (am_pv (q := (⟨"DawnTalesModel", "notes", "()V"⟩, 37)) (List.mem_append_right _ (List.mem_of_getElem? (i := 0) rfl))) rfl
theorem twp_17 : (Jvm.Cond.selects "DawnTalesModel" ({ cls := "DawnTalesModel", name := "dawns", desc := "([I)Z" } : Jvm.MethodName) ({ cls := "DawnTalesModel", name := "dawns", desc := "([I)Z" } : Jvm.MethodName) : Jvm.Cond) ∈ am_T := am_mem (am_pv (q := (⟨"DawnTalesModel", "dawns", "([I)Z"⟩, 37)) (List.mem_append_right _ (List.mem_of_getElem? (i := 1) rfl))) rfl
theorem twp_18 : (Jvm.Cond.selects "DawnTalesModel" ({ cls := "DawnTalesModel", name := "saves", desc := "()I" } : Jvm.MethodName) ({ cls := "DawnTalesModel", name := "saves", desc := "()I" } : Jvm.MethodName) : Jvm.Cond) ∈ am_T := am_mem (am_pv (q := (⟨"DawnTalesModel", "saves", "()I"⟩, 37)) (List.mem_append_right _ (List.mem_of_getElem? (i := 2) rfl))) rfl
theorem twp_19 : (Jvm.Cond.selects "DawnTalesModel" ({ cls := "DawnTalesModel", name := "finds", desc := "()V" } : Jvm.MethodName) ({ cls := "DawnTalesModel", name := "finds", desc := "()V" } : Jvm.MethodName) : Jvm.Cond) ∈ am_T := am_mem (am_pv (q := (⟨"DawnTalesModel", "finds", "()V"⟩, 37)) (List.mem_append_right _ (List.mem_of_getElem? (i := 3) rfl))) rfl
theorem twp_20 : (Jvm.Cond.selects "DawnTalesModel" ({ cls := "DawnTalesModel", name := "starts", desc := "(I)Z" } : Jvm.MethodName) ({ cls := "DawnTalesModel", name := "starts", desc := "(I)Z" } : Jvm.MethodName) : Jvm.Cond) ∈ am_T := am_mem (am_pv (q := (⟨"DawnTalesModel", "starts", "(I)Z"⟩, 37)) (List.mem_append_right _ (List.mem_of_getElem? (i := 4) rfl))) rfl
theorem twp_21 : (Jvm.Cond.selects "DawnTalesModel" ({ cls := "DawnTalesModel", name := "fills", desc := "(I)Z" } : Jvm.MethodName) ({ cls := "DawnTalesModel", name := "fills", desc := "(I)Z" } : Jvm.MethodName) : Jvm.Cond) ∈ am_T := am_mem (am_pv (q := (⟨"DawnTalesModel", "fills", "(I)Z"⟩, 37)) (List.mem_append_right _ (List.mem_of_getElem? (i := 5) rfl))) rfl
theorem twp_22 : (Jvm.Cond.selects "DawnTalesModel" ({ cls := "DawnTalesModel", name := "isMet", desc := "(I)Z" } : Jvm.MethodName) ({ cls := "DawnTalesModel", name := "isMet", desc := "(I)Z" } : Jvm.MethodName) : Jvm.Cond) ∈ am_T := am_mem (am_pv (q := (⟨"DawnTalesModel", "isMet", "(I)Z"⟩, 37)) (List.mem_append_right _ (List.mem_of_getElem? (i := 6) rfl))) rfl
theorem twp_23 : (Jvm.Cond.selects "DawnTalesModel" ({ cls := "DawnTalesModel", name := "code", desc := "()I" } : Jvm.MethodName) ({ cls := "DawnTalesModel", name := "code", desc := "()I" } : Jvm.MethodName) : Jvm.Cond) ∈ am_T := am_mem (am_pv (q := (⟨"DawnTalesModel", "code", "()I"⟩, 37)) (List.mem_append_right _ (List.mem_of_getElem? (i := 7) rfl))) rfl
theorem twp_24 : (Jvm.Cond.selects "DawnTalesModel" ({ cls := "DawnTalesModel", name := "turns", desc := "()Z" } : Jvm.MethodName) ({ cls := "DawnTalesModel", name := "turns", desc := "()Z" } : Jvm.MethodName) : Jvm.Cond) ∈ am_T := am_mem (am_pv (q := (⟨"DawnTalesModel", "turns", "()Z"⟩, 37)) (List.mem_append_right _ (List.mem_of_getElem? (i := 8) rfl))) rfl
theorem twp_25 : (Jvm.Cond.selects "DawnTalesModel" ({ cls := "DawnTalesModel", name := "isHeard", desc := "(I)Z" } : Jvm.MethodName) ({ cls := "DawnTalesModel", name := "isHeard", desc := "(I)Z" } : Jvm.MethodName) : Jvm.Cond) ∈ am_T := am_mem (am_pv (q := (⟨"DawnTalesModel", "isHeard", "(I)Z"⟩, 37)) (List.mem_append_right _ (List.mem_of_getElem? (i := 9) rfl))) rfl
end
section
theorem dJ6_bitCount_0f7a4_0 : decode cJ6_bitCount_0f7a4 0 = .ok (.iload_n 0, 1) := by decide +kernel
theorem dJ6_bitCount_0f7a4_1 : decode cJ6_bitCount_0f7a4 1 = .ok (.iload_n 0, 1) := by decide +kernel
theorem dJ6_bitCount_0f7a4_2 : decode cJ6_bitCount_0f7a4 2 = .ok (.iconst 1, 1) := by decide +kernel
theorem dJ6_bitCount_0f7a4_3 : decode cJ6_bitCount_0f7a4 3 = .ok (.iushr, 1) := by decide +kernel
theorem dJ6_bitCount_0f7a4_4 : decode cJ6_bitCount_0f7a4 4 = .ok (.ldc_w 265, 3) := by decide +kernel
theorem dJ6_bitCount_0f7a4_7 : decode cJ6_bitCount_0f7a4 7 = .ok (.iand, 1) := by decide +kernel
theorem dJ6_bitCount_0f7a4_8 : decode cJ6_bitCount_0f7a4 8 = .ok (.isub, 1) := by decide +kernel
theorem dJ6_bitCount_0f7a4_9 : decode cJ6_bitCount_0f7a4 9 = .ok (.istore_n 0, 1) := by decide +kernel
theorem dJ6_bitCount_0f7a4_10 : decode cJ6_bitCount_0f7a4 10 = .ok (.iload_n 0, 1) := by decide +kernel
theorem dJ6_bitCount_0f7a4_11 : decode cJ6_bitCount_0f7a4 11 = .ok (.ldc_w 266, 3) := by decide +kernel
theorem dJ6_bitCount_0f7a4_14 : decode cJ6_bitCount_0f7a4 14 = .ok (.iand, 1) := by decide +kernel
theorem dJ6_bitCount_0f7a4_15 : decode cJ6_bitCount_0f7a4 15 = .ok (.iload_n 0, 1) := by decide +kernel
theorem dJ6_bitCount_0f7a4_16 : decode cJ6_bitCount_0f7a4 16 = .ok (.iconst 2, 1) := by decide +kernel
theorem dJ6_bitCount_0f7a4_17 : decode cJ6_bitCount_0f7a4 17 = .ok (.iushr, 1) := by decide +kernel
theorem dJ6_bitCount_0f7a4_18 : decode cJ6_bitCount_0f7a4 18 = .ok (.ldc_w 266, 3) := by decide +kernel
theorem dJ6_bitCount_0f7a4_21 : decode cJ6_bitCount_0f7a4 21 = .ok (.iand, 1) := by decide +kernel
theorem dJ6_bitCount_0f7a4_22 : decode cJ6_bitCount_0f7a4 22 = .ok (.iadd, 1) := by decide +kernel
theorem dJ6_bitCount_0f7a4_23 : decode cJ6_bitCount_0f7a4 23 = .ok (.istore_n 0, 1) := by decide +kernel
theorem dJ6_bitCount_0f7a4_24 : decode cJ6_bitCount_0f7a4 24 = .ok (.iload_n 0, 1) := by decide +kernel
theorem dJ6_bitCount_0f7a4_25 : decode cJ6_bitCount_0f7a4 25 = .ok (.iload_n 0, 1) := by decide +kernel
theorem dJ6_bitCount_0f7a4_26 : decode cJ6_bitCount_0f7a4 26 = .ok (.iconst 4, 1) := by decide +kernel
theorem dJ6_bitCount_0f7a4_27 : decode cJ6_bitCount_0f7a4 27 = .ok (.iushr, 1) := by decide +kernel
theorem dJ6_bitCount_0f7a4_28 : decode cJ6_bitCount_0f7a4 28 = .ok (.iadd, 1) := by decide +kernel
theorem dJ6_bitCount_0f7a4_29 : decode cJ6_bitCount_0f7a4 29 = .ok (.ldc_w 267, 3) := by decide +kernel
theorem dJ6_bitCount_0f7a4_32 : decode cJ6_bitCount_0f7a4 32 = .ok (.iand, 1) := by decide +kernel
theorem dJ6_bitCount_0f7a4_33 : decode cJ6_bitCount_0f7a4 33 = .ok (.istore_n 0, 1) := by decide +kernel
theorem dJ6_bitCount_0f7a4_34 : decode cJ6_bitCount_0f7a4 34 = .ok (.iload_n 0, 1) := by decide +kernel
theorem dJ6_bitCount_0f7a4_35 : decode cJ6_bitCount_0f7a4 35 = .ok (.iload_n 0, 1) := by decide +kernel
theorem dJ6_bitCount_0f7a4_36 : decode cJ6_bitCount_0f7a4 36 = .ok (.bipush 8, 2) := by decide +kernel
theorem dJ6_bitCount_0f7a4_38 : decode cJ6_bitCount_0f7a4 38 = .ok (.iushr, 1) := by decide +kernel
theorem dJ6_bitCount_0f7a4_39 : decode cJ6_bitCount_0f7a4 39 = .ok (.iadd, 1) := by decide +kernel
theorem dJ6_bitCount_0f7a4_40 : decode cJ6_bitCount_0f7a4 40 = .ok (.istore_n 0, 1) := by decide +kernel
theorem dJ6_bitCount_0f7a4_41 : decode cJ6_bitCount_0f7a4 41 = .ok (.iload_n 0, 1) := by decide +kernel
theorem dJ6_bitCount_0f7a4_42 : decode cJ6_bitCount_0f7a4 42 = .ok (.iload_n 0, 1) := by decide +kernel
theorem dJ6_bitCount_0f7a4_43 : decode cJ6_bitCount_0f7a4 43 = .ok (.bipush 16, 2) := by decide +kernel
theorem dJ6_bitCount_0f7a4_45 : decode cJ6_bitCount_0f7a4 45 = .ok (.iushr, 1) := by decide +kernel
theorem dJ6_bitCount_0f7a4_46 : decode cJ6_bitCount_0f7a4 46 = .ok (.iadd, 1) := by decide +kernel
theorem dJ6_bitCount_0f7a4_47 : decode cJ6_bitCount_0f7a4 47 = .ok (.istore_n 0, 1) := by decide +kernel
theorem dJ6_bitCount_0f7a4_48 : decode cJ6_bitCount_0f7a4 48 = .ok (.iload_n 0, 1) := by decide +kernel
theorem dJ6_bitCount_0f7a4_49 : decode cJ6_bitCount_0f7a4 49 = .ok (.bipush 63, 2) := by decide +kernel
theorem dJ6_bitCount_0f7a4_51 : decode cJ6_bitCount_0f7a4 51 = .ok (.iand, 1) := by decide +kernel
theorem dJ6_bitCount_0f7a4_52 : decode cJ6_bitCount_0f7a4 52 = .ok (.ireturn, 1) := by decide +kernel
theorem dJ9_max_7cf53_0 : decode cJ9_max_7cf53 0 = .ok (.iload_n 0, 1) := by decide +kernel
theorem dJ9_max_7cf53_1 : decode cJ9_max_7cf53 1 = .ok (.iload_n 1, 1) := by decide +kernel
theorem dJ9_max_7cf53_2 : decode cJ9_max_7cf53 2 = .ok (.if_icmp .lt 7, 3) := by decide +kernel
theorem dJ9_max_7cf53_5 : decode cJ9_max_7cf53 5 = .ok (.iload_n 0, 1) := by decide +kernel
theorem dJ9_max_7cf53_6 : decode cJ9_max_7cf53 6 = .ok (.goto 4, 3) := by decide +kernel
theorem dJ9_max_7cf53_9 : decode cJ9_max_7cf53 9 = .ok (.iload_n 1, 1) := by decide +kernel
theorem dJ9_max_7cf53_10 : decode cJ9_max_7cf53 10 = .ok (.ireturn, 1) := by decide +kernel
theorem dJ9_min_7cf53_0 : decode cJ9_min_7cf53 0 = .ok (.iload_n 0, 1) := by decide +kernel
theorem dJ9_min_7cf53_1 : decode cJ9_min_7cf53 1 = .ok (.iload_n 1, 1) := by decide +kernel
theorem dJ9_min_7cf53_2 : decode cJ9_min_7cf53 2 = .ok (.if_icmp .gt 7, 3) := by decide +kernel
theorem dJ9_min_7cf53_5 : decode cJ9_min_7cf53 5 = .ok (.iload_n 0, 1) := by decide +kernel
theorem dJ9_min_7cf53_6 : decode cJ9_min_7cf53 6 = .ok (.goto 4, 3) := by decide +kernel
theorem dJ9_min_7cf53_9 : decode cJ9_min_7cf53 9 = .ok (.iload_n 1, 1) := by decide +kernel
theorem dJ9_min_7cf53_10 : decode cJ9_min_7cf53 10 = .ok (.ireturn, 1) := by decide +kernel
theorem dJ7_fill_d0a16_0 : decode cJ7_fill_d0a16 0 = .ok (.iconst 0, 1) := by decide +kernel
theorem dJ7_fill_d0a16_1 : decode cJ7_fill_d0a16 1 = .ok (.istore_n 3, 1) := by decide +kernel
theorem dJ7_fill_d0a16_2 : decode cJ7_fill_d0a16 2 = .ok (.aload_n 0, 1) := by decide +kernel
theorem dJ7_fill_d0a16_3 : decode cJ7_fill_d0a16 3 = .ok (.arraylength, 1) := by decide +kernel
theorem dJ7_fill_d0a16_4 : decode cJ7_fill_d0a16 4 = .ok (.istore 4, 2) := by decide +kernel
theorem dJ7_fill_d0a16_6 : decode cJ7_fill_d0a16 6 = .ok (.iload_n 3, 1) := by decide +kernel
theorem dJ7_fill_d0a16_7 : decode cJ7_fill_d0a16 7 = .ok (.iload 4, 2) := by decide +kernel
theorem dJ7_fill_d0a16_9 : decode cJ7_fill_d0a16 9 = .ok (.if_icmp .ge 13, 3) := by decide +kernel
theorem dJ7_fill_d0a16_12 : decode cJ7_fill_d0a16 12 = .ok (.aload_n 0, 1) := by decide +kernel
theorem dJ7_fill_d0a16_13 : decode cJ7_fill_d0a16 13 = .ok (.iload_n 3, 1) := by decide +kernel
theorem dJ7_fill_d0a16_14 : decode cJ7_fill_d0a16 14 = .ok (.lload_n 1, 1) := by decide +kernel
theorem dJ7_fill_d0a16_15 : decode cJ7_fill_d0a16 15 = .ok (.lastore, 1) := by decide +kernel
theorem dJ7_fill_d0a16_16 : decode cJ7_fill_d0a16 16 = .ok (.iinc 3 1, 3) := by decide +kernel
theorem dJ7_fill_d0a16_19 : decode cJ7_fill_d0a16 19 = .ok (.goto (-13), 3) := by decide +kernel
theorem dJ7_fill_d0a16_22 : decode cJ7_fill_d0a16 22 = .ok (.return_, 1) := by decide +kernel
end
section
theorem dX0_init_0 : decode cX0_init 0 = .ok (.aload_n 0, 1) := by decide +kernel
theorem dX0_init_1 : decode cX0_init 1 = .ok (.invokespecial 3, 3) := by decide +kernel
theorem dX0_init_4 : decode cX0_init 4 = .ok (.aload_n 0, 1) := by decide +kernel
theorem dX0_init_5 : decode cX0_init 5 = .ok (.bipush 6, 2) := by decide +kernel
theorem dX0_init_7 : decode cX0_init 7 = .ok (.newarray .int, 2) := by decide +kernel
theorem dX0_init_9 : decode cX0_init 9 = .ok (.putfield 9, 3) := by decide +kernel
theorem dX0_init_12 : decode cX0_init 12 = .ok (.aload_n 0, 1) := by decide +kernel
theorem dX0_init_13 : decode cX0_init 13 = .ok (.bipush 6, 2) := by decide +kernel
theorem dX0_init_15 : decode cX0_init 15 = .ok (.newarray .int, 2) := by decide +kernel
theorem dX0_init_17 : decode cX0_init 17 = .ok (.putfield 15, 3) := by decide +kernel
theorem dX0_init_20 : decode cX0_init 20 = .ok (.aload_n 0, 1) := by decide +kernel
theorem dX0_init_21 : decode cX0_init 21 = .ok (.bipush 8, 2) := by decide +kernel
theorem dX0_init_23 : decode cX0_init 23 = .ok (.newarray .int, 2) := by decide +kernel
theorem dX0_init_25 : decode cX0_init 25 = .ok (.putfield 18, 3) := by decide +kernel
theorem dX0_init_28 : decode cX0_init 28 = .ok (.aload_n 0, 1) := by decide +kernel
theorem dX0_init_29 : decode cX0_init 29 = .ok (.invokevirtual 21, 3) := by decide +kernel
theorem dX0_init_32 : decode cX0_init 32 = .ok (.aload_n 0, 1) := by decide +kernel
theorem dX0_init_33 : decode cX0_init 33 = .ok (.invokevirtual 24, 3) := by decide +kernel
theorem dX0_init_36 : decode cX0_init 36 = .ok (.return_, 1) := by decide +kernel
theorem dX0_wipe_0 : decode cX0_wipe 0 = .ok (.aload_n 0, 1) := by decide +kernel
theorem dX0_wipe_1 : decode cX0_wipe 1 = .ok (.iconst 0, 1) := by decide +kernel
theorem dX0_wipe_2 : decode cX0_wipe 2 = .ok (.putfield 27, 3) := by decide +kernel
theorem dX0_wipe_5 : decode cX0_wipe 5 = .ok (.aload_n 0, 1) := by decide +kernel
theorem dX0_wipe_6 : decode cX0_wipe 6 = .ok (.iconst 0, 1) := by decide +kernel
theorem dX0_wipe_7 : decode cX0_wipe 7 = .ok (.putfield 31, 3) := by decide +kernel
theorem dX0_wipe_10 : decode cX0_wipe 10 = .ok (.aload_n 0, 1) := by decide +kernel
theorem dX0_wipe_11 : decode cX0_wipe 11 = .ok (.iconst 0, 1) := by decide +kernel
theorem dX0_wipe_12 : decode cX0_wipe 12 = .ok (.putfield 34, 3) := by decide +kernel
theorem dX0_wipe_15 : decode cX0_wipe 15 = .ok (.aload_n 0, 1) := by decide +kernel
theorem dX0_wipe_16 : decode cX0_wipe 16 = .ok (.iconst 0, 1) := by decide +kernel
theorem dX0_wipe_17 : decode cX0_wipe 17 = .ok (.putfield 37, 3) := by decide +kernel
theorem dX0_wipe_20 : decode cX0_wipe 20 = .ok (.return_, 1) := by decide +kernel
theorem dX0_settle_0 : decode cX0_settle 0 = .ok (.aload_n 0, 1) := by decide +kernel
theorem dX0_settle_1 : decode cX0_settle 1 = .ok (.getfield 31, 3) := by decide +kernel
theorem dX0_settle_4 : decode cX0_settle 4 = .ok (.ifCond .ne 8, 3) := by decide +kernel
theorem dX0_settle_7 : decode cX0_settle 7 = .ok (.aload_n 0, 1) := by decide +kernel
theorem dX0_settle_8 : decode cX0_settle 8 = .ok (.iconst 5, 1) := by decide +kernel
theorem dX0_settle_9 : decode cX0_settle 9 = .ok (.invokevirtual 40, 3) := by decide +kernel
theorem dX0_settle_12 : decode cX0_settle 12 = .ok (.aload_n 0, 1) := by decide +kernel
theorem dX0_settle_13 : decode cX0_settle 13 = .ok (.getfield 34, 3) := by decide +kernel
theorem dX0_settle_16 : decode cX0_settle 16 = .ok (.ifCond .ne 8, 3) := by decide +kernel
theorem dX0_settle_19 : decode cX0_settle 19 = .ok (.aload_n 0, 1) := by decide +kernel
theorem dX0_settle_20 : decode cX0_settle 20 = .ok (.iconst 3, 1) := by decide +kernel
theorem dX0_settle_21 : decode cX0_settle 21 = .ok (.putfield 34, 3) := by decide +kernel
theorem dX0_settle_24 : decode cX0_settle 24 = .ok (.aload_n 0, 1) := by decide +kernel
theorem dX0_settle_25 : decode cX0_settle 25 = .ok (.getfield 37, 3) := by decide +kernel
theorem dX0_settle_28 : decode cX0_settle 28 = .ok (.ifCond .ne 9, 3) := by decide +kernel
theorem dX0_settle_31 : decode cX0_settle 31 = .ok (.aload_n 0, 1) := by decide +kernel
theorem dX0_settle_32 : decode cX0_settle 32 = .ok (.bipush 6, 2) := by decide +kernel
theorem dX0_settle_34 : decode cX0_settle 34 = .ok (.putfield 37, 3) := by decide +kernel
theorem dX0_settle_37 : decode cX0_settle 37 = .ok (.return_, 1) := by decide +kernel
theorem dX0_copyFrom_0 : decode cX0_copyFrom 0 = .ok (.aload_n 0, 1) := by decide +kernel
theorem dX0_copyFrom_1 : decode cX0_copyFrom 1 = .ok (.aload_n 1, 1) := by decide +kernel
theorem dX0_copyFrom_2 : decode cX0_copyFrom 2 = .ok (.getfield 27, 3) := by decide +kernel
theorem dX0_copyFrom_5 : decode cX0_copyFrom 5 = .ok (.putfield 27, 3) := by decide +kernel
theorem dX0_copyFrom_8 : decode cX0_copyFrom 8 = .ok (.aload_n 1, 1) := by decide +kernel
theorem dX0_copyFrom_9 : decode cX0_copyFrom 9 = .ok (.getfield 9, 3) := by decide +kernel
theorem dX0_copyFrom_12 : decode cX0_copyFrom 12 = .ok (.iconst 0, 1) := by decide +kernel
theorem dX0_copyFrom_13 : decode cX0_copyFrom 13 = .ok (.aload_n 0, 1) := by decide +kernel
theorem dX0_copyFrom_14 : decode cX0_copyFrom 14 = .ok (.getfield 9, 3) := by decide +kernel
theorem dX0_copyFrom_17 : decode cX0_copyFrom 17 = .ok (.iconst 0, 1) := by decide +kernel
theorem dX0_copyFrom_18 : decode cX0_copyFrom 18 = .ok (.bipush 6, 2) := by decide +kernel
theorem dX0_copyFrom_20 : decode cX0_copyFrom 20 = .ok (.invokestatic 44, 3) := by decide +kernel
theorem dX0_copyFrom_23 : decode cX0_copyFrom 23 = .ok (.aload_n 1, 1) := by decide +kernel
theorem dX0_copyFrom_24 : decode cX0_copyFrom 24 = .ok (.getfield 15, 3) := by decide +kernel
theorem dX0_copyFrom_27 : decode cX0_copyFrom 27 = .ok (.iconst 0, 1) := by decide +kernel
theorem dX0_copyFrom_28 : decode cX0_copyFrom 28 = .ok (.aload_n 0, 1) := by decide +kernel
theorem dX0_copyFrom_29 : decode cX0_copyFrom 29 = .ok (.getfield 15, 3) := by decide +kernel
theorem dX0_copyFrom_32 : decode cX0_copyFrom 32 = .ok (.iconst 0, 1) := by decide +kernel
theorem dX0_copyFrom_33 : decode cX0_copyFrom 33 = .ok (.bipush 6, 2) := by decide +kernel
theorem dX0_copyFrom_35 : decode cX0_copyFrom 35 = .ok (.invokestatic 44, 3) := by decide +kernel
theorem dX0_copyFrom_38 : decode cX0_copyFrom 38 = .ok (.aload_n 0, 1) := by decide +kernel
theorem dX0_copyFrom_39 : decode cX0_copyFrom 39 = .ok (.aload_n 1, 1) := by decide +kernel
theorem dX0_copyFrom_40 : decode cX0_copyFrom 40 = .ok (.getfield 31, 3) := by decide +kernel
theorem dX0_copyFrom_43 : decode cX0_copyFrom 43 = .ok (.putfield 31, 3) := by decide +kernel
theorem dX0_copyFrom_46 : decode cX0_copyFrom 46 = .ok (.aload_n 1, 1) := by decide +kernel
theorem dX0_copyFrom_47 : decode cX0_copyFrom 47 = .ok (.getfield 18, 3) := by decide +kernel
theorem dX0_copyFrom_50 : decode cX0_copyFrom 50 = .ok (.iconst 0, 1) := by decide +kernel
theorem dX0_copyFrom_51 : decode cX0_copyFrom 51 = .ok (.aload_n 0, 1) := by decide +kernel
theorem dX0_copyFrom_52 : decode cX0_copyFrom 52 = .ok (.getfield 18, 3) := by decide +kernel
theorem dX0_copyFrom_55 : decode cX0_copyFrom 55 = .ok (.iconst 0, 1) := by decide +kernel
theorem dX0_copyFrom_56 : decode cX0_copyFrom 56 = .ok (.bipush 8, 2) := by decide +kernel
theorem dX0_copyFrom_58 : decode cX0_copyFrom 58 = .ok (.invokestatic 44, 3) := by decide +kernel
theorem dX0_copyFrom_61 : decode cX0_copyFrom 61 = .ok (.aload_n 0, 1) := by decide +kernel
theorem dX0_copyFrom_62 : decode cX0_copyFrom 62 = .ok (.aload_n 1, 1) := by decide +kernel
theorem dX0_copyFrom_63 : decode cX0_copyFrom 63 = .ok (.getfield 34, 3) := by decide +kernel
theorem dX0_copyFrom_66 : decode cX0_copyFrom 66 = .ok (.putfield 34, 3) := by decide +kernel
theorem dX0_copyFrom_69 : decode cX0_copyFrom 69 = .ok (.aload_n 0, 1) := by decide +kernel
theorem dX0_copyFrom_70 : decode cX0_copyFrom 70 = .ok (.aload_n 1, 1) := by decide +kernel
theorem dX0_copyFrom_71 : decode cX0_copyFrom 71 = .ok (.getfield 37, 3) := by decide +kernel
theorem dX0_copyFrom_74 : decode cX0_copyFrom 74 = .ok (.putfield 37, 3) := by decide +kernel
theorem dX0_copyFrom_77 : decode cX0_copyFrom 77 = .ok (.return_, 1) := by decide +kernel
theorem dX0_lengthenNights_0 : decode cX0_lengthenNights 0 = .ok (.iconst 0, 1) := by decide +kernel
theorem dX0_lengthenNights_1 : decode cX0_lengthenNights 1 = .ok (.istore_n 1, 1) := by decide +kernel
theorem dX0_lengthenNights_2 : decode cX0_lengthenNights 2 = .ok (.iload_n 1, 1) := by decide +kernel
theorem dX0_lengthenNights_3 : decode cX0_lengthenNights 3 = .ok (.bipush 8, 2) := by decide +kernel
theorem dX0_lengthenNights_5 : decode cX0_lengthenNights 5 = .ok (.if_icmp .ge 19, 3) := by decide +kernel
theorem dX0_lengthenNights_8 : decode cX0_lengthenNights 8 = .ok (.aload_n 0, 1) := by decide +kernel
theorem dX0_lengthenNights_9 : decode cX0_lengthenNights 9 = .ok (.getfield 18, 3) := by decide +kernel
theorem dX0_lengthenNights_12 : decode cX0_lengthenNights 12 = .ok (.iload_n 1, 1) := by decide +kernel
theorem dX0_lengthenNights_13 : decode cX0_lengthenNights 13 = .ok (.dup2, 1) := by decide +kernel
theorem dX0_lengthenNights_14 : decode cX0_lengthenNights 14 = .ok (.iaload, 1) := by decide +kernel
theorem dX0_lengthenNights_15 : decode cX0_lengthenNights 15 = .ok (.iconst 1, 1) := by decide +kernel
theorem dX0_lengthenNights_16 : decode cX0_lengthenNights 16 = .ok (.iadd, 1) := by decide +kernel
theorem dX0_lengthenNights_17 : decode cX0_lengthenNights 17 = .ok (.iastore, 1) := by decide +kernel
theorem dX0_lengthenNights_18 : decode cX0_lengthenNights 18 = .ok (.iinc 1 1, 3) := by decide +kernel
theorem dX0_lengthenNights_21 : decode cX0_lengthenNights 21 = .ok (.goto (-19), 3) := by decide +kernel
theorem dX0_lengthenNights_24 : decode cX0_lengthenNights 24 = .ok (.return_, 1) := by decide +kernel
theorem dX0_addTale_0 : decode cX0_addTale 0 = .ok (.aload_n 0, 1) := by decide +kernel
theorem dX0_addTale_1 : decode cX0_addTale 1 = .ok (.getfield 27, 3) := by decide +kernel
theorem dX0_addTale_4 : decode cX0_addTale 4 = .ok (.ifCond .lt 42, 3) := by decide +kernel
theorem dX0_addTale_7 : decode cX0_addTale 7 = .ok (.aload_n 0, 1) := by decide +kernel
theorem dX0_addTale_8 : decode cX0_addTale 8 = .ok (.getfield 27, 3) := by decide +kernel
theorem dX0_addTale_11 : decode cX0_addTale 11 = .ok (.bipush 6, 2) := by decide +kernel
theorem dX0_addTale_13 : decode cX0_addTale 13 = .ok (.if_icmp .ge 33, 3) := by decide +kernel
theorem dX0_addTale_16 : decode cX0_addTale 16 = .ok (.aload_n 0, 1) := by decide +kernel
theorem dX0_addTale_17 : decode cX0_addTale 17 = .ok (.getfield 9, 3) := by decide +kernel
theorem dX0_addTale_20 : decode cX0_addTale 20 = .ok (.aload_n 0, 1) := by decide +kernel
theorem dX0_addTale_21 : decode cX0_addTale 21 = .ok (.getfield 27, 3) := by decide +kernel
theorem dX0_addTale_24 : decode cX0_addTale 24 = .ok (.iload_n 1, 1) := by decide +kernel
theorem dX0_addTale_25 : decode cX0_addTale 25 = .ok (.iastore, 1) := by decide +kernel
theorem dX0_addTale_26 : decode cX0_addTale 26 = .ok (.aload_n 0, 1) := by decide +kernel
theorem dX0_addTale_27 : decode cX0_addTale 27 = .ok (.getfield 15, 3) := by decide +kernel
theorem dX0_addTale_30 : decode cX0_addTale 30 = .ok (.aload_n 0, 1) := by decide +kernel
theorem dX0_addTale_31 : decode cX0_addTale 31 = .ok (.getfield 27, 3) := by decide +kernel
theorem dX0_addTale_34 : decode cX0_addTale 34 = .ok (.iload_n 2, 1) := by decide +kernel
theorem dX0_addTale_35 : decode cX0_addTale 35 = .ok (.iastore, 1) := by decide +kernel
theorem dX0_addTale_36 : decode cX0_addTale 36 = .ok (.aload_n 0, 1) := by decide +kernel
theorem dX0_addTale_37 : decode cX0_addTale 37 = .ok (.dup, 1) := by decide +kernel
theorem dX0_addTale_38 : decode cX0_addTale 38 = .ok (.getfield 27, 3) := by decide +kernel
theorem dX0_addTale_41 : decode cX0_addTale 41 = .ok (.iconst 1, 1) := by decide +kernel
theorem dX0_addTale_42 : decode cX0_addTale 42 = .ok (.iadd, 1) := by decide +kernel
theorem dX0_addTale_43 : decode cX0_addTale 43 = .ok (.putfield 27, 3) := by decide +kernel
theorem dX0_addTale_46 : decode cX0_addTale 46 = .ok (.return_, 1) := by decide +kernel
theorem dX0_addNight_0 : decode cX0_addNight 0 = .ok (.aload_n 0, 1) := by decide +kernel
theorem dX0_addNight_1 : decode cX0_addNight 1 = .ok (.getfield 31, 3) := by decide +kernel
theorem dX0_addNight_4 : decode cX0_addNight 4 = .ok (.ifCond .lt 32, 3) := by decide +kernel
theorem dX0_addNight_7 : decode cX0_addNight 7 = .ok (.aload_n 0, 1) := by decide +kernel
theorem dX0_addNight_8 : decode cX0_addNight 8 = .ok (.getfield 31, 3) := by decide +kernel
theorem dX0_addNight_11 : decode cX0_addNight 11 = .ok (.bipush 8, 2) := by decide +kernel
theorem dX0_addNight_13 : decode cX0_addNight 13 = .ok (.if_icmp .ge 23, 3) := by decide +kernel
theorem dX0_addNight_16 : decode cX0_addNight 16 = .ok (.aload_n 0, 1) := by decide +kernel
theorem dX0_addNight_17 : decode cX0_addNight 17 = .ok (.getfield 18, 3) := by decide +kernel
theorem dX0_addNight_20 : decode cX0_addNight 20 = .ok (.aload_n 0, 1) := by decide +kernel
theorem dX0_addNight_21 : decode cX0_addNight 21 = .ok (.getfield 31, 3) := by decide +kernel
theorem dX0_addNight_24 : decode cX0_addNight 24 = .ok (.iload_n 1, 1) := by decide +kernel
theorem dX0_addNight_25 : decode cX0_addNight 25 = .ok (.iastore, 1) := by decide +kernel
theorem dX0_addNight_26 : decode cX0_addNight 26 = .ok (.aload_n 0, 1) := by decide +kernel
theorem dX0_addNight_27 : decode cX0_addNight 27 = .ok (.dup, 1) := by decide +kernel
theorem dX0_addNight_28 : decode cX0_addNight 28 = .ok (.getfield 31, 3) := by decide +kernel
theorem dX0_addNight_31 : decode cX0_addNight 31 = .ok (.iconst 1, 1) := by decide +kernel
theorem dX0_addNight_32 : decode cX0_addNight 32 = .ok (.iadd, 1) := by decide +kernel
theorem dX0_addNight_33 : decode cX0_addNight 33 = .ok (.putfield 31, 3) := by decide +kernel
theorem dX0_addNight_36 : decode cX0_addNight 36 = .ok (.return_, 1) := by decide +kernel
theorem dX0_isTale_0 : decode cX0_isTale 0 = .ok (.iload_n 1, 1) := by decide +kernel
theorem dX0_isTale_1 : decode cX0_isTale 1 = .ok (.ifCond .lt 21, 3) := by decide +kernel
theorem dX0_isTale_4 : decode cX0_isTale 4 = .ok (.iload_n 1, 1) := by decide +kernel
theorem dX0_isTale_5 : decode cX0_isTale 5 = .ok (.aload_n 0, 1) := by decide +kernel
theorem dX0_isTale_6 : decode cX0_isTale 6 = .ok (.getfield 27, 3) := by decide +kernel
theorem dX0_isTale_9 : decode cX0_isTale 9 = .ok (.if_icmp .ge 13, 3) := by decide +kernel
theorem dX0_isTale_12 : decode cX0_isTale 12 = .ok (.iload_n 1, 1) := by decide +kernel
theorem dX0_isTale_13 : decode cX0_isTale 13 = .ok (.bipush 6, 2) := by decide +kernel
theorem dX0_isTale_15 : decode cX0_isTale 15 = .ok (.if_icmp .ge 7, 3) := by decide +kernel
theorem dX0_isTale_18 : decode cX0_isTale 18 = .ok (.iconst 1, 1) := by decide +kernel
theorem dX0_isTale_19 : decode cX0_isTale 19 = .ok (.goto 4, 3) := by decide +kernel
theorem dX0_isTale_22 : decode cX0_isTale 22 = .ok (.iconst 0, 1) := by decide +kernel
theorem dX0_isTale_23 : decode cX0_isTale 23 = .ok (.ireturn, 1) := by decide +kernel
theorem dX0_partsOf_0 : decode cX0_partsOf 0 = .ok (.aload_n 0, 1) := by decide +kernel
theorem dX0_partsOf_1 : decode cX0_partsOf 1 = .ok (.iload_n 1, 1) := by decide +kernel
theorem dX0_partsOf_2 : decode cX0_partsOf 2 = .ok (.invokevirtual 50, 3) := by decide +kernel
theorem dX0_partsOf_5 : decode cX0_partsOf 5 = .ok (.ifCond .eq 12, 3) := by decide +kernel
theorem dX0_partsOf_8 : decode cX0_partsOf 8 = .ok (.aload_n 0, 1) := by decide +kernel
theorem dX0_partsOf_9 : decode cX0_partsOf 9 = .ok (.getfield 9, 3) := by decide +kernel
theorem dX0_partsOf_12 : decode cX0_partsOf 12 = .ok (.iload_n 1, 1) := by decide +kernel
theorem dX0_partsOf_13 : decode cX0_partsOf 13 = .ok (.iaload, 1) := by decide +kernel
theorem dX0_partsOf_14 : decode cX0_partsOf 14 = .ok (.goto 4, 3) := by decide +kernel
theorem dX0_partsOf_17 : decode cX0_partsOf 17 = .ok (.iconst 0, 1) := by decide +kernel
theorem dX0_partsOf_18 : decode cX0_partsOf 18 = .ok (.ireturn, 1) := by decide +kernel
theorem dX0_withinOf_0 : decode cX0_withinOf 0 = .ok (.aload_n 0, 1) := by decide +kernel
theorem dX0_withinOf_1 : decode cX0_withinOf 1 = .ok (.iload_n 1, 1) := by decide +kernel
theorem dX0_withinOf_2 : decode cX0_withinOf 2 = .ok (.invokevirtual 50, 3) := by decide +kernel
theorem dX0_withinOf_5 : decode cX0_withinOf 5 = .ok (.ifCond .eq 12, 3) := by decide +kernel
theorem dX0_withinOf_8 : decode cX0_withinOf 8 = .ok (.aload_n 0, 1) := by decide +kernel
theorem dX0_withinOf_9 : decode cX0_withinOf 9 = .ok (.getfield 15, 3) := by decide +kernel
theorem dX0_withinOf_12 : decode cX0_withinOf 12 = .ok (.iload_n 1, 1) := by decide +kernel
theorem dX0_withinOf_13 : decode cX0_withinOf 13 = .ok (.iaload, 1) := by decide +kernel
theorem dX0_withinOf_14 : decode cX0_withinOf 14 = .ok (.goto 5, 3) := by decide +kernel
theorem dX0_withinOf_17 : decode cX0_withinOf 17 = .ok (.bipush 9, 2) := by decide +kernel
theorem dX0_withinOf_19 : decode cX0_withinOf 19 = .ok (.ireturn, 1) := by decide +kernel
theorem dX0_toldWithin_0 : decode cX0_toldWithin 0 = .ok (.iconst 0, 1) := by decide +kernel
theorem dX0_toldWithin_1 : decode cX0_toldWithin 1 = .ok (.istore_n 2, 1) := by decide +kernel
theorem dX0_toldWithin_2 : decode cX0_toldWithin 2 = .ok (.iconst 0, 1) := by decide +kernel
theorem dX0_toldWithin_3 : decode cX0_toldWithin 3 = .ok (.istore_n 3, 1) := by decide +kernel
theorem dX0_toldWithin_4 : decode cX0_toldWithin 4 = .ok (.iload_n 3, 1) := by decide +kernel
theorem dX0_toldWithin_5 : decode cX0_toldWithin 5 = .ok (.aload_n 0, 1) := by decide +kernel
theorem dX0_toldWithin_6 : decode cX0_toldWithin 6 = .ok (.getfield 27, 3) := by decide +kernel
theorem dX0_toldWithin_9 : decode cX0_toldWithin 9 = .ok (.if_icmp .ge 26, 3) := by decide +kernel
theorem dX0_toldWithin_12 : decode cX0_toldWithin 12 = .ok (.iload_n 2, 1) := by decide +kernel
theorem dX0_toldWithin_13 : decode cX0_toldWithin 13 = .ok (.aload_n 0, 1) := by decide +kernel
theorem dX0_toldWithin_14 : decode cX0_toldWithin 14 = .ok (.iload_n 3, 1) := by decide +kernel
theorem dX0_toldWithin_15 : decode cX0_toldWithin 15 = .ok (.invokevirtual 54, 3) := by decide +kernel
theorem dX0_toldWithin_18 : decode cX0_toldWithin 18 = .ok (.iload_n 1, 1) := by decide +kernel
theorem dX0_toldWithin_19 : decode cX0_toldWithin 19 = .ok (.if_icmp .ne 7, 3) := by decide +kernel
theorem dX0_toldWithin_22 : decode cX0_toldWithin 22 = .ok (.iconst 1, 1) := by decide +kernel
theorem dX0_toldWithin_23 : decode cX0_toldWithin 23 = .ok (.goto 4, 3) := by decide +kernel
theorem dX0_toldWithin_26 : decode cX0_toldWithin 26 = .ok (.iconst 0, 1) := by decide +kernel
theorem dX0_toldWithin_27 : decode cX0_toldWithin 27 = .ok (.iadd, 1) := by decide +kernel
theorem dX0_toldWithin_28 : decode cX0_toldWithin 28 = .ok (.istore_n 2, 1) := by decide +kernel
theorem dX0_toldWithin_29 : decode cX0_toldWithin 29 = .ok (.iinc 3 1, 3) := by decide +kernel
theorem dX0_toldWithin_32 : decode cX0_toldWithin 32 = .ok (.goto (-28), 3) := by decide +kernel
theorem dX0_toldWithin_35 : decode cX0_toldWithin 35 = .ok (.iload_n 2, 1) := by decide +kernel
theorem dX0_toldWithin_36 : decode cX0_toldWithin 36 = .ok (.ireturn, 1) := by decide +kernel
theorem dX0_hoursOf_0 : decode cX0_hoursOf 0 = .ok (.aload_n 0, 1) := by decide +kernel
theorem dX0_hoursOf_1 : decode cX0_hoursOf 1 = .ok (.getfield 31, 3) := by decide +kernel
theorem dX0_hoursOf_4 : decode cX0_hoursOf 4 = .ok (.ifCond .le 16, 3) := by decide +kernel
theorem dX0_hoursOf_7 : decode cX0_hoursOf 7 = .ok (.aload_n 0, 1) := by decide +kernel
theorem dX0_hoursOf_8 : decode cX0_hoursOf 8 = .ok (.getfield 31, 3) := by decide +kernel
theorem dX0_hoursOf_11 : decode cX0_hoursOf 11 = .ok (.bipush 8, 2) := by decide +kernel
theorem dX0_hoursOf_13 : decode cX0_hoursOf 13 = .ok (.if_icmp .gt 7, 3) := by decide +kernel
theorem dX0_hoursOf_16 : decode cX0_hoursOf 16 = .ok (.iload_n 1, 1) := by decide +kernel
theorem dX0_hoursOf_17 : decode cX0_hoursOf 17 = .ok (.ifCond .ge 5, 3) := by decide +kernel
theorem dX0_hoursOf_20 : decode cX0_hoursOf 20 = .ok (.iconst 0, 1) := by decide +kernel
theorem dX0_hoursOf_21 : decode cX0_hoursOf 21 = .ok (.ireturn, 1) := by decide +kernel
theorem dX0_hoursOf_22 : decode cX0_hoursOf 22 = .ok (.aload_n 0, 1) := by decide +kernel
theorem dX0_hoursOf_23 : decode cX0_hoursOf 23 = .ok (.getfield 18, 3) := by decide +kernel
theorem dX0_hoursOf_26 : decode cX0_hoursOf 26 = .ok (.iload_n 1, 1) := by decide +kernel
theorem dX0_hoursOf_27 : decode cX0_hoursOf 27 = .ok (.aload_n 0, 1) := by decide +kernel
theorem dX0_hoursOf_28 : decode cX0_hoursOf 28 = .ok (.getfield 31, 3) := by decide +kernel
theorem dX0_hoursOf_31 : decode cX0_hoursOf 31 = .ok (.irem, 1) := by decide +kernel
theorem dX0_hoursOf_32 : decode cX0_hoursOf 32 = .ok (.iaload, 1) := by decide +kernel
theorem dX0_hoursOf_33 : decode cX0_hoursOf 33 = .ok (.ireturn, 1) := by decide +kernel
theorem dX1_init_0 : decode cX1_init 0 = .ok (.aload_n 0, 1) := by decide +kernel
theorem dX1_init_1 : decode cX1_init 1 = .ok (.invokespecial 1, 3) := by decide +kernel
theorem dX1_init_4 : decode cX1_init 4 = .ok (.return_, 1) := by decide +kernel
theorem dX1_marked_0 : decode cX1_marked 0 = .ok (.aload_n 0, 1) := by decide +kernel
theorem dX1_marked_1 : decode cX1_marked 1 = .ok (.dup, 1) := by decide +kernel
theorem dX1_marked_2 : decode cX1_marked 2 = .ok (.getfield 7, 3) := by decide +kernel
theorem dX1_marked_5 : decode cX1_marked 5 = .ok (.ldc2_w 13, 3) := by decide +kernel
theorem dX1_marked_8 : decode cX1_marked 8 = .ok (.ladd, 1) := by decide +kernel
theorem dX1_marked_9 : decode cX1_marked 9 = .ok (.putfield 7, 3) := by decide +kernel
theorem dX1_marked_12 : decode cX1_marked 12 = .ok (.aload_n 0, 1) := by decide +kernel
theorem dX1_marked_13 : decode cX1_marked 13 = .ok (.aload_n 1, 1) := by decide +kernel
theorem dX1_marked_14 : decode cX1_marked 14 = .ok (.aload_n 2, 1) := by decide +kernel
theorem dX1_marked_15 : decode cX1_marked 15 = .ok (.iload_n 3, 1) := by decide +kernel
theorem dX1_marked_16 : decode cX1_marked 16 = .ok (.invokespecial 15, 3) := by decide +kernel
theorem dX1_marked_19 : decode cX1_marked 19 = .ok (.aload_n 1, 1) := by decide +kernel
theorem dX1_marked_20 : decode cX1_marked 20 = .ok (.iload_n 3, 1) := by decide +kernel
theorem dX1_marked_21 : decode cX1_marked 21 = .ok (.invokevirtual 19, 3) := by decide +kernel
theorem dX1_marked_24 : decode cX1_marked 24 = .ok (.iadd, 1) := by decide +kernel
theorem dX1_marked_25 : decode cX1_marked 25 = .ok (.ireturn, 1) := by decide +kernel
theorem dX2_init_0 : decode cX2_init 0 = .ok (.aload_n 0, 1) := by decide +kernel
theorem dX2_init_1 : decode cX2_init 1 = .ok (.invokespecial 1, 3) := by decide +kernel
theorem dX2_init_4 : decode cX2_init 4 = .ok (.return_, 1) := by decide +kernel
theorem dX2_marked_0 : decode cX2_marked 0 = .ok (.aload_n 0, 1) := by decide +kernel
theorem dX2_marked_1 : decode cX2_marked 1 = .ok (.dup, 1) := by decide +kernel
theorem dX2_marked_2 : decode cX2_marked 2 = .ok (.getfield 7, 3) := by decide +kernel
theorem dX2_marked_5 : decode cX2_marked 5 = .ok (.ldc2_w 13, 3) := by decide +kernel
theorem dX2_marked_8 : decode cX2_marked 8 = .ok (.ladd, 1) := by decide +kernel
theorem dX2_marked_9 : decode cX2_marked 9 = .ok (.putfield 7, 3) := by decide +kernel
theorem dX2_marked_12 : decode cX2_marked 12 = .ok (.aload_n 0, 1) := by decide +kernel
theorem dX2_marked_13 : decode cX2_marked 13 = .ok (.aload_n 1, 1) := by decide +kernel
theorem dX2_marked_14 : decode cX2_marked 14 = .ok (.aload_n 2, 1) := by decide +kernel
theorem dX2_marked_15 : decode cX2_marked 15 = .ok (.iload_n 3, 1) := by decide +kernel
theorem dX2_marked_16 : decode cX2_marked 16 = .ok (.invokespecial 15, 3) := by decide +kernel
theorem dX2_marked_19 : decode cX2_marked 19 = .ok (.aload_n 2, 1) := by decide +kernel
theorem dX2_marked_20 : decode cX2_marked 20 = .ok (.getfield 19, 3) := by decide +kernel
theorem dX2_marked_23 : decode cX2_marked 23 = .ok (.iadd, 1) := by decide +kernel
theorem dX2_marked_24 : decode cX2_marked 24 = .ok (.ireturn, 1) := by decide +kernel
theorem dX3_init_0 : decode cX3_init 0 = .ok (.aload_n 0, 1) := by decide +kernel
theorem dX3_init_1 : decode cX3_init 1 = .ok (.invokespecial 1, 3) := by decide +kernel
theorem dX3_init_4 : decode cX3_init 4 = .ok (.return_, 1) := by decide +kernel
theorem dX3_marked_0 : decode cX3_marked 0 = .ok (.aload_n 0, 1) := by decide +kernel
theorem dX3_marked_1 : decode cX3_marked 1 = .ok (.dup, 1) := by decide +kernel
theorem dX3_marked_2 : decode cX3_marked 2 = .ok (.getfield 7, 3) := by decide +kernel
theorem dX3_marked_5 : decode cX3_marked 5 = .ok (.ldc2_w 13, 3) := by decide +kernel
theorem dX3_marked_8 : decode cX3_marked 8 = .ok (.ladd, 1) := by decide +kernel
theorem dX3_marked_9 : decode cX3_marked 9 = .ok (.putfield 7, 3) := by decide +kernel
theorem dX3_marked_12 : decode cX3_marked 12 = .ok (.aload_n 0, 1) := by decide +kernel
theorem dX3_marked_13 : decode cX3_marked 13 = .ok (.aload_n 1, 1) := by decide +kernel
theorem dX3_marked_14 : decode cX3_marked 14 = .ok (.aload_n 2, 1) := by decide +kernel
theorem dX3_marked_15 : decode cX3_marked 15 = .ok (.iload_n 3, 1) := by decide +kernel
theorem dX3_marked_16 : decode cX3_marked 16 = .ok (.invokespecial 15, 3) := by decide +kernel
theorem dX3_marked_19 : decode cX3_marked 19 = .ok (.aload_n 2, 1) := by decide +kernel
theorem dX3_marked_20 : decode cX3_marked 20 = .ok (.getfield 19, 3) := by decide +kernel
theorem dX3_marked_23 : decode cX3_marked 23 = .ok (.iadd, 1) := by decide +kernel
theorem dX3_marked_24 : decode cX3_marked 24 = .ok (.ireturn, 1) := by decide +kernel
theorem dX4_init_0 : decode cX4_init 0 = .ok (.aload_n 0, 1) := by decide +kernel
theorem dX4_init_1 : decode cX4_init 1 = .ok (.invokespecial 1, 3) := by decide +kernel
theorem dX4_init_4 : decode cX4_init 4 = .ok (.return_, 1) := by decide +kernel
theorem dX4_marked_0 : decode cX4_marked 0 = .ok (.aload_n 0, 1) := by decide +kernel
theorem dX4_marked_1 : decode cX4_marked 1 = .ok (.dup, 1) := by decide +kernel
theorem dX4_marked_2 : decode cX4_marked 2 = .ok (.getfield 7, 3) := by decide +kernel
theorem dX4_marked_5 : decode cX4_marked 5 = .ok (.ldc2_w 13, 3) := by decide +kernel
theorem dX4_marked_8 : decode cX4_marked 8 = .ok (.ladd, 1) := by decide +kernel
theorem dX4_marked_9 : decode cX4_marked 9 = .ok (.putfield 7, 3) := by decide +kernel
theorem dX4_marked_12 : decode cX4_marked 12 = .ok (.aload_n 0, 1) := by decide +kernel
theorem dX4_marked_13 : decode cX4_marked 13 = .ok (.aload_n 1, 1) := by decide +kernel
theorem dX4_marked_14 : decode cX4_marked 14 = .ok (.aload_n 2, 1) := by decide +kernel
theorem dX4_marked_15 : decode cX4_marked 15 = .ok (.iload_n 3, 1) := by decide +kernel
theorem dX4_marked_16 : decode cX4_marked 16 = .ok (.invokespecial 15, 3) := by decide +kernel
theorem dX4_marked_19 : decode cX4_marked 19 = .ok (.aload_n 1, 1) := by decide +kernel
theorem dX4_marked_20 : decode cX4_marked 20 = .ok (.iload_n 3, 1) := by decide +kernel
theorem dX4_marked_21 : decode cX4_marked 21 = .ok (.invokevirtual 19, 3) := by decide +kernel
theorem dX4_marked_24 : decode cX4_marked 24 = .ok (.isub, 1) := by decide +kernel
theorem dX4_marked_25 : decode cX4_marked 25 = .ok (.ireturn, 1) := by decide +kernel
theorem dX6_init_0 : decode cX6_init 0 = .ok (.aload_n 0, 1) := by decide +kernel
theorem dX6_init_1 : decode cX6_init 1 = .ok (.invokespecial 3, 3) := by decide +kernel
theorem dX6_init_4 : decode cX6_init 4 = .ok (.aload_n 0, 1) := by decide +kernel
theorem dX6_init_5 : decode cX6_init 5 = .ok (.new 9, 3) := by decide +kernel
theorem dX6_init_8 : decode cX6_init 8 = .ok (.dup, 1) := by decide +kernel
theorem dX6_init_9 : decode cX6_init 9 = .ok (.invokespecial 11, 3) := by decide +kernel
theorem dX6_init_12 : decode cX6_init 12 = .ok (.putfield 12, 3) := by decide +kernel
theorem dX6_init_15 : decode cX6_init 15 = .ok (.aload_n 0, 1) := by decide +kernel
theorem dX6_init_16 : decode cX6_init 16 = .ok (.bipush 10, 2) := by decide +kernel
theorem dX6_init_18 : decode cX6_init 18 = .ok (.anewarray 9, 3) := by decide +kernel
theorem dX6_init_21 : decode cX6_init 21 = .ok (.putfield 18, 3) := by decide +kernel
theorem dX6_init_24 : decode cX6_init 24 = .ok (.iconst 0, 1) := by decide +kernel
theorem dX6_init_25 : decode cX6_init 25 = .ok (.istore_n 1, 1) := by decide +kernel
theorem dX6_init_26 : decode cX6_init 26 = .ok (.iload_n 1, 1) := by decide +kernel
theorem dX6_init_27 : decode cX6_init 27 = .ok (.bipush 10, 2) := by decide +kernel
theorem dX6_init_29 : decode cX6_init 29 = .ok (.if_icmp .ge 22, 3) := by decide +kernel
theorem dX6_init_32 : decode cX6_init 32 = .ok (.aload_n 0, 1) := by decide +kernel
theorem dX6_init_33 : decode cX6_init 33 = .ok (.getfield 18, 3) := by decide +kernel
theorem dX6_init_36 : decode cX6_init 36 = .ok (.iload_n 1, 1) := by decide +kernel
theorem dX6_init_37 : decode cX6_init 37 = .ok (.new 9, 3) := by decide +kernel
theorem dX6_init_40 : decode cX6_init 40 = .ok (.dup, 1) := by decide +kernel
theorem dX6_init_41 : decode cX6_init 41 = .ok (.invokespecial 11, 3) := by decide +kernel
theorem dX6_init_44 : decode cX6_init 44 = .ok (.aastore, 1) := by decide +kernel
theorem dX6_init_45 : decode cX6_init 45 = .ok (.iinc 1 1, 3) := by decide +kernel
theorem dX6_init_48 : decode cX6_init 48 = .ok (.goto (-22), 3) := by decide +kernel
theorem dX6_init_51 : decode cX6_init 51 = .ok (.return_, 1) := by decide +kernel
theorem dX6_start_0 : decode cX6_start 0 = .ok (.aload_n 0, 1) := by decide +kernel
theorem dX6_start_1 : decode cX6_start 1 = .ok (.getfield 12, 3) := by decide +kernel
theorem dX6_start_4 : decode cX6_start 4 = .ok (.aload_n 1, 1) := by decide +kernel
theorem dX6_start_5 : decode cX6_start 5 = .ok (.invokevirtual 22, 3) := by decide +kernel
theorem dX6_start_8 : decode cX6_start 8 = .ok (.aload_n 0, 1) := by decide +kernel
theorem dX6_start_9 : decode cX6_start 9 = .ok (.iconst 0, 1) := by decide +kernel
theorem dX6_start_10 : decode cX6_start 10 = .ok (.putfield 26, 3) := by decide +kernel
theorem dX6_start_13 : decode cX6_start 13 = .ok (.return_, 1) := by decide +kernel
theorem dX6_copyFrom_0 : decode cX6_copyFrom 0 = .ok (.aload_n 0, 1) := by decide +kernel
theorem dX6_copyFrom_1 : decode cX6_copyFrom 1 = .ok (.getfield 12, 3) := by decide +kernel
theorem dX6_copyFrom_4 : decode cX6_copyFrom 4 = .ok (.aload_n 1, 1) := by decide +kernel
theorem dX6_copyFrom_5 : decode cX6_copyFrom 5 = .ok (.getfield 12, 3) := by decide +kernel
theorem dX6_copyFrom_8 : decode cX6_copyFrom 8 = .ok (.invokevirtual 30, 3) := by decide +kernel
theorem dX6_copyFrom_11 : decode cX6_copyFrom 11 = .ok (.iconst 0, 1) := by decide +kernel
theorem dX6_copyFrom_12 : decode cX6_copyFrom 12 = .ok (.istore_n 2, 1) := by decide +kernel
theorem dX6_copyFrom_13 : decode cX6_copyFrom 13 = .ok (.iload_n 2, 1) := by decide +kernel
theorem dX6_copyFrom_14 : decode cX6_copyFrom 14 = .ok (.bipush 10, 2) := by decide +kernel
theorem dX6_copyFrom_16 : decode cX6_copyFrom 16 = .ok (.if_icmp .ge 24, 3) := by decide +kernel
theorem dX6_copyFrom_19 : decode cX6_copyFrom 19 = .ok (.aload_n 0, 1) := by decide +kernel
theorem dX6_copyFrom_20 : decode cX6_copyFrom 20 = .ok (.getfield 18, 3) := by decide +kernel
theorem dX6_copyFrom_23 : decode cX6_copyFrom 23 = .ok (.iload_n 2, 1) := by decide +kernel
theorem dX6_copyFrom_24 : decode cX6_copyFrom 24 = .ok (.aaload, 1) := by decide +kernel
theorem dX6_copyFrom_25 : decode cX6_copyFrom 25 = .ok (.aload_n 1, 1) := by decide +kernel
theorem dX6_copyFrom_26 : decode cX6_copyFrom 26 = .ok (.getfield 18, 3) := by decide +kernel
theorem dX6_copyFrom_29 : decode cX6_copyFrom 29 = .ok (.iload_n 2, 1) := by decide +kernel
theorem dX6_copyFrom_30 : decode cX6_copyFrom 30 = .ok (.aaload, 1) := by decide +kernel
theorem dX6_copyFrom_31 : decode cX6_copyFrom 31 = .ok (.invokevirtual 30, 3) := by decide +kernel
theorem dX6_copyFrom_34 : decode cX6_copyFrom 34 = .ok (.iinc 2 1, 3) := by decide +kernel
theorem dX6_copyFrom_37 : decode cX6_copyFrom 37 = .ok (.goto (-24), 3) := by decide +kernel
theorem dX6_copyFrom_40 : decode cX6_copyFrom 40 = .ok (.aload_n 0, 1) := by decide +kernel
theorem dX6_copyFrom_41 : decode cX6_copyFrom 41 = .ok (.aload_n 1, 1) := by decide +kernel
theorem dX6_copyFrom_42 : decode cX6_copyFrom 42 = .ok (.getfield 26, 3) := by decide +kernel
theorem dX6_copyFrom_45 : decode cX6_copyFrom 45 = .ok (.putfield 26, 3) := by decide +kernel
theorem dX6_copyFrom_48 : decode cX6_copyFrom 48 = .ok (.return_, 1) := by decide +kernel
theorem dX6_remember_0 : decode cX6_remember 0 = .ok (.aload_n 0, 1) := by decide +kernel
theorem dX6_remember_1 : decode cX6_remember 1 = .ok (.getfield 26, 3) := by decide +kernel
theorem dX6_remember_4 : decode cX6_remember 4 = .ok (.bipush 10, 2) := by decide +kernel
theorem dX6_remember_6 : decode cX6_remember 6 = .ok (.if_icmp .lt 7, 3) := by decide +kernel
theorem dX6_remember_9 : decode cX6_remember 9 = .ok (.aload_n 0, 1) := by decide +kernel
theorem dX6_remember_10 : decode cX6_remember 10 = .ok (.invokevirtual 34, 3) := by decide +kernel
theorem dX6_remember_13 : decode cX6_remember 13 = .ok (.aload_n 0, 1) := by decide +kernel
theorem dX6_remember_14 : decode cX6_remember 14 = .ok (.getfield 26, 3) := by decide +kernel
theorem dX6_remember_17 : decode cX6_remember 17 = .ok (.ifCond .lt 38, 3) := by decide +kernel
theorem dX6_remember_20 : decode cX6_remember 20 = .ok (.aload_n 0, 1) := by decide +kernel
theorem dX6_remember_21 : decode cX6_remember 21 = .ok (.getfield 26, 3) := by decide +kernel
theorem dX6_remember_24 : decode cX6_remember 24 = .ok (.bipush 10, 2) := by decide +kernel
theorem dX6_remember_26 : decode cX6_remember 26 = .ok (.if_icmp .ge 29, 3) := by decide +kernel
theorem dX6_remember_29 : decode cX6_remember 29 = .ok (.aload_n 0, 1) := by decide +kernel
theorem dX6_remember_30 : decode cX6_remember 30 = .ok (.getfield 18, 3) := by decide +kernel
theorem dX6_remember_33 : decode cX6_remember 33 = .ok (.aload_n 0, 1) := by decide +kernel
theorem dX6_remember_34 : decode cX6_remember 34 = .ok (.getfield 26, 3) := by decide +kernel
theorem dX6_remember_37 : decode cX6_remember 37 = .ok (.aaload, 1) := by decide +kernel
theorem dX6_remember_38 : decode cX6_remember 38 = .ok (.aload_n 0, 1) := by decide +kernel
theorem dX6_remember_39 : decode cX6_remember 39 = .ok (.getfield 12, 3) := by decide +kernel
theorem dX6_remember_42 : decode cX6_remember 42 = .ok (.invokevirtual 30, 3) := by decide +kernel
theorem dX6_remember_45 : decode cX6_remember 45 = .ok (.aload_n 0, 1) := by decide +kernel
theorem dX6_remember_46 : decode cX6_remember 46 = .ok (.dup, 1) := by decide +kernel
theorem dX6_remember_47 : decode cX6_remember 47 = .ok (.getfield 26, 3) := by decide +kernel
theorem dX6_remember_50 : decode cX6_remember 50 = .ok (.iconst 1, 1) := by decide +kernel
theorem dX6_remember_51 : decode cX6_remember 51 = .ok (.iadd, 1) := by decide +kernel
theorem dX6_remember_52 : decode cX6_remember 52 = .ok (.putfield 26, 3) := by decide +kernel
theorem dX6_remember_55 : decode cX6_remember 55 = .ok (.return_, 1) := by decide +kernel
theorem dX6_loseOldest_0 : decode cX6_loseOldest 0 = .ok (.aload_n 0, 1) := by decide +kernel
theorem dX6_loseOldest_1 : decode cX6_loseOldest 1 = .ok (.getfield 18, 3) := by decide +kernel
theorem dX6_loseOldest_4 : decode cX6_loseOldest 4 = .ok (.iconst 0, 1) := by decide +kernel
theorem dX6_loseOldest_5 : decode cX6_loseOldest 5 = .ok (.aaload, 1) := by decide +kernel
theorem dX6_loseOldest_6 : decode cX6_loseOldest 6 = .ok (.astore_n 1, 1) := by decide +kernel
theorem dX6_loseOldest_7 : decode cX6_loseOldest 7 = .ok (.iconst 1, 1) := by decide +kernel
theorem dX6_loseOldest_8 : decode cX6_loseOldest 8 = .ok (.istore_n 2, 1) := by decide +kernel
theorem dX6_loseOldest_9 : decode cX6_loseOldest 9 = .ok (.iload_n 2, 1) := by decide +kernel
theorem dX6_loseOldest_10 : decode cX6_loseOldest 10 = .ok (.bipush 10, 2) := by decide +kernel
theorem dX6_loseOldest_12 : decode cX6_loseOldest 12 = .ok (.if_icmp .ge 23, 3) := by decide +kernel
theorem dX6_loseOldest_15 : decode cX6_loseOldest 15 = .ok (.aload_n 0, 1) := by decide +kernel
theorem dX6_loseOldest_16 : decode cX6_loseOldest 16 = .ok (.getfield 18, 3) := by decide +kernel
theorem dX6_loseOldest_19 : decode cX6_loseOldest 19 = .ok (.iload_n 2, 1) := by decide +kernel
theorem dX6_loseOldest_20 : decode cX6_loseOldest 20 = .ok (.iconst 1, 1) := by decide +kernel
theorem dX6_loseOldest_21 : decode cX6_loseOldest 21 = .ok (.isub, 1) := by decide +kernel
theorem dX6_loseOldest_22 : decode cX6_loseOldest 22 = .ok (.aload_n 0, 1) := by decide +kernel
theorem dX6_loseOldest_23 : decode cX6_loseOldest 23 = .ok (.getfield 18, 3) := by decide +kernel
theorem dX6_loseOldest_26 : decode cX6_loseOldest 26 = .ok (.iload_n 2, 1) := by decide +kernel
theorem dX6_loseOldest_27 : decode cX6_loseOldest 27 = .ok (.aaload, 1) := by decide +kernel
theorem dX6_loseOldest_28 : decode cX6_loseOldest 28 = .ok (.aastore, 1) := by decide +kernel
theorem dX6_loseOldest_29 : decode cX6_loseOldest 29 = .ok (.iinc 2 1, 3) := by decide +kernel
theorem dX6_loseOldest_32 : decode cX6_loseOldest 32 = .ok (.goto (-23), 3) := by decide +kernel
theorem dX6_loseOldest_35 : decode cX6_loseOldest 35 = .ok (.aload_n 0, 1) := by decide +kernel
theorem dX6_loseOldest_36 : decode cX6_loseOldest 36 = .ok (.getfield 18, 3) := by decide +kernel
theorem dX6_loseOldest_39 : decode cX6_loseOldest 39 = .ok (.bipush 9, 2) := by decide +kernel
theorem dX6_loseOldest_41 : decode cX6_loseOldest 41 = .ok (.aload_n 1, 1) := by decide +kernel
theorem dX6_loseOldest_42 : decode cX6_loseOldest 42 = .ok (.aastore, 1) := by decide +kernel
theorem dX6_loseOldest_43 : decode cX6_loseOldest 43 = .ok (.aload_n 0, 1) := by decide +kernel
theorem dX6_loseOldest_44 : decode cX6_loseOldest 44 = .ok (.bipush 9, 2) := by decide +kernel
theorem dX6_loseOldest_46 : decode cX6_loseOldest 46 = .ok (.putfield 26, 3) := by decide +kernel
theorem dX6_loseOldest_49 : decode cX6_loseOldest 49 = .ok (.return_, 1) := by decide +kernel
theorem dX6_takeBack_0 : decode cX6_takeBack 0 = .ok (.aload_n 0, 1) := by decide +kernel
theorem dX6_takeBack_1 : decode cX6_takeBack 1 = .ok (.getfield 26, 3) := by decide +kernel
theorem dX6_takeBack_4 : decode cX6_takeBack 4 = .ok (.ifCond .le 12, 3) := by decide +kernel
theorem dX6_takeBack_7 : decode cX6_takeBack 7 = .ok (.aload_n 0, 1) := by decide +kernel
theorem dX6_takeBack_8 : decode cX6_takeBack 8 = .ok (.getfield 26, 3) := by decide +kernel
theorem dX6_takeBack_11 : decode cX6_takeBack 11 = .ok (.bipush 10, 2) := by decide +kernel
theorem dX6_takeBack_13 : decode cX6_takeBack 13 = .ok (.if_icmp .le 5, 3) := by decide +kernel
theorem dX6_takeBack_16 : decode cX6_takeBack 16 = .ok (.iconst 0, 1) := by decide +kernel
theorem dX6_takeBack_17 : decode cX6_takeBack 17 = .ok (.ireturn, 1) := by decide +kernel
theorem dX6_takeBack_18 : decode cX6_takeBack 18 = .ok (.aload_n 0, 1) := by decide +kernel
theorem dX6_takeBack_19 : decode cX6_takeBack 19 = .ok (.dup, 1) := by decide +kernel
theorem dX6_takeBack_20 : decode cX6_takeBack 20 = .ok (.getfield 26, 3) := by decide +kernel
theorem dX6_takeBack_23 : decode cX6_takeBack 23 = .ok (.iconst 1, 1) := by decide +kernel
theorem dX6_takeBack_24 : decode cX6_takeBack 24 = .ok (.isub, 1) := by decide +kernel
theorem dX6_takeBack_25 : decode cX6_takeBack 25 = .ok (.putfield 26, 3) := by decide +kernel
theorem dX6_takeBack_28 : decode cX6_takeBack 28 = .ok (.aload_n 0, 1) := by decide +kernel
theorem dX6_takeBack_29 : decode cX6_takeBack 29 = .ok (.getfield 12, 3) := by decide +kernel
theorem dX6_takeBack_32 : decode cX6_takeBack 32 = .ok (.aload_n 0, 1) := by decide +kernel
theorem dX6_takeBack_33 : decode cX6_takeBack 33 = .ok (.getfield 18, 3) := by decide +kernel
theorem dX6_takeBack_36 : decode cX6_takeBack 36 = .ok (.aload_n 0, 1) := by decide +kernel
theorem dX6_takeBack_37 : decode cX6_takeBack 37 = .ok (.getfield 26, 3) := by decide +kernel
theorem dX6_takeBack_40 : decode cX6_takeBack 40 = .ok (.aaload, 1) := by decide +kernel
theorem dX6_takeBack_41 : decode cX6_takeBack 41 = .ok (.invokevirtual 30, 3) := by decide +kernel
theorem dX6_takeBack_44 : decode cX6_takeBack 44 = .ok (.iconst 1, 1) := by decide +kernel
theorem dX6_takeBack_45 : decode cX6_takeBack 45 = .ok (.ireturn, 1) := by decide +kernel
theorem dX7_init_0 : decode cX7_init 0 = .ok (.aload_n 0, 1) := by decide +kernel
theorem dX7_init_1 : decode cX7_init 1 = .ok (.invokespecial 1, 3) := by decide +kernel
theorem dX7_init_4 : decode cX7_init 4 = .ok (.return_, 1) := by decide +kernel
theorem dX7_marked_0 : decode cX7_marked 0 = .ok (.aload_n 0, 1) := by decide +kernel
theorem dX7_marked_1 : decode cX7_marked 1 = .ok (.dup, 1) := by decide +kernel
theorem dX7_marked_2 : decode cX7_marked 2 = .ok (.getfield 7, 3) := by decide +kernel
theorem dX7_marked_5 : decode cX7_marked 5 = .ok (.lconst 1, 1) := by decide +kernel
theorem dX7_marked_6 : decode cX7_marked 6 = .ok (.ladd, 1) := by decide +kernel
theorem dX7_marked_7 : decode cX7_marked 7 = .ok (.putfield 7, 3) := by decide +kernel
theorem dX7_marked_10 : decode cX7_marked 10 = .ok (.aload_n 2, 1) := by decide +kernel
theorem dX7_marked_11 : decode cX7_marked 11 = .ok (.iload_n 3, 1) := by decide +kernel
theorem dX7_marked_12 : decode cX7_marked 12 = .ok (.invokevirtual 13, 3) := by decide +kernel
theorem dX7_marked_15 : decode cX7_marked 15 = .ok (.ireturn, 1) := by decide +kernel
theorem dX8_init_0 : decode cX8_init 0 = .ok (.aload_n 0, 1) := by decide +kernel
theorem dX8_init_1 : decode cX8_init 1 = .ok (.invokespecial 3, 3) := by decide +kernel
theorem dX8_init_4 : decode cX8_init 4 = .ok (.aload_n 0, 1) := by decide +kernel
theorem dX8_init_5 : decode cX8_init 5 = .ok (.bipush 6, 2) := by decide +kernel
theorem dX8_init_7 : decode cX8_init 7 = .ok (.newarray .int, 2) := by decide +kernel
theorem dX8_init_9 : decode cX8_init 9 = .ok (.putfield 9, 3) := by decide +kernel
theorem dX8_init_12 : decode cX8_init 12 = .ok (.aload_n 0, 1) := by decide +kernel
theorem dX8_init_13 : decode cX8_init 13 = .ok (.bipush 6, 2) := by decide +kernel
theorem dX8_init_15 : decode cX8_init 15 = .ok (.newarray .int, 2) := by decide +kernel
theorem dX8_init_17 : decode cX8_init 17 = .ok (.putfield 15, 3) := by decide +kernel
theorem dX8_init_20 : decode cX8_init 20 = .ok (.aload_n 0, 1) := by decide +kernel
theorem dX8_init_21 : decode cX8_init 21 = .ok (.bipush 6, 2) := by decide +kernel
theorem dX8_init_23 : decode cX8_init 23 = .ok (.newarray .int, 2) := by decide +kernel
theorem dX8_init_25 : decode cX8_init 25 = .ok (.putfield 18, 3) := by decide +kernel
theorem dX8_init_28 : decode cX8_init 28 = .ok (.return_, 1) := by decide +kernel
theorem dX8_start_0 : decode cX8_start 0 = .ok (.aload_n 0, 1) := by decide +kernel
theorem dX8_start_1 : decode cX8_start 1 = .ok (.iconst 0, 1) := by decide +kernel
theorem dX8_start_2 : decode cX8_start 2 = .ok (.putfield 21, 3) := by decide +kernel
theorem dX8_start_5 : decode cX8_start 5 = .ok (.aload_n 0, 1) := by decide +kernel
theorem dX8_start_6 : decode cX8_start 6 = .ok (.aload_n 1, 1) := by decide +kernel
theorem dX8_start_7 : decode cX8_start 7 = .ok (.iconst 0, 1) := by decide +kernel
theorem dX8_start_8 : decode cX8_start 8 = .ok (.invokevirtual 25, 3) := by decide +kernel
theorem dX8_start_11 : decode cX8_start 11 = .ok (.putfield 31, 3) := by decide +kernel
theorem dX8_start_14 : decode cX8_start 14 = .ok (.aload_n 0, 1) := by decide +kernel
theorem dX8_start_15 : decode cX8_start 15 = .ok (.iconst 0, 1) := by decide +kernel
theorem dX8_start_16 : decode cX8_start 16 = .ok (.putfield 34, 3) := by decide +kernel
theorem dX8_start_19 : decode cX8_start 19 = .ok (.aload_n 0, 1) := by decide +kernel
theorem dX8_start_20 : decode cX8_start 20 = .ok (.iconst 1, 1) := by decide +kernel
theorem dX8_start_21 : decode cX8_start 21 = .ok (.putfield 37, 3) := by decide +kernel
theorem dX8_start_24 : decode cX8_start 24 = .ok (.aload_n 0, 1) := by decide +kernel
theorem dX8_start_25 : decode cX8_start 25 = .ok (.iconst 0, 1) := by decide +kernel
theorem dX8_start_26 : decode cX8_start 26 = .ok (.putfield 41, 3) := by decide +kernel
theorem dX8_start_29 : decode cX8_start 29 = .ok (.aload_n 0, 1) := by decide +kernel
theorem dX8_start_30 : decode cX8_start 30 = .ok (.iconst 0, 1) := by decide +kernel
theorem dX8_start_31 : decode cX8_start 31 = .ok (.putfield 44, 3) := by decide +kernel
theorem dX8_start_34 : decode cX8_start 34 = .ok (.aload_n 0, 1) := by decide +kernel
theorem dX8_start_35 : decode cX8_start 35 = .ok (.iconst 0, 1) := by decide +kernel
theorem dX8_start_36 : decode cX8_start 36 = .ok (.putfield 47, 3) := by decide +kernel
theorem dX8_start_39 : decode cX8_start 39 = .ok (.iconst 0, 1) := by decide +kernel
theorem dX8_start_40 : decode cX8_start 40 = .ok (.istore_n 2, 1) := by decide +kernel
theorem dX8_start_41 : decode cX8_start 41 = .ok (.iload_n 2, 1) := by decide +kernel
theorem dX8_start_42 : decode cX8_start 42 = .ok (.bipush 6, 2) := by decide +kernel
theorem dX8_start_44 : decode cX8_start 44 = .ok (.if_icmp .ge 20, 3) := by decide +kernel
theorem dX8_start_47 : decode cX8_start 47 = .ok (.aload_n 0, 1) := by decide +kernel
theorem dX8_start_48 : decode cX8_start 48 = .ok (.getfield 15, 3) := by decide +kernel
theorem dX8_start_51 : decode cX8_start 51 = .ok (.iload_n 2, 1) := by decide +kernel
theorem dX8_start_52 : decode cX8_start 52 = .ok (.aload_n 1, 1) := by decide +kernel
theorem dX8_start_53 : decode cX8_start 53 = .ok (.iload_n 2, 1) := by decide +kernel
theorem dX8_start_54 : decode cX8_start 54 = .ok (.invokevirtual 50, 3) := by decide +kernel
theorem dX8_start_57 : decode cX8_start 57 = .ok (.iastore, 1) := by decide +kernel
theorem dX8_start_58 : decode cX8_start 58 = .ok (.iinc 2 1, 3) := by decide +kernel
theorem dX8_start_61 : decode cX8_start 61 = .ok (.goto (-20), 3) := by decide +kernel
theorem dX8_start_64 : decode cX8_start 64 = .ok (.return_, 1) := by decide +kernel
theorem dX8_copyFrom_0 : decode cX8_copyFrom 0 = .ok (.aload_n 0, 1) := by decide +kernel
theorem dX8_copyFrom_1 : decode cX8_copyFrom 1 = .ok (.aload_n 1, 1) := by decide +kernel
theorem dX8_copyFrom_2 : decode cX8_copyFrom 2 = .ok (.getfield 21, 3) := by decide +kernel
theorem dX8_copyFrom_5 : decode cX8_copyFrom 5 = .ok (.putfield 21, 3) := by decide +kernel
theorem dX8_copyFrom_8 : decode cX8_copyFrom 8 = .ok (.aload_n 0, 1) := by decide +kernel
theorem dX8_copyFrom_9 : decode cX8_copyFrom 9 = .ok (.aload_n 1, 1) := by decide +kernel
theorem dX8_copyFrom_10 : decode cX8_copyFrom 10 = .ok (.getfield 31, 3) := by decide +kernel
theorem dX8_copyFrom_13 : decode cX8_copyFrom 13 = .ok (.putfield 31, 3) := by decide +kernel
theorem dX8_copyFrom_16 : decode cX8_copyFrom 16 = .ok (.aload_n 0, 1) := by decide +kernel
theorem dX8_copyFrom_17 : decode cX8_copyFrom 17 = .ok (.aload_n 1, 1) := by decide +kernel
theorem dX8_copyFrom_18 : decode cX8_copyFrom 18 = .ok (.getfield 34, 3) := by decide +kernel
theorem dX8_copyFrom_21 : decode cX8_copyFrom 21 = .ok (.putfield 34, 3) := by decide +kernel
theorem dX8_copyFrom_24 : decode cX8_copyFrom 24 = .ok (.aload_n 0, 1) := by decide +kernel
theorem dX8_copyFrom_25 : decode cX8_copyFrom 25 = .ok (.aload_n 1, 1) := by decide +kernel
theorem dX8_copyFrom_26 : decode cX8_copyFrom 26 = .ok (.getfield 37, 3) := by decide +kernel
theorem dX8_copyFrom_29 : decode cX8_copyFrom 29 = .ok (.putfield 37, 3) := by decide +kernel
theorem dX8_copyFrom_32 : decode cX8_copyFrom 32 = .ok (.aload_n 0, 1) := by decide +kernel
theorem dX8_copyFrom_33 : decode cX8_copyFrom 33 = .ok (.aload_n 1, 1) := by decide +kernel
theorem dX8_copyFrom_34 : decode cX8_copyFrom 34 = .ok (.getfield 41, 3) := by decide +kernel
theorem dX8_copyFrom_37 : decode cX8_copyFrom 37 = .ok (.putfield 41, 3) := by decide +kernel
theorem dX8_copyFrom_40 : decode cX8_copyFrom 40 = .ok (.aload_n 0, 1) := by decide +kernel
theorem dX8_copyFrom_41 : decode cX8_copyFrom 41 = .ok (.aload_n 1, 1) := by decide +kernel
theorem dX8_copyFrom_42 : decode cX8_copyFrom 42 = .ok (.getfield 44, 3) := by decide +kernel
theorem dX8_copyFrom_45 : decode cX8_copyFrom 45 = .ok (.putfield 44, 3) := by decide +kernel
theorem dX8_copyFrom_48 : decode cX8_copyFrom 48 = .ok (.aload_n 0, 1) := by decide +kernel
theorem dX8_copyFrom_49 : decode cX8_copyFrom 49 = .ok (.aload_n 1, 1) := by decide +kernel
theorem dX8_copyFrom_50 : decode cX8_copyFrom 50 = .ok (.getfield 47, 3) := by decide +kernel
theorem dX8_copyFrom_53 : decode cX8_copyFrom 53 = .ok (.putfield 47, 3) := by decide +kernel
theorem dX8_copyFrom_56 : decode cX8_copyFrom 56 = .ok (.aload_n 1, 1) := by decide +kernel
theorem dX8_copyFrom_57 : decode cX8_copyFrom 57 = .ok (.getfield 9, 3) := by decide +kernel
theorem dX8_copyFrom_60 : decode cX8_copyFrom 60 = .ok (.iconst 0, 1) := by decide +kernel
theorem dX8_copyFrom_61 : decode cX8_copyFrom 61 = .ok (.aload_n 0, 1) := by decide +kernel
theorem dX8_copyFrom_62 : decode cX8_copyFrom 62 = .ok (.getfield 9, 3) := by decide +kernel
theorem dX8_copyFrom_65 : decode cX8_copyFrom 65 = .ok (.iconst 0, 1) := by decide +kernel
theorem dX8_copyFrom_66 : decode cX8_copyFrom 66 = .ok (.bipush 6, 2) := by decide +kernel
theorem dX8_copyFrom_68 : decode cX8_copyFrom 68 = .ok (.invokestatic 53, 3) := by decide +kernel
theorem dX8_copyFrom_71 : decode cX8_copyFrom 71 = .ok (.aload_n 1, 1) := by decide +kernel
theorem dX8_copyFrom_72 : decode cX8_copyFrom 72 = .ok (.getfield 15, 3) := by decide +kernel
theorem dX8_copyFrom_75 : decode cX8_copyFrom 75 = .ok (.iconst 0, 1) := by decide +kernel
theorem dX8_copyFrom_76 : decode cX8_copyFrom 76 = .ok (.aload_n 0, 1) := by decide +kernel
theorem dX8_copyFrom_77 : decode cX8_copyFrom 77 = .ok (.getfield 15, 3) := by decide +kernel
theorem dX8_copyFrom_80 : decode cX8_copyFrom 80 = .ok (.iconst 0, 1) := by decide +kernel
theorem dX8_copyFrom_81 : decode cX8_copyFrom 81 = .ok (.bipush 6, 2) := by decide +kernel
theorem dX8_copyFrom_83 : decode cX8_copyFrom 83 = .ok (.invokestatic 53, 3) := by decide +kernel
theorem dX8_copyFrom_86 : decode cX8_copyFrom 86 = .ok (.aload_n 1, 1) := by decide +kernel
theorem dX8_copyFrom_87 : decode cX8_copyFrom 87 = .ok (.getfield 18, 3) := by decide +kernel
theorem dX8_copyFrom_90 : decode cX8_copyFrom 90 = .ok (.iconst 0, 1) := by decide +kernel
theorem dX8_copyFrom_91 : decode cX8_copyFrom 91 = .ok (.aload_n 0, 1) := by decide +kernel
theorem dX8_copyFrom_92 : decode cX8_copyFrom 92 = .ok (.getfield 18, 3) := by decide +kernel
theorem dX8_copyFrom_95 : decode cX8_copyFrom 95 = .ok (.iconst 0, 1) := by decide +kernel
theorem dX8_copyFrom_96 : decode cX8_copyFrom 96 = .ok (.bipush 6, 2) := by decide +kernel
theorem dX8_copyFrom_98 : decode cX8_copyFrom 98 = .ok (.invokestatic 53, 3) := by decide +kernel
theorem dX8_copyFrom_101 : decode cX8_copyFrom 101 = .ok (.return_, 1) := by decide +kernel
theorem dX8_leftOf_0 : decode cX8_leftOf 0 = .ok (.iload_n 1, 1) := by decide +kernel
theorem dX8_leftOf_1 : decode cX8_leftOf 1 = .ok (.ifCond .lt 18, 3) := by decide +kernel
theorem dX8_leftOf_4 : decode cX8_leftOf 4 = .ok (.iload_n 1, 1) := by decide +kernel
theorem dX8_leftOf_5 : decode cX8_leftOf 5 = .ok (.bipush 6, 2) := by decide +kernel
theorem dX8_leftOf_7 : decode cX8_leftOf 7 = .ok (.if_icmp .ge 12, 3) := by decide +kernel
theorem dX8_leftOf_10 : decode cX8_leftOf 10 = .ok (.aload_n 0, 1) := by decide +kernel
theorem dX8_leftOf_11 : decode cX8_leftOf 11 = .ok (.getfield 15, 3) := by decide +kernel
theorem dX8_leftOf_14 : decode cX8_leftOf 14 = .ok (.iload_n 1, 1) := by decide +kernel
theorem dX8_leftOf_15 : decode cX8_leftOf 15 = .ok (.iaload, 1) := by decide +kernel
theorem dX8_leftOf_16 : decode cX8_leftOf 16 = .ok (.goto 4, 3) := by decide +kernel
theorem dX8_leftOf_19 : decode cX8_leftOf 19 = .ok (.iconst 0, 1) := by decide +kernel
theorem dX8_leftOf_20 : decode cX8_leftOf 20 = .ok (.ireturn, 1) := by decide +kernel
theorem dX8_lastNightOf_0 : decode cX8_lastNightOf 0 = .ok (.iload_n 1, 1) := by decide +kernel
theorem dX8_lastNightOf_1 : decode cX8_lastNightOf 1 = .ok (.ifCond .lt 18, 3) := by decide +kernel
theorem dX8_lastNightOf_4 : decode cX8_lastNightOf 4 = .ok (.iload_n 1, 1) := by decide +kernel
theorem dX8_lastNightOf_5 : decode cX8_lastNightOf 5 = .ok (.bipush 6, 2) := by decide +kernel
theorem dX8_lastNightOf_7 : decode cX8_lastNightOf 7 = .ok (.if_icmp .ge 12, 3) := by decide +kernel
theorem dX8_lastNightOf_10 : decode cX8_lastNightOf 10 = .ok (.aload_n 0, 1) := by decide +kernel
theorem dX8_lastNightOf_11 : decode cX8_lastNightOf 11 = .ok (.getfield 18, 3) := by decide +kernel
theorem dX8_lastNightOf_14 : decode cX8_lastNightOf 14 = .ok (.iload_n 1, 1) := by decide +kernel
theorem dX8_lastNightOf_15 : decode cX8_lastNightOf 15 = .ok (.iaload, 1) := by decide +kernel
theorem dX8_lastNightOf_16 : decode cX8_lastNightOf 16 = .ok (.goto 4, 3) := by decide +kernel
theorem dX8_lastNightOf_19 : decode cX8_lastNightOf 19 = .ok (.iconst 0, 1) := by decide +kernel
theorem dX8_lastNightOf_20 : decode cX8_lastNightOf 20 = .ok (.ireturn, 1) := by decide +kernel
theorem dX8_isBegun_0 : decode cX8_isBegun 0 = .ok (.aload_n 0, 1) := by decide +kernel
theorem dX8_isBegun_1 : decode cX8_isBegun 1 = .ok (.getfield 41, 3) := by decide +kernel
theorem dX8_isBegun_4 : decode cX8_isBegun 4 = .ok (.iload_n 1, 1) := by decide +kernel
theorem dX8_isBegun_5 : decode cX8_isBegun 5 = .ok (.ishr, 1) := by decide +kernel
theorem dX8_isBegun_6 : decode cX8_isBegun 6 = .ok (.iconst 1, 1) := by decide +kernel
theorem dX8_isBegun_7 : decode cX8_isBegun 7 = .ok (.iand, 1) := by decide +kernel
theorem dX8_isBegun_8 : decode cX8_isBegun 8 = .ok (.iconst 1, 1) := by decide +kernel
theorem dX8_isBegun_9 : decode cX8_isBegun 9 = .ok (.if_icmp .ne 7, 3) := by decide +kernel
theorem dX8_isBegun_12 : decode cX8_isBegun 12 = .ok (.iconst 1, 1) := by decide +kernel
theorem dX8_isBegun_13 : decode cX8_isBegun 13 = .ok (.goto 4, 3) := by decide +kernel
theorem dX8_isBegun_16 : decode cX8_isBegun 16 = .ok (.iconst 0, 1) := by decide +kernel
theorem dX8_isBegun_17 : decode cX8_isBegun 17 = .ok (.ireturn, 1) := by decide +kernel
theorem dX8_openAt_0 : decode cX8_openAt 0 = .ok (.iload_n 1, 1) := by decide +kernel
theorem dX8_openAt_1 : decode cX8_openAt 1 = .ok (.ifCond .lt 26, 3) := by decide +kernel
theorem dX8_openAt_4 : decode cX8_openAt 4 = .ok (.iload_n 1, 1) := by decide +kernel
theorem dX8_openAt_5 : decode cX8_openAt 5 = .ok (.aload_n 0, 1) := by decide +kernel
theorem dX8_openAt_6 : decode cX8_openAt 6 = .ok (.getfield 47, 3) := by decide +kernel
theorem dX8_openAt_9 : decode cX8_openAt 9 = .ok (.if_icmp .ge 18, 3) := by decide +kernel
theorem dX8_openAt_12 : decode cX8_openAt 12 = .ok (.iload_n 1, 1) := by decide +kernel
theorem dX8_openAt_13 : decode cX8_openAt 13 = .ok (.bipush 6, 2) := by decide +kernel
theorem dX8_openAt_15 : decode cX8_openAt 15 = .ok (.if_icmp .ge 12, 3) := by decide +kernel
theorem dX8_openAt_18 : decode cX8_openAt 18 = .ok (.aload_n 0, 1) := by decide +kernel
theorem dX8_openAt_19 : decode cX8_openAt 19 = .ok (.getfield 9, 3) := by decide +kernel
theorem dX8_openAt_22 : decode cX8_openAt 22 = .ok (.iload_n 1, 1) := by decide +kernel
theorem dX8_openAt_23 : decode cX8_openAt 23 = .ok (.iaload, 1) := by decide +kernel
theorem dX8_openAt_24 : decode cX8_openAt 24 = .ok (.goto 5, 3) := by decide +kernel
theorem dX8_openAt_27 : decode cX8_openAt 27 = .ok (.bipush (-9), 2) := by decide +kernel
theorem dX8_openAt_29 : decode cX8_openAt 29 = .ok (.ireturn, 1) := by decide +kernel
theorem dX8_innermost_0 : decode cX8_innermost 0 = .ok (.aload_n 0, 1) := by decide +kernel
theorem dX8_innermost_1 : decode cX8_innermost 1 = .ok (.getfield 47, 3) := by decide +kernel
theorem dX8_innermost_4 : decode cX8_innermost 4 = .ok (.ifCond .le 26, 3) := by decide +kernel
theorem dX8_innermost_7 : decode cX8_innermost 7 = .ok (.aload_n 0, 1) := by decide +kernel
theorem dX8_innermost_8 : decode cX8_innermost 8 = .ok (.getfield 47, 3) := by decide +kernel
theorem dX8_innermost_11 : decode cX8_innermost 11 = .ok (.bipush 6, 2) := by decide +kernel
theorem dX8_innermost_13 : decode cX8_innermost 13 = .ok (.if_icmp .gt 17, 3) := by decide +kernel
theorem dX8_innermost_16 : decode cX8_innermost 16 = .ok (.aload_n 0, 1) := by decide +kernel
theorem dX8_innermost_17 : decode cX8_innermost 17 = .ok (.getfield 9, 3) := by decide +kernel
theorem dX8_innermost_20 : decode cX8_innermost 20 = .ok (.aload_n 0, 1) := by decide +kernel
theorem dX8_innermost_21 : decode cX8_innermost 21 = .ok (.getfield 47, 3) := by decide +kernel
theorem dX8_innermost_24 : decode cX8_innermost 24 = .ok (.iconst 1, 1) := by decide +kernel
theorem dX8_innermost_25 : decode cX8_innermost 25 = .ok (.isub, 1) := by decide +kernel
theorem dX8_innermost_26 : decode cX8_innermost 26 = .ok (.iaload, 1) := by decide +kernel
theorem dX8_innermost_27 : decode cX8_innermost 27 = .ok (.goto 5, 3) := by decide +kernel
theorem dX8_innermost_30 : decode cX8_innermost 30 = .ok (.bipush (-9), 2) := by decide +kernel
theorem dX8_innermost_32 : decode cX8_innermost 32 = .ok (.ireturn, 1) := by decide +kernel
theorem dX8_placeOf_0 : decode cX8_placeOf 0 = .ok (.iconst 0, 1) := by decide +kernel
theorem dX8_placeOf_1 : decode cX8_placeOf 1 = .ok (.istore_n 2, 1) := by decide +kernel
theorem dX8_placeOf_2 : decode cX8_placeOf 2 = .ok (.iload_n 2, 1) := by decide +kernel
theorem dX8_placeOf_3 : decode cX8_placeOf 3 = .ok (.aload_n 0, 1) := by decide +kernel
theorem dX8_placeOf_4 : decode cX8_placeOf 4 = .ok (.getfield 47, 3) := by decide +kernel
theorem dX8_placeOf_7 : decode cX8_placeOf 7 = .ok (.if_icmp .ge 20, 3) := by decide +kernel
theorem dX8_placeOf_10 : decode cX8_placeOf 10 = .ok (.aload_n 0, 1) := by decide +kernel
theorem dX8_placeOf_11 : decode cX8_placeOf 11 = .ok (.iload_n 2, 1) := by decide +kernel
theorem dX8_placeOf_12 : decode cX8_placeOf 12 = .ok (.invokevirtual 59, 3) := by decide +kernel
theorem dX8_placeOf_15 : decode cX8_placeOf 15 = .ok (.iload_n 1, 1) := by decide +kernel
theorem dX8_placeOf_16 : decode cX8_placeOf 16 = .ok (.if_icmp .ne 5, 3) := by decide +kernel
theorem dX8_placeOf_19 : decode cX8_placeOf 19 = .ok (.iload_n 2, 1) := by decide +kernel
theorem dX8_placeOf_20 : decode cX8_placeOf 20 = .ok (.ireturn, 1) := by decide +kernel
theorem dX8_placeOf_21 : decode cX8_placeOf 21 = .ok (.iinc 2 1, 3) := by decide +kernel
theorem dX8_placeOf_24 : decode cX8_placeOf 24 = .ok (.goto (-22), 3) := by decide +kernel
theorem dX8_placeOf_27 : decode cX8_placeOf 27 = .ok (.bipush (-9), 2) := by decide +kernel
theorem dX8_placeOf_29 : decode cX8_placeOf 29 = .ok (.ireturn, 1) := by decide +kernel
theorem dX8_endedBits_0 : decode cX8_endedBits 0 = .ok (.iconst 0, 1) := by decide +kernel
theorem dX8_endedBits_1 : decode cX8_endedBits 1 = .ok (.istore_n 1, 1) := by decide +kernel
theorem dX8_endedBits_2 : decode cX8_endedBits 2 = .ok (.iconst 0, 1) := by decide +kernel
theorem dX8_endedBits_3 : decode cX8_endedBits 3 = .ok (.istore_n 2, 1) := by decide +kernel
theorem dX8_endedBits_4 : decode cX8_endedBits 4 = .ok (.iload_n 2, 1) := by decide +kernel
theorem dX8_endedBits_5 : decode cX8_endedBits 5 = .ok (.bipush 6, 2) := by decide +kernel
theorem dX8_endedBits_7 : decode cX8_endedBits 7 = .ok (.if_icmp .ge 36, 3) := by decide +kernel
theorem dX8_endedBits_10 : decode cX8_endedBits 10 = .ok (.iload_n 1, 1) := by decide +kernel
theorem dX8_endedBits_11 : decode cX8_endedBits 11 = .ok (.aload_n 0, 1) := by decide +kernel
theorem dX8_endedBits_12 : decode cX8_endedBits 12 = .ok (.iload_n 2, 1) := by decide +kernel
theorem dX8_endedBits_13 : decode cX8_endedBits 13 = .ok (.invokevirtual 62, 3) := by decide +kernel
theorem dX8_endedBits_16 : decode cX8_endedBits 16 = .ok (.ifCond .eq 18, 3) := by decide +kernel
theorem dX8_endedBits_19 : decode cX8_endedBits 19 = .ok (.aload_n 0, 1) := by decide +kernel
theorem dX8_endedBits_20 : decode cX8_endedBits 20 = .ok (.getfield 15, 3) := by decide +kernel
theorem dX8_endedBits_23 : decode cX8_endedBits 23 = .ok (.iload_n 2, 1) := by decide +kernel
theorem dX8_endedBits_24 : decode cX8_endedBits 24 = .ok (.iaload, 1) := by decide +kernel
theorem dX8_endedBits_25 : decode cX8_endedBits 25 = .ok (.ifCond .ne 9, 3) := by decide +kernel
theorem dX8_endedBits_28 : decode cX8_endedBits 28 = .ok (.iconst 1, 1) := by decide +kernel
theorem dX8_endedBits_29 : decode cX8_endedBits 29 = .ok (.iload_n 2, 1) := by decide +kernel
theorem dX8_endedBits_30 : decode cX8_endedBits 30 = .ok (.ishl, 1) := by decide +kernel
theorem dX8_endedBits_31 : decode cX8_endedBits 31 = .ok (.goto 4, 3) := by decide +kernel
theorem dX8_endedBits_34 : decode cX8_endedBits 34 = .ok (.iconst 0, 1) := by decide +kernel
theorem dX8_endedBits_35 : decode cX8_endedBits 35 = .ok (.ior, 1) := by decide +kernel
theorem dX8_endedBits_36 : decode cX8_endedBits 36 = .ok (.istore_n 1, 1) := by decide +kernel
theorem dX8_endedBits_37 : decode cX8_endedBits 37 = .ok (.iinc 2 1, 3) := by decide +kernel
theorem dX8_endedBits_40 : decode cX8_endedBits 40 = .ok (.goto (-36), 3) := by decide +kernel
theorem dX8_endedBits_43 : decode cX8_endedBits 43 = .ok (.iload_n 1, 1) := by decide +kernel
theorem dX8_endedBits_44 : decode cX8_endedBits 44 = .ok (.ireturn, 1) := by decide +kernel
theorem dX8_mayBeginBits_0 : decode cX8_mayBeginBits 0 = .ok (.iconst 0, 1) := by decide +kernel
theorem dX8_mayBeginBits_1 : decode cX8_mayBeginBits 1 = .ok (.istore_n 2, 1) := by decide +kernel
theorem dX8_mayBeginBits_2 : decode cX8_mayBeginBits 2 = .ok (.iconst 0, 1) := by decide +kernel
theorem dX8_mayBeginBits_3 : decode cX8_mayBeginBits 3 = .ok (.istore_n 3, 1) := by decide +kernel
theorem dX8_mayBeginBits_4 : decode cX8_mayBeginBits 4 = .ok (.iload_n 3, 1) := by decide +kernel
theorem dX8_mayBeginBits_5 : decode cX8_mayBeginBits 5 = .ok (.aload_n 1, 1) := by decide +kernel
theorem dX8_mayBeginBits_6 : decode cX8_mayBeginBits 6 = .ok (.getfield 66, 3) := by decide +kernel
theorem dX8_mayBeginBits_9 : decode cX8_mayBeginBits 9 = .ok (.if_icmp .ge 28, 3) := by decide +kernel
theorem dX8_mayBeginBits_12 : decode cX8_mayBeginBits 12 = .ok (.iload_n 2, 1) := by decide +kernel
theorem dX8_mayBeginBits_13 : decode cX8_mayBeginBits 13 = .ok (.aload_n 0, 1) := by decide +kernel
theorem dX8_mayBeginBits_14 : decode cX8_mayBeginBits 14 = .ok (.aload_n 1, 1) := by decide +kernel
theorem dX8_mayBeginBits_15 : decode cX8_mayBeginBits 15 = .ok (.iload_n 3, 1) := by decide +kernel
theorem dX8_mayBeginBits_16 : decode cX8_mayBeginBits 16 = .ok (.invokevirtual 69, 3) := by decide +kernel
theorem dX8_mayBeginBits_19 : decode cX8_mayBeginBits 19 = .ok (.ifCond .eq 9, 3) := by decide +kernel
theorem dX8_mayBeginBits_22 : decode cX8_mayBeginBits 22 = .ok (.iconst 1, 1) := by decide +kernel
theorem dX8_mayBeginBits_23 : decode cX8_mayBeginBits 23 = .ok (.iload_n 3, 1) := by decide +kernel
theorem dX8_mayBeginBits_24 : decode cX8_mayBeginBits 24 = .ok (.ishl, 1) := by decide +kernel
theorem dX8_mayBeginBits_25 : decode cX8_mayBeginBits 25 = .ok (.goto 4, 3) := by decide +kernel
theorem dX8_mayBeginBits_28 : decode cX8_mayBeginBits 28 = .ok (.iconst 0, 1) := by decide +kernel
theorem dX8_mayBeginBits_29 : decode cX8_mayBeginBits 29 = .ok (.ior, 1) := by decide +kernel
theorem dX8_mayBeginBits_30 : decode cX8_mayBeginBits 30 = .ok (.istore_n 2, 1) := by decide +kernel
theorem dX8_mayBeginBits_31 : decode cX8_mayBeginBits 31 = .ok (.iinc 3 1, 3) := by decide +kernel
theorem dX8_mayBeginBits_34 : decode cX8_mayBeginBits 34 = .ok (.goto (-30), 3) := by decide +kernel
theorem dX8_mayBeginBits_37 : decode cX8_mayBeginBits 37 = .ok (.iload_n 2, 1) := by decide +kernel
theorem dX8_mayBeginBits_38 : decode cX8_mayBeginBits 38 = .ok (.ireturn, 1) := by decide +kernel
theorem dX8_bitOf_0 : decode cX8_bitOf 0 = .ok (.iload_n 0, 1) := by decide +kernel
theorem dX8_bitOf_1 : decode cX8_bitOf 1 = .ok (.ifCond .lt 15, 3) := by decide +kernel
theorem dX8_bitOf_4 : decode cX8_bitOf 4 = .ok (.iload_n 0, 1) := by decide +kernel
theorem dX8_bitOf_5 : decode cX8_bitOf 5 = .ok (.bipush 6, 2) := by decide +kernel
theorem dX8_bitOf_7 : decode cX8_bitOf 7 = .ok (.if_icmp .ge 9, 3) := by decide +kernel
theorem dX8_bitOf_10 : decode cX8_bitOf 10 = .ok (.iconst 1, 1) := by decide +kernel
theorem dX8_bitOf_11 : decode cX8_bitOf 11 = .ok (.iload_n 0, 1) := by decide +kernel
theorem dX8_bitOf_12 : decode cX8_bitOf 12 = .ok (.ishl, 1) := by decide +kernel
theorem dX8_bitOf_13 : decode cX8_bitOf 13 = .ok (.goto 4, 3) := by decide +kernel
theorem dX8_bitOf_16 : decode cX8_bitOf 16 = .ok (.iconst 0, 1) := by decide +kernel
theorem dX8_bitOf_17 : decode cX8_bitOf 17 = .ok (.ireturn, 1) := by decide +kernel
theorem dX8_hasHour_0 : decode cX8_hasHour 0 = .ok (.aload_n 0, 1) := by decide +kernel
theorem dX8_hasHour_1 : decode cX8_hasHour 1 = .ok (.getfield 37, 3) := by decide +kernel
theorem dX8_hasHour_4 : decode cX8_hasHour 4 = .ok (.ifCond .eq 14, 3) := by decide +kernel
theorem dX8_hasHour_7 : decode cX8_hasHour 7 = .ok (.aload_n 0, 1) := by decide +kernel
theorem dX8_hasHour_8 : decode cX8_hasHour 8 = .ok (.getfield 31, 3) := by decide +kernel
theorem dX8_hasHour_11 : decode cX8_hasHour 11 = .ok (.ifCond .le 7, 3) := by decide +kernel
theorem dX8_hasHour_14 : decode cX8_hasHour 14 = .ok (.iconst 1, 1) := by decide +kernel
theorem dX8_hasHour_15 : decode cX8_hasHour 15 = .ok (.goto 4, 3) := by decide +kernel
theorem dX8_hasHour_18 : decode cX8_hasHour 18 = .ok (.iconst 0, 1) := by decide +kernel
theorem dX8_hasHour_19 : decode cX8_hasHour 19 = .ok (.ireturn, 1) := by decide +kernel
theorem dX8_mayBegin_0 : decode cX8_mayBegin 0 = .ok (.aload_n 0, 1) := by decide +kernel
theorem dX8_mayBegin_1 : decode cX8_mayBegin 1 = .ok (.invokevirtual 73, 3) := by decide +kernel
theorem dX8_mayBegin_4 : decode cX8_mayBegin 4 = .ok (.ifCond .eq 30, 3) := by decide +kernel
theorem dX8_mayBegin_7 : decode cX8_mayBegin 7 = .ok (.aload_n 1, 1) := by decide +kernel
theorem dX8_mayBegin_8 : decode cX8_mayBegin 8 = .ok (.iload_n 2, 1) := by decide +kernel
theorem dX8_mayBegin_9 : decode cX8_mayBegin 9 = .ok (.invokevirtual 77, 3) := by decide +kernel
theorem dX8_mayBegin_12 : decode cX8_mayBegin 12 = .ok (.ifCond .eq 22, 3) := by decide +kernel
theorem dX8_mayBegin_15 : decode cX8_mayBegin 15 = .ok (.aload_n 0, 1) := by decide +kernel
theorem dX8_mayBegin_16 : decode cX8_mayBegin 16 = .ok (.iload_n 2, 1) := by decide +kernel
theorem dX8_mayBegin_17 : decode cX8_mayBegin 17 = .ok (.invokevirtual 62, 3) := by decide +kernel
theorem dX8_mayBegin_20 : decode cX8_mayBegin 20 = .ok (.ifCond .ne 14, 3) := by decide +kernel
theorem dX8_mayBegin_23 : decode cX8_mayBegin 23 = .ok (.aload_n 0, 1) := by decide +kernel
theorem dX8_mayBegin_24 : decode cX8_mayBegin 24 = .ok (.getfield 47, 3) := by decide +kernel
theorem dX8_mayBegin_27 : decode cX8_mayBegin 27 = .ok (.aload_n 1, 1) := by decide +kernel
theorem dX8_mayBegin_28 : decode cX8_mayBegin 28 = .ok (.getfield 80, 3) := by decide +kernel
theorem dX8_mayBegin_31 : decode cX8_mayBegin 31 = .ok (.if_icmp .lt 5, 3) := by decide +kernel
theorem dX8_mayBegin_34 : decode cX8_mayBegin 34 = .ok (.iconst 0, 1) := by decide +kernel
theorem dX8_mayBegin_35 : decode cX8_mayBegin 35 = .ok (.ireturn, 1) := by decide +kernel
theorem dX8_mayBegin_36 : decode cX8_mayBegin 36 = .ok (.aload_n 1, 1) := by decide +kernel
theorem dX8_mayBegin_37 : decode cX8_mayBegin 37 = .ok (.getfield 83, 3) := by decide +kernel
theorem dX8_mayBegin_40 : decode cX8_mayBegin 40 = .ok (.iload_n 2, 1) := by decide +kernel
theorem dX8_mayBegin_41 : decode cX8_mayBegin 41 = .ok (.iaload, 1) := by decide +kernel
theorem dX8_mayBegin_42 : decode cX8_mayBegin 42 = .ok (.istore_n 3, 1) := by decide +kernel
theorem dX8_mayBegin_43 : decode cX8_mayBegin 43 = .ok (.iload_n 3, 1) := by decide +kernel
theorem dX8_mayBegin_44 : decode cX8_mayBegin 44 = .ok (.bipush 9, 2) := by decide +kernel
theorem dX8_mayBegin_46 : decode cX8_mayBegin 46 = .ok (.if_icmp .eq 11, 3) := by decide +kernel
theorem dX8_mayBegin_49 : decode cX8_mayBegin 49 = .ok (.iload_n 3, 1) := by decide +kernel
theorem dX8_mayBegin_50 : decode cX8_mayBegin 50 = .ok (.aload_n 0, 1) := by decide +kernel
theorem dX8_mayBegin_51 : decode cX8_mayBegin 51 = .ok (.invokevirtual 86, 3) := by decide +kernel
theorem dX8_mayBegin_54 : decode cX8_mayBegin 54 = .ok (.if_icmp .ne 7, 3) := by decide +kernel
theorem dX8_mayBegin_57 : decode cX8_mayBegin 57 = .ok (.iconst 1, 1) := by decide +kernel
theorem dX8_mayBegin_58 : decode cX8_mayBegin 58 = .ok (.goto 4, 3) := by decide +kernel
theorem dX8_mayBegin_61 : decode cX8_mayBegin 61 = .ok (.iconst 0, 1) := by decide +kernel
theorem dX8_mayBegin_62 : decode cX8_mayBegin 62 = .ok (.ireturn, 1) := by decide +kernel
theorem dX8_mayDawn_0 : decode cX8_mayDawn 0 = .ok (.aload_n 0, 1) := by decide +kernel
theorem dX8_mayDawn_1 : decode cX8_mayDawn 1 = .ok (.getfield 37, 3) := by decide +kernel
theorem dX8_mayDawn_4 : decode cX8_mayDawn 4 = .ok (.ifCond .eq 23, 3) := by decide +kernel
theorem dX8_mayDawn_7 : decode cX8_mayDawn 7 = .ok (.aload_n 0, 1) := by decide +kernel
theorem dX8_mayDawn_8 : decode cX8_mayDawn 8 = .ok (.getfield 31, 3) := by decide +kernel
theorem dX8_mayDawn_11 : decode cX8_mayDawn 11 = .ok (.ifCond .gt 16, 3) := by decide +kernel
theorem dX8_mayDawn_14 : decode cX8_mayDawn 14 = .ok (.aload_n 0, 1) := by decide +kernel
theorem dX8_mayDawn_15 : decode cX8_mayDawn 15 = .ok (.getfield 21, 3) := by decide +kernel
theorem dX8_mayDawn_18 : decode cX8_mayDawn 18 = .ok (.bipush 99, 2) := by decide +kernel
theorem dX8_mayDawn_20 : decode cX8_mayDawn 20 = .ok (.if_icmp .ge 7, 3) := by decide +kernel
theorem dX8_mayDawn_23 : decode cX8_mayDawn 23 = .ok (.iconst 1, 1) := by decide +kernel
theorem dX8_mayDawn_24 : decode cX8_mayDawn 24 = .ok (.goto 4, 3) := by decide +kernel
theorem dX8_mayDawn_27 : decode cX8_mayDawn 27 = .ok (.iconst 0, 1) := by decide +kernel
theorem dX8_mayDawn_28 : decode cX8_mayDawn 28 = .ok (.ireturn, 1) := by decide +kernel
theorem dX8_beginTale_0 : decode cX8_beginTale 0 = .ok (.iload_n 1, 1) := by decide +kernel
theorem dX8_beginTale_1 : decode cX8_beginTale 1 = .ok (.ifCond .lt 75, 3) := by decide +kernel
theorem dX8_beginTale_4 : decode cX8_beginTale 4 = .ok (.iload_n 1, 1) := by decide +kernel
theorem dX8_beginTale_5 : decode cX8_beginTale 5 = .ok (.bipush 6, 2) := by decide +kernel
theorem dX8_beginTale_7 : decode cX8_beginTale 7 = .ok (.if_icmp .ge 69, 3) := by decide +kernel
theorem dX8_beginTale_10 : decode cX8_beginTale 10 = .ok (.aload_n 0, 1) := by decide +kernel
theorem dX8_beginTale_11 : decode cX8_beginTale 11 = .ok (.getfield 47, 3) := by decide +kernel
theorem dX8_beginTale_14 : decode cX8_beginTale 14 = .ok (.ifCond .lt 62, 3) := by decide +kernel
theorem dX8_beginTale_17 : decode cX8_beginTale 17 = .ok (.aload_n 0, 1) := by decide +kernel
theorem dX8_beginTale_18 : decode cX8_beginTale 18 = .ok (.getfield 47, 3) := by decide +kernel
theorem dX8_beginTale_21 : decode cX8_beginTale 21 = .ok (.bipush 6, 2) := by decide +kernel
theorem dX8_beginTale_23 : decode cX8_beginTale 23 = .ok (.if_icmp .ge 53, 3) := by decide +kernel
theorem dX8_beginTale_26 : decode cX8_beginTale 26 = .ok (.aload_n 0, 1) := by decide +kernel
theorem dX8_beginTale_27 : decode cX8_beginTale 27 = .ok (.dup, 1) := by decide +kernel
theorem dX8_beginTale_28 : decode cX8_beginTale 28 = .ok (.getfield 41, 3) := by decide +kernel
theorem dX8_beginTale_31 : decode cX8_beginTale 31 = .ok (.iconst 1, 1) := by decide +kernel
theorem dX8_beginTale_32 : decode cX8_beginTale 32 = .ok (.iload_n 1, 1) := by decide +kernel
theorem dX8_beginTale_33 : decode cX8_beginTale 33 = .ok (.ishl, 1) := by decide +kernel
theorem dX8_beginTale_34 : decode cX8_beginTale 34 = .ok (.ior, 1) := by decide +kernel
theorem dX8_beginTale_35 : decode cX8_beginTale 35 = .ok (.putfield 41, 3) := by decide +kernel
theorem dX8_beginTale_38 : decode cX8_beginTale 38 = .ok (.aload_n 0, 1) := by decide +kernel
theorem dX8_beginTale_39 : decode cX8_beginTale 39 = .ok (.dup, 1) := by decide +kernel
theorem dX8_beginTale_40 : decode cX8_beginTale 40 = .ok (.getfield 44, 3) := by decide +kernel
theorem dX8_beginTale_43 : decode cX8_beginTale 43 = .ok (.iconst 1, 1) := by decide +kernel
theorem dX8_beginTale_44 : decode cX8_beginTale 44 = .ok (.iload_n 1, 1) := by decide +kernel
theorem dX8_beginTale_45 : decode cX8_beginTale 45 = .ok (.ishl, 1) := by decide +kernel
theorem dX8_beginTale_46 : decode cX8_beginTale 46 = .ok (.ior, 1) := by decide +kernel
theorem dX8_beginTale_47 : decode cX8_beginTale 47 = .ok (.putfield 44, 3) := by decide +kernel
theorem dX8_beginTale_50 : decode cX8_beginTale 50 = .ok (.aload_n 0, 1) := by decide +kernel
theorem dX8_beginTale_51 : decode cX8_beginTale 51 = .ok (.getfield 9, 3) := by decide +kernel
theorem dX8_beginTale_54 : decode cX8_beginTale 54 = .ok (.aload_n 0, 1) := by decide +kernel
theorem dX8_beginTale_55 : decode cX8_beginTale 55 = .ok (.getfield 47, 3) := by decide +kernel
theorem dX8_beginTale_58 : decode cX8_beginTale 58 = .ok (.iload_n 1, 1) := by decide +kernel
theorem dX8_beginTale_59 : decode cX8_beginTale 59 = .ok (.iastore, 1) := by decide +kernel
theorem dX8_beginTale_60 : decode cX8_beginTale 60 = .ok (.aload_n 0, 1) := by decide +kernel
theorem dX8_beginTale_61 : decode cX8_beginTale 61 = .ok (.dup, 1) := by decide +kernel
theorem dX8_beginTale_62 : decode cX8_beginTale 62 = .ok (.getfield 47, 3) := by decide +kernel
theorem dX8_beginTale_65 : decode cX8_beginTale 65 = .ok (.iconst 1, 1) := by decide +kernel
theorem dX8_beginTale_66 : decode cX8_beginTale 66 = .ok (.iadd, 1) := by decide +kernel
theorem dX8_beginTale_67 : decode cX8_beginTale 67 = .ok (.putfield 47, 3) := by decide +kernel
theorem dX8_beginTale_70 : decode cX8_beginTale 70 = .ok (.aload_n 0, 1) := by decide +kernel
theorem dX8_beginTale_71 : decode cX8_beginTale 71 = .ok (.iload_n 1, 1) := by decide +kernel
theorem dX8_beginTale_72 : decode cX8_beginTale 72 = .ok (.iconst 1, 1) := by decide +kernel
theorem dX8_beginTale_73 : decode cX8_beginTale 73 = .ok (.invokevirtual 90, 3) := by decide +kernel
theorem dX8_beginTale_76 : decode cX8_beginTale 76 = .ok (.return_, 1) := by decide +kernel
theorem dX8_tellParts_0 : decode cX8_tellParts 0 = .ok (.iload_n 1, 1) := by decide +kernel
theorem dX8_tellParts_1 : decode cX8_tellParts 1 = .ok (.ifCond .lt 72, 3) := by decide +kernel
theorem dX8_tellParts_4 : decode cX8_tellParts 4 = .ok (.iload_n 1, 1) := by decide +kernel
theorem dX8_tellParts_5 : decode cX8_tellParts 5 = .ok (.bipush 6, 2) := by decide +kernel
theorem dX8_tellParts_7 : decode cX8_tellParts 7 = .ok (.if_icmp .ge 66, 3) := by decide +kernel
theorem dX8_tellParts_10 : decode cX8_tellParts 10 = .ok (.aload_n 0, 1) := by decide +kernel
theorem dX8_tellParts_11 : decode cX8_tellParts 11 = .ok (.getfield 15, 3) := by decide +kernel
theorem dX8_tellParts_14 : decode cX8_tellParts 14 = .ok (.iload_n 1, 1) := by decide +kernel
theorem dX8_tellParts_15 : decode cX8_tellParts 15 = .ok (.dup2, 1) := by decide +kernel
theorem dX8_tellParts_16 : decode cX8_tellParts 16 = .ok (.iaload, 1) := by decide +kernel
theorem dX8_tellParts_17 : decode cX8_tellParts 17 = .ok (.iload_n 2, 1) := by decide +kernel
theorem dX8_tellParts_18 : decode cX8_tellParts 18 = .ok (.isub, 1) := by decide +kernel
theorem dX8_tellParts_19 : decode cX8_tellParts 19 = .ok (.iastore, 1) := by decide +kernel
theorem dX8_tellParts_20 : decode cX8_tellParts 20 = .ok (.aload_n 0, 1) := by decide +kernel
theorem dX8_tellParts_21 : decode cX8_tellParts 21 = .ok (.getfield 18, 3) := by decide +kernel
theorem dX8_tellParts_24 : decode cX8_tellParts 24 = .ok (.iload_n 1, 1) := by decide +kernel
theorem dX8_tellParts_25 : decode cX8_tellParts 25 = .ok (.aload_n 0, 1) := by decide +kernel
theorem dX8_tellParts_26 : decode cX8_tellParts 26 = .ok (.getfield 21, 3) := by decide +kernel
theorem dX8_tellParts_29 : decode cX8_tellParts 29 = .ok (.iastore, 1) := by decide +kernel
theorem dX8_tellParts_30 : decode cX8_tellParts 30 = .ok (.aload_n 0, 1) := by decide +kernel
theorem dX8_tellParts_31 : decode cX8_tellParts 31 = .ok (.dup, 1) := by decide +kernel
theorem dX8_tellParts_32 : decode cX8_tellParts 32 = .ok (.getfield 31, 3) := by decide +kernel
theorem dX8_tellParts_35 : decode cX8_tellParts 35 = .ok (.iload_n 2, 1) := by decide +kernel
theorem dX8_tellParts_36 : decode cX8_tellParts 36 = .ok (.isub, 1) := by decide +kernel
theorem dX8_tellParts_37 : decode cX8_tellParts 37 = .ok (.putfield 31, 3) := by decide +kernel
theorem dX8_tellParts_40 : decode cX8_tellParts 40 = .ok (.aload_n 0, 1) := by decide +kernel
theorem dX8_tellParts_41 : decode cX8_tellParts 41 = .ok (.getfield 15, 3) := by decide +kernel
theorem dX8_tellParts_44 : decode cX8_tellParts 44 = .ok (.iload_n 1, 1) := by decide +kernel
theorem dX8_tellParts_45 : decode cX8_tellParts 45 = .ok (.iaload, 1) := by decide +kernel
theorem dX8_tellParts_46 : decode cX8_tellParts 46 = .ok (.ifCond .gt 27, 3) := by decide +kernel
theorem dX8_tellParts_49 : decode cX8_tellParts 49 = .ok (.aload_n 0, 1) := by decide +kernel
theorem dX8_tellParts_50 : decode cX8_tellParts 50 = .ok (.dup, 1) := by decide +kernel
theorem dX8_tellParts_51 : decode cX8_tellParts 51 = .ok (.getfield 44, 3) := by decide +kernel
theorem dX8_tellParts_54 : decode cX8_tellParts 54 = .ok (.iconst 1, 1) := by decide +kernel
theorem dX8_tellParts_55 : decode cX8_tellParts 55 = .ok (.iload_n 1, 1) := by decide +kernel
theorem dX8_tellParts_56 : decode cX8_tellParts 56 = .ok (.ishl, 1) := by decide +kernel
theorem dX8_tellParts_57 : decode cX8_tellParts 57 = .ok (.iconst (-1), 1) := by decide +kernel
theorem dX8_tellParts_58 : decode cX8_tellParts 58 = .ok (.ixor, 1) := by decide +kernel
theorem dX8_tellParts_59 : decode cX8_tellParts 59 = .ok (.iand, 1) := by decide +kernel
theorem dX8_tellParts_60 : decode cX8_tellParts 60 = .ok (.putfield 44, 3) := by decide +kernel
theorem dX8_tellParts_63 : decode cX8_tellParts 63 = .ok (.aload_n 0, 1) := by decide +kernel
theorem dX8_tellParts_64 : decode cX8_tellParts 64 = .ok (.dup, 1) := by decide +kernel
theorem dX8_tellParts_65 : decode cX8_tellParts 65 = .ok (.getfield 47, 3) := by decide +kernel
theorem dX8_tellParts_68 : decode cX8_tellParts 68 = .ok (.iconst 1, 1) := by decide +kernel
theorem dX8_tellParts_69 : decode cX8_tellParts 69 = .ok (.isub, 1) := by decide +kernel
theorem dX8_tellParts_70 : decode cX8_tellParts 70 = .ok (.putfield 47, 3) := by decide +kernel
theorem dX8_tellParts_73 : decode cX8_tellParts 73 = .ok (.return_, 1) := by decide +kernel
theorem dX8_passHour_0 : decode cX8_passHour 0 = .ok (.aload_n 0, 1) := by decide +kernel
theorem dX8_passHour_1 : decode cX8_passHour 1 = .ok (.dup, 1) := by decide +kernel
theorem dX8_passHour_2 : decode cX8_passHour 2 = .ok (.getfield 31, 3) := by decide +kernel
theorem dX8_passHour_5 : decode cX8_passHour 5 = .ok (.iconst 1, 1) := by decide +kernel
theorem dX8_passHour_6 : decode cX8_passHour 6 = .ok (.isub, 1) := by decide +kernel
theorem dX8_passHour_7 : decode cX8_passHour 7 = .ok (.putfield 31, 3) := by decide +kernel
theorem dX8_passHour_10 : decode cX8_passHour 10 = .ok (.return_, 1) := by decide +kernel
theorem dX8_goOn_0 : decode cX8_goOn 0 = .ok (.aload_n 0, 1) := by decide +kernel
theorem dX8_goOn_1 : decode cX8_goOn 1 = .ok (.getfield 47, 3) := by decide +kernel
theorem dX8_goOn_4 : decode cX8_goOn 4 = .ok (.ifCond .le 34, 3) := by decide +kernel
theorem dX8_goOn_7 : decode cX8_goOn 7 = .ok (.aload_n 0, 1) := by decide +kernel
theorem dX8_goOn_8 : decode cX8_goOn 8 = .ok (.invokevirtual 86, 3) := by decide +kernel
theorem dX8_goOn_11 : decode cX8_goOn 11 = .ok (.istore_n 1, 1) := by decide +kernel
theorem dX8_goOn_12 : decode cX8_goOn 12 = .ok (.aload_n 0, 1) := by decide +kernel
theorem dX8_goOn_13 : decode cX8_goOn 13 = .ok (.iload_n 1, 1) := by decide +kernel
theorem dX8_goOn_14 : decode cX8_goOn 14 = .ok (.aload_n 0, 1) := by decide +kernel
theorem dX8_goOn_15 : decode cX8_goOn 15 = .ok (.iload_n 1, 1) := by decide +kernel
theorem dX8_goOn_16 : decode cX8_goOn 16 = .ok (.invokevirtual 94, 3) := by decide +kernel
theorem dX8_goOn_19 : decode cX8_goOn 19 = .ok (.iconst 1, 1) := by decide +kernel
theorem dX8_goOn_20 : decode cX8_goOn 20 = .ok (.isub, 1) := by decide +kernel
theorem dX8_goOn_21 : decode cX8_goOn 21 = .ok (.iconst 1, 1) := by decide +kernel
theorem dX8_goOn_22 : decode cX8_goOn 22 = .ok (.invokestatic 97, 3) := by decide +kernel
theorem dX8_goOn_25 : decode cX8_goOn 25 = .ok (.aload_n 0, 1) := by decide +kernel
theorem dX8_goOn_26 : decode cX8_goOn 26 = .ok (.getfield 31, 3) := by decide +kernel
theorem dX8_goOn_29 : decode cX8_goOn 29 = .ok (.invokestatic 103, 3) := by decide +kernel
theorem dX8_goOn_32 : decode cX8_goOn 32 = .ok (.invokevirtual 90, 3) := by decide +kernel
theorem dX8_goOn_35 : decode cX8_goOn 35 = .ok (.goto 8, 3) := by decide +kernel
theorem dX8_goOn_38 : decode cX8_goOn 38 = .ok (.aload_n 0, 1) := by decide +kernel
theorem dX8_goOn_39 : decode cX8_goOn 39 = .ok (.iconst 0, 1) := by decide +kernel
theorem dX8_goOn_40 : decode cX8_goOn 40 = .ok (.putfield 31, 3) := by decide +kernel
theorem dX8_goOn_43 : decode cX8_goOn 43 = .ok (.return_, 1) := by decide +kernel
theorem dX8_isPause_0 : decode cX8_isPause 0 = .ok (.aload_n 0, 1) := by decide +kernel
end
section
theorem dX8_isPause_1 : decode cX8_isPause 1 = .ok (.getfield 47, 3) := by decide +kernel
theorem dX8_isPause_4 : decode cX8_isPause 4 = .ok (.ifCond .eq 15, 3) := by decide +kernel
theorem dX8_isPause_7 : decode cX8_isPause 7 = .ok (.aload_n 0, 1) := by decide +kernel
theorem dX8_isPause_8 : decode cX8_isPause 8 = .ok (.aload_n 0, 1) := by decide +kernel
theorem dX8_isPause_9 : decode cX8_isPause 9 = .ok (.invokevirtual 86, 3) := by decide +kernel
theorem dX8_isPause_12 : decode cX8_isPause 12 = .ok (.invokevirtual 94, 3) := by decide +kernel
theorem dX8_isPause_15 : decode cX8_isPause 15 = .ok (.iconst 1, 1) := by decide +kernel
theorem dX8_isPause_16 : decode cX8_isPause 16 = .ok (.if_icmp .ne 7, 3) := by decide +kernel
theorem dX8_isPause_19 : decode cX8_isPause 19 = .ok (.iconst 1, 1) := by decide +kernel
theorem dX8_isPause_20 : decode cX8_isPause 20 = .ok (.goto 4, 3) := by decide +kernel
theorem dX8_isPause_23 : decode cX8_isPause 23 = .ok (.iconst 0, 1) := by decide +kernel
theorem dX8_isPause_24 : decode cX8_isPause 24 = .ok (.ireturn, 1) := by decide +kernel
theorem dX8_isForgotten_0 : decode cX8_isForgotten 0 = .ok (.aload_n 0, 1) := by decide +kernel
theorem dX8_isForgotten_1 : decode cX8_isForgotten 1 = .ok (.getfield 21, 3) := by decide +kernel
theorem dX8_isForgotten_4 : decode cX8_isForgotten 4 = .ok (.aload_n 0, 1) := by decide +kernel
theorem dX8_isForgotten_5 : decode cX8_isForgotten 5 = .ok (.aload_n 0, 1) := by decide +kernel
theorem dX8_isForgotten_6 : decode cX8_isForgotten 6 = .ok (.iconst 0, 1) := by decide +kernel
theorem dX8_isForgotten_7 : decode cX8_isForgotten 7 = .ok (.invokevirtual 59, 3) := by decide +kernel
theorem dX8_isForgotten_10 : decode cX8_isForgotten 10 = .ok (.invokevirtual 106, 3) := by decide +kernel
theorem dX8_isForgotten_13 : decode cX8_isForgotten 13 = .ok (.isub, 1) := by decide +kernel
theorem dX8_isForgotten_14 : decode cX8_isForgotten 14 = .ok (.aload_n 1, 1) := by decide +kernel
theorem dX8_isForgotten_15 : decode cX8_isForgotten 15 = .ok (.getfield 109, 3) := by decide +kernel
theorem dX8_isForgotten_18 : decode cX8_isForgotten 18 = .ok (.if_icmp .lt 7, 3) := by decide +kernel
theorem dX8_isForgotten_21 : decode cX8_isForgotten 21 = .ok (.iconst 1, 1) := by decide +kernel
theorem dX8_isForgotten_22 : decode cX8_isForgotten 22 = .ok (.goto 4, 3) := by decide +kernel
theorem dX8_isForgotten_25 : decode cX8_isForgotten 25 = .ok (.iconst 0, 1) := by decide +kernel
theorem dX8_isForgotten_26 : decode cX8_isForgotten 26 = .ok (.ireturn, 1) := by decide +kernel
theorem dX8_meetDawn_0 : decode cX8_meetDawn 0 = .ok (.aload_n 0, 1) := by decide +kernel
theorem dX8_meetDawn_1 : decode cX8_meetDawn 1 = .ok (.getfield 47, 3) := by decide +kernel
theorem dX8_meetDawn_4 : decode cX8_meetDawn 4 = .ok (.ifCond .eq 11, 3) := by decide +kernel
theorem dX8_meetDawn_7 : decode cX8_meetDawn 7 = .ok (.aload_n 0, 1) := by decide +kernel
theorem dX8_meetDawn_8 : decode cX8_meetDawn 8 = .ok (.aload_n 1, 1) := by decide +kernel
theorem dX8_meetDawn_9 : decode cX8_meetDawn 9 = .ok (.invokevirtual 112, 3) := by decide +kernel
theorem dX8_meetDawn_12 : decode cX8_meetDawn 12 = .ok (.ifCond .eq 10, 3) := by decide +kernel
theorem dX8_meetDawn_15 : decode cX8_meetDawn 15 = .ok (.aload_n 0, 1) := by decide +kernel
theorem dX8_meetDawn_16 : decode cX8_meetDawn 16 = .ok (.iconst 0, 1) := by decide +kernel
theorem dX8_meetDawn_17 : decode cX8_meetDawn 17 = .ok (.putfield 37, 3) := by decide +kernel
theorem dX8_meetDawn_20 : decode cX8_meetDawn 20 = .ok (.iconst 0, 1) := by decide +kernel
theorem dX8_meetDawn_21 : decode cX8_meetDawn 21 = .ok (.ireturn, 1) := by decide +kernel
theorem dX8_meetDawn_22 : decode cX8_meetDawn 22 = .ok (.aload_n 0, 1) := by decide +kernel
theorem dX8_meetDawn_23 : decode cX8_meetDawn 23 = .ok (.dup, 1) := by decide +kernel
theorem dX8_meetDawn_24 : decode cX8_meetDawn 24 = .ok (.getfield 34, 3) := by decide +kernel
theorem dX8_meetDawn_27 : decode cX8_meetDawn 27 = .ok (.iconst 1, 1) := by decide +kernel
theorem dX8_meetDawn_28 : decode cX8_meetDawn 28 = .ok (.iadd, 1) := by decide +kernel
theorem dX8_meetDawn_29 : decode cX8_meetDawn 29 = .ok (.putfield 34, 3) := by decide +kernel
theorem dX8_meetDawn_32 : decode cX8_meetDawn 32 = .ok (.aload_n 0, 1) := by decide +kernel
theorem dX8_meetDawn_33 : decode cX8_meetDawn 33 = .ok (.dup, 1) := by decide +kernel
theorem dX8_meetDawn_34 : decode cX8_meetDawn 34 = .ok (.getfield 21, 3) := by decide +kernel
theorem dX8_meetDawn_37 : decode cX8_meetDawn 37 = .ok (.iconst 1, 1) := by decide +kernel
theorem dX8_meetDawn_38 : decode cX8_meetDawn 38 = .ok (.iadd, 1) := by decide +kernel
theorem dX8_meetDawn_39 : decode cX8_meetDawn 39 = .ok (.putfield 21, 3) := by decide +kernel
theorem dX8_meetDawn_42 : decode cX8_meetDawn 42 = .ok (.aload_n 0, 1) := by decide +kernel
theorem dX8_meetDawn_43 : decode cX8_meetDawn 43 = .ok (.aload_n 1, 1) := by decide +kernel
theorem dX8_meetDawn_44 : decode cX8_meetDawn 44 = .ok (.aload_n 0, 1) := by decide +kernel
theorem dX8_meetDawn_45 : decode cX8_meetDawn 45 = .ok (.getfield 21, 3) := by decide +kernel
theorem dX8_meetDawn_48 : decode cX8_meetDawn 48 = .ok (.invokevirtual 25, 3) := by decide +kernel
theorem dX8_meetDawn_51 : decode cX8_meetDawn 51 = .ok (.putfield 31, 3) := by decide +kernel
theorem dX8_meetDawn_54 : decode cX8_meetDawn 54 = .ok (.iconst 1, 1) := by decide +kernel
theorem dX8_meetDawn_55 : decode cX8_meetDawn 55 = .ok (.ireturn, 1) := by decide +kernel
theorem dX9_init_0 : decode cX9_init 0 = .ok (.aload_n 0, 1) := by decide +kernel
theorem dX9_init_1 : decode cX9_init 1 = .ok (.invokespecial 3, 3) := by decide +kernel
theorem dX9_init_4 : decode cX9_init 4 = .ok (.aload_n 0, 1) := by decide +kernel
theorem dX9_init_5 : decode cX9_init 5 = .ok (.sipush 150, 3) := by decide +kernel
theorem dX9_init_8 : decode cX9_init 8 = .ok (.newarray .int, 2) := by decide +kernel
theorem dX9_init_10 : decode cX9_init 10 = .ok (.putfield 9, 3) := by decide +kernel
theorem dX9_init_13 : decode cX9_init 13 = .ok (.return_, 1) := by decide +kernel
theorem dX9_add_0 : decode cX9_add 0 = .ok (.aload_n 0, 1) := by decide +kernel
theorem dX9_add_1 : decode cX9_add 1 = .ok (.getfield 15, 3) := by decide +kernel
theorem dX9_add_4 : decode cX9_add 4 = .ok (.ifCond .lt 13, 3) := by decide +kernel
theorem dX9_add_7 : decode cX9_add 7 = .ok (.aload_n 0, 1) := by decide +kernel
theorem dX9_add_8 : decode cX9_add 8 = .ok (.getfield 15, 3) := by decide +kernel
theorem dX9_add_11 : decode cX9_add 11 = .ok (.sipush 150, 3) := by decide +kernel
theorem dX9_add_14 : decode cX9_add 14 = .ok (.if_icmp .lt 5, 3) := by decide +kernel
theorem dX9_add_17 : decode cX9_add 17 = .ok (.iconst 0, 1) := by decide +kernel
theorem dX9_add_18 : decode cX9_add 18 = .ok (.ireturn, 1) := by decide +kernel
theorem dX9_add_19 : decode cX9_add 19 = .ok (.aload_n 0, 1) := by decide +kernel
theorem dX9_add_20 : decode cX9_add 20 = .ok (.getfield 9, 3) := by decide +kernel
theorem dX9_add_23 : decode cX9_add 23 = .ok (.aload_n 0, 1) := by decide +kernel
theorem dX9_add_24 : decode cX9_add 24 = .ok (.getfield 15, 3) := by decide +kernel
theorem dX9_add_27 : decode cX9_add 27 = .ok (.iload_n 1, 1) := by decide +kernel
theorem dX9_add_28 : decode cX9_add 28 = .ok (.iastore, 1) := by decide +kernel
theorem dX9_add_29 : decode cX9_add 29 = .ok (.aload_n 0, 1) := by decide +kernel
theorem dX9_add_30 : decode cX9_add 30 = .ok (.dup, 1) := by decide +kernel
theorem dX9_add_31 : decode cX9_add 31 = .ok (.getfield 15, 3) := by decide +kernel
theorem dX9_add_34 : decode cX9_add 34 = .ok (.iconst 1, 1) := by decide +kernel
theorem dX9_add_35 : decode cX9_add 35 = .ok (.iadd, 1) := by decide +kernel
theorem dX9_add_36 : decode cX9_add 36 = .ok (.putfield 15, 3) := by decide +kernel
theorem dX9_add_39 : decode cX9_add 39 = .ok (.iconst 1, 1) := by decide +kernel
theorem dX9_add_40 : decode cX9_add 40 = .ok (.ireturn, 1) := by decide +kernel
theorem dX9_empty_0 : decode cX9_empty 0 = .ok (.aload_n 0, 1) := by decide +kernel
theorem dX9_empty_1 : decode cX9_empty 1 = .ok (.getfield 15, 3) := by decide +kernel
theorem dX9_empty_4 : decode cX9_empty 4 = .ok (.istore_n 1, 1) := by decide +kernel
theorem dX9_empty_5 : decode cX9_empty 5 = .ok (.aload_n 0, 1) := by decide +kernel
theorem dX9_empty_6 : decode cX9_empty 6 = .ok (.iconst 0, 1) := by decide +kernel
theorem dX9_empty_7 : decode cX9_empty 7 = .ok (.putfield 15, 3) := by decide +kernel
theorem dX9_empty_10 : decode cX9_empty 10 = .ok (.iload_n 1, 1) := by decide +kernel
theorem dX9_empty_11 : decode cX9_empty 11 = .ok (.ireturn, 1) := by decide +kernel
theorem dX9_readInto_0 : decode cX9_readInto 0 = .ok (.aload_n 1, 1) := by decide +kernel
theorem dX9_readInto_1 : decode cX9_readInto 1 = .ok (.invokevirtual 19, 3) := by decide +kernel
theorem dX9_readInto_4 : decode cX9_readInto 4 = .ok (.aload_n 0, 1) := by decide +kernel
theorem dX9_readInto_5 : decode cX9_readInto 5 = .ok (.iconst 0, 1) := by decide +kernel
theorem dX9_readInto_6 : decode cX9_readInto 6 = .ok (.putfield 24, 3) := by decide +kernel
theorem dX9_readInto_9 : decode cX9_readInto 9 = .ok (.aload_n 0, 1) := by decide +kernel
theorem dX9_readInto_10 : decode cX9_readInto 10 = .ok (.invokevirtual 27, 3) := by decide +kernel
theorem dX9_readInto_13 : decode cX9_readInto 13 = .ok (.iconst 0, 1) := by decide +kernel
theorem dX9_readInto_14 : decode cX9_readInto 14 = .ok (.istore_n 2, 1) := by decide +kernel
theorem dX9_readInto_15 : decode cX9_readInto 15 = .ok (.iconst 0, 1) := by decide +kernel
theorem dX9_readInto_16 : decode cX9_readInto 16 = .ok (.istore_n 3, 1) := by decide +kernel
theorem dX9_readInto_17 : decode cX9_readInto 17 = .ok (.iload_n 3, 1) := by decide +kernel
theorem dX9_readInto_18 : decode cX9_readInto 18 = .ok (.sipush 150, 3) := by decide +kernel
theorem dX9_readInto_21 : decode cX9_readInto 21 = .ok (.if_icmp .ge 29, 3) := by decide +kernel
theorem dX9_readInto_24 : decode cX9_readInto 24 = .ok (.aload_n 0, 1) := by decide +kernel
theorem dX9_readInto_25 : decode cX9_readInto 25 = .ok (.getfield 30, 3) := by decide +kernel
theorem dX9_readInto_28 : decode cX9_readInto 28 = .ok (.ifCond .eq 22, 3) := by decide +kernel
theorem dX9_readInto_31 : decode cX9_readInto 31 = .ok (.aload_n 0, 1) := by decide +kernel
theorem dX9_readInto_32 : decode cX9_readInto 32 = .ok (.aload_n 1, 1) := by decide +kernel
theorem dX9_readInto_33 : decode cX9_readInto 33 = .ok (.invokevirtual 33, 3) := by decide +kernel
theorem dX9_readInto_36 : decode cX9_readInto 36 = .ok (.ifCond .ne 5, 3) := by decide +kernel
theorem dX9_readInto_39 : decode cX9_readInto 39 = .ok (.iconst (-1), 1) := by decide +kernel
theorem dX9_readInto_40 : decode cX9_readInto 40 = .ok (.ireturn, 1) := by decide +kernel
theorem dX9_readInto_41 : decode cX9_readInto 41 = .ok (.iinc 2 1, 3) := by decide +kernel
theorem dX9_readInto_44 : decode cX9_readInto 44 = .ok (.iinc 3 1, 3) := by decide +kernel
theorem dX9_readInto_47 : decode cX9_readInto 47 = .ok (.goto (-30), 3) := by decide +kernel
theorem dX9_readInto_50 : decode cX9_readInto 50 = .ok (.aload_n 1, 1) := by decide +kernel
theorem dX9_readInto_51 : decode cX9_readInto 51 = .ok (.invokevirtual 37, 3) := by decide +kernel
theorem dX9_readInto_54 : decode cX9_readInto 54 = .ok (.iload_n 2, 1) := by decide +kernel
theorem dX9_readInto_55 : decode cX9_readInto 55 = .ok (.ireturn, 1) := by decide +kernel
theorem dX9_readItem_0 : decode cX9_readItem 0 = .ok (.aload_n 0, 1) := by decide +kernel
theorem dX9_readItem_1 : decode cX9_readItem 1 = .ok (.getfield 30, 3) := by decide +kernel
theorem dX9_readItem_4 : decode cX9_readItem 4 = .ok (.iconst 1, 1) := by decide +kernel
theorem dX9_readItem_5 : decode cX9_readItem 5 = .ok (.if_icmp .eq 5, 3) := by decide +kernel
theorem dX9_readItem_8 : decode cX9_readItem 8 = .ok (.iconst 0, 1) := by decide +kernel
theorem dX9_readItem_9 : decode cX9_readItem 9 = .ok (.ireturn, 1) := by decide +kernel
theorem dX9_readItem_10 : decode cX9_readItem 10 = .ok (.iconst 0, 1) := by decide +kernel
theorem dX9_readItem_11 : decode cX9_readItem 11 = .ok (.istore_n 2, 1) := by decide +kernel
theorem dX9_readItem_12 : decode cX9_readItem 12 = .ok (.aload_n 0, 1) := by decide +kernel
theorem dX9_readItem_13 : decode cX9_readItem 13 = .ok (.getfield 40, 3) := by decide +kernel
theorem dX9_readItem_16 : decode cX9_readItem 16 = .ok (.lookupswitch 80 #[(100, 71), (109, 62), (110, 53), (116, 44)], 44) := by decide +kernel
theorem dX9_readItem_60 : decode cX9_readItem 60 = .ok (.aload_n 0, 1) := by decide +kernel
theorem dX9_readItem_61 : decode cX9_readItem 61 = .ok (.aload_n 1, 1) := by decide +kernel
theorem dX9_readItem_62 : decode cX9_readItem 62 = .ok (.invokevirtual 43, 3) := by decide +kernel
theorem dX9_readItem_65 : decode cX9_readItem 65 = .ok (.istore_n 2, 1) := by decide +kernel
theorem dX9_readItem_66 : decode cX9_readItem 66 = .ok (.goto 30, 3) := by decide +kernel
theorem dX9_readItem_69 : decode cX9_readItem 69 = .ok (.aload_n 0, 1) := by decide +kernel
theorem dX9_readItem_70 : decode cX9_readItem 70 = .ok (.aload_n 1, 1) := by decide +kernel
theorem dX9_readItem_71 : decode cX9_readItem 71 = .ok (.invokevirtual 46, 3) := by decide +kernel
theorem dX9_readItem_74 : decode cX9_readItem 74 = .ok (.istore_n 2, 1) := by decide +kernel
theorem dX9_readItem_75 : decode cX9_readItem 75 = .ok (.goto 21, 3) := by decide +kernel
theorem dX9_readItem_78 : decode cX9_readItem 78 = .ok (.aload_n 0, 1) := by decide +kernel
theorem dX9_readItem_79 : decode cX9_readItem 79 = .ok (.aload_n 1, 1) := by decide +kernel
theorem dX9_readItem_80 : decode cX9_readItem 80 = .ok (.invokevirtual 49, 3) := by decide +kernel
theorem dX9_readItem_83 : decode cX9_readItem 83 = .ok (.istore_n 2, 1) := by decide +kernel
theorem dX9_readItem_84 : decode cX9_readItem 84 = .ok (.goto 12, 3) := by decide +kernel
theorem dX9_readItem_87 : decode cX9_readItem 87 = .ok (.aload_n 0, 1) := by decide +kernel
theorem dX9_readItem_88 : decode cX9_readItem 88 = .ok (.aload_n 1, 1) := by decide +kernel
theorem dX9_readItem_89 : decode cX9_readItem 89 = .ok (.invokevirtual 52, 3) := by decide +kernel
theorem dX9_readItem_92 : decode cX9_readItem 92 = .ok (.istore_n 2, 1) := by decide +kernel
theorem dX9_readItem_93 : decode cX9_readItem 93 = .ok (.goto 3, 3) := by decide +kernel
theorem dX9_readItem_96 : decode cX9_readItem 96 = .ok (.iload_n 2, 1) := by decide +kernel
theorem dX9_readItem_97 : decode cX9_readItem 97 = .ok (.ifCond .eq 11, 3) := by decide +kernel
theorem dX9_readItem_100 : decode cX9_readItem 100 = .ok (.aload_n 0, 1) := by decide +kernel
theorem dX9_readItem_101 : decode cX9_readItem 101 = .ok (.getfield 30, 3) := by decide +kernel
theorem dX9_readItem_104 : decode cX9_readItem 104 = .ok (.iconst 3, 1) := by decide +kernel
theorem dX9_readItem_105 : decode cX9_readItem 105 = .ok (.if_icmp .eq 5, 3) := by decide +kernel
theorem dX9_readItem_108 : decode cX9_readItem 108 = .ok (.iconst 0, 1) := by decide +kernel
theorem dX9_readItem_109 : decode cX9_readItem 109 = .ok (.ireturn, 1) := by decide +kernel
theorem dX9_readItem_110 : decode cX9_readItem 110 = .ok (.aload_n 0, 1) := by decide +kernel
theorem dX9_readItem_111 : decode cX9_readItem 111 = .ok (.invokevirtual 27, 3) := by decide +kernel
theorem dX9_readItem_114 : decode cX9_readItem 114 = .ok (.iconst 1, 1) := by decide +kernel
theorem dX9_readItem_115 : decode cX9_readItem 115 = .ok (.ireturn, 1) := by decide +kernel
theorem dX9_readTale_0 : decode cX9_readTale 0 = .ok (.aload_n 1, 1) := by decide +kernel
theorem dX9_readTale_1 : decode cX9_readTale 1 = .ok (.getfield 55, 3) := by decide +kernel
theorem dX9_readTale_4 : decode cX9_readTale 4 = .ok (.bipush 6, 2) := by decide +kernel
theorem dX9_readTale_6 : decode cX9_readTale 6 = .ok (.if_icmp .lt 5, 3) := by decide +kernel
theorem dX9_readTale_9 : decode cX9_readTale 9 = .ok (.iconst 0, 1) := by decide +kernel
theorem dX9_readTale_10 : decode cX9_readTale 10 = .ok (.ireturn, 1) := by decide +kernel
theorem dX9_readTale_11 : decode cX9_readTale 11 = .ok (.aload_n 0, 1) := by decide +kernel
theorem dX9_readTale_12 : decode cX9_readTale 12 = .ok (.invokevirtual 27, 3) := by decide +kernel
theorem dX9_readTale_15 : decode cX9_readTale 15 = .ok (.aload_n 0, 1) := by decide +kernel
theorem dX9_readTale_16 : decode cX9_readTale 16 = .ok (.iconst 1, 1) := by decide +kernel
theorem dX9_readTale_17 : decode cX9_readTale 17 = .ok (.bipush 9, 2) := by decide +kernel
theorem dX9_readTale_19 : decode cX9_readTale 19 = .ok (.invokevirtual 58, 3) := by decide +kernel
theorem dX9_readTale_22 : decode cX9_readTale 22 = .ok (.ifCond .ne 5, 3) := by decide +kernel
theorem dX9_readTale_25 : decode cX9_readTale 25 = .ok (.iconst 0, 1) := by decide +kernel
theorem dX9_readTale_26 : decode cX9_readTale 26 = .ok (.ireturn, 1) := by decide +kernel
theorem dX9_readTale_27 : decode cX9_readTale 27 = .ok (.aload_n 0, 1) := by decide +kernel
theorem dX9_readTale_28 : decode cX9_readTale 28 = .ok (.getfield 40, 3) := by decide +kernel
theorem dX9_readTale_31 : decode cX9_readTale 31 = .ok (.istore_n 2, 1) := by decide +kernel
theorem dX9_readTale_32 : decode cX9_readTale 32 = .ok (.aload_n 0, 1) := by decide +kernel
theorem dX9_readTale_33 : decode cX9_readTale 33 = .ok (.invokevirtual 27, 3) := by decide +kernel
theorem dX9_readTale_36 : decode cX9_readTale 36 = .ok (.aload_n 0, 1) := by decide +kernel
theorem dX9_readTale_37 : decode cX9_readTale 37 = .ok (.iconst 0, 1) := by decide +kernel
theorem dX9_readTale_38 : decode cX9_readTale 38 = .ok (.aload_n 1, 1) := by decide +kernel
theorem dX9_readTale_39 : decode cX9_readTale 39 = .ok (.getfield 55, 3) := by decide +kernel
theorem dX9_readTale_42 : decode cX9_readTale 42 = .ok (.iconst 1, 1) := by decide +kernel
theorem dX9_readTale_43 : decode cX9_readTale 43 = .ok (.isub, 1) := by decide +kernel
theorem dX9_readTale_44 : decode cX9_readTale 44 = .ok (.invokevirtual 58, 3) := by decide +kernel
theorem dX9_readTale_47 : decode cX9_readTale 47 = .ok (.ifCond .ne 16, 3) := by decide +kernel
theorem dX9_readTale_50 : decode cX9_readTale 50 = .ok (.aload_n 0, 1) := by decide +kernel
theorem dX9_readTale_51 : decode cX9_readTale 51 = .ok (.bipush 9, 2) := by decide +kernel
theorem dX9_readTale_53 : decode cX9_readTale 53 = .ok (.bipush 9, 2) := by decide +kernel
theorem dX9_readTale_55 : decode cX9_readTale 55 = .ok (.invokevirtual 58, 3) := by decide +kernel
theorem dX9_readTale_58 : decode cX9_readTale 58 = .ok (.ifCond .ne 5, 3) := by decide +kernel
theorem dX9_readTale_61 : decode cX9_readTale 61 = .ok (.iconst 0, 1) := by decide +kernel
theorem dX9_readTale_62 : decode cX9_readTale 62 = .ok (.ireturn, 1) := by decide +kernel
theorem dX9_readTale_63 : decode cX9_readTale 63 = .ok (.aload_n 1, 1) := by decide +kernel
theorem dX9_readTale_64 : decode cX9_readTale 64 = .ok (.iload_n 2, 1) := by decide +kernel
theorem dX9_readTale_65 : decode cX9_readTale 65 = .ok (.aload_n 0, 1) := by decide +kernel
theorem dX9_readTale_66 : decode cX9_readTale 66 = .ok (.getfield 40, 3) := by decide +kernel
theorem dX9_readTale_69 : decode cX9_readTale 69 = .ok (.invokevirtual 62, 3) := by decide +kernel
theorem dX9_readTale_72 : decode cX9_readTale 72 = .ok (.aload_n 0, 1) := by decide +kernel
theorem dX9_readTale_73 : decode cX9_readTale 73 = .ok (.invokevirtual 27, 3) := by decide +kernel
theorem dX9_readTale_76 : decode cX9_readTale 76 = .ok (.iconst 1, 1) := by decide +kernel
theorem dX9_readTale_77 : decode cX9_readTale 77 = .ok (.ireturn, 1) := by decide +kernel
theorem dX9_readNights_0 : decode cX9_readNights 0 = .ok (.aload_n 1, 1) := by decide +kernel
theorem dX9_readNights_1 : decode cX9_readNights 1 = .ok (.getfield 66, 3) := by decide +kernel
theorem dX9_readNights_4 : decode cX9_readNights 4 = .ok (.ifCond .le 5, 3) := by decide +kernel
theorem dX9_readNights_7 : decode cX9_readNights 7 = .ok (.iconst 0, 1) := by decide +kernel
theorem dX9_readNights_8 : decode cX9_readNights 8 = .ok (.ireturn, 1) := by decide +kernel
theorem dX9_readNights_9 : decode cX9_readNights 9 = .ok (.aload_n 0, 1) := by decide +kernel
theorem dX9_readNights_10 : decode cX9_readNights 10 = .ok (.invokevirtual 27, 3) := by decide +kernel
theorem dX9_readNights_13 : decode cX9_readNights 13 = .ok (.iconst 0, 1) := by decide +kernel
theorem dX9_readNights_14 : decode cX9_readNights 14 = .ok (.istore_n 2, 1) := by decide +kernel
theorem dX9_readNights_15 : decode cX9_readNights 15 = .ok (.iload_n 2, 1) := by decide +kernel
theorem dX9_readNights_16 : decode cX9_readNights 16 = .ok (.bipush 8, 2) := by decide +kernel
theorem dX9_readNights_18 : decode cX9_readNights 18 = .ok (.if_icmp .ge 31, 3) := by decide +kernel
theorem dX9_readNights_21 : decode cX9_readNights 21 = .ok (.aload_n 0, 1) := by decide +kernel
theorem dX9_readNights_22 : decode cX9_readNights 22 = .ok (.iconst 1, 1) := by decide +kernel
theorem dX9_readNights_23 : decode cX9_readNights 23 = .ok (.bipush 9, 2) := by decide +kernel
theorem dX9_readNights_25 : decode cX9_readNights 25 = .ok (.invokevirtual 58, 3) := by decide +kernel
theorem dX9_readNights_28 : decode cX9_readNights 28 = .ok (.ifCond .eq 21, 3) := by decide +kernel
theorem dX9_readNights_31 : decode cX9_readNights 31 = .ok (.aload_n 1, 1) := by decide +kernel
theorem dX9_readNights_32 : decode cX9_readNights 32 = .ok (.aload_n 0, 1) := by decide +kernel
theorem dX9_readNights_33 : decode cX9_readNights 33 = .ok (.getfield 40, 3) := by decide +kernel
theorem dX9_readNights_36 : decode cX9_readNights 36 = .ok (.invokevirtual 69, 3) := by decide +kernel
theorem dX9_readNights_39 : decode cX9_readNights 39 = .ok (.aload_n 0, 1) := by decide +kernel
theorem dX9_readNights_40 : decode cX9_readNights 40 = .ok (.invokevirtual 27, 3) := by decide +kernel
theorem dX9_readNights_43 : decode cX9_readNights 43 = .ok (.iinc 2 1, 3) := by decide +kernel
theorem dX9_readNights_46 : decode cX9_readNights 46 = .ok (.goto (-31), 3) := by decide +kernel
theorem dX9_readNights_49 : decode cX9_readNights 49 = .ok (.aload_n 1, 1) := by decide +kernel
theorem dX9_readNights_50 : decode cX9_readNights 50 = .ok (.getfield 66, 3) := by decide +kernel
theorem dX9_readNights_53 : decode cX9_readNights 53 = .ok (.ifCond .le 7, 3) := by decide +kernel
theorem dX9_readNights_56 : decode cX9_readNights 56 = .ok (.iconst 1, 1) := by decide +kernel
theorem dX9_readNights_57 : decode cX9_readNights 57 = .ok (.goto 4, 3) := by decide +kernel
theorem dX9_readNights_60 : decode cX9_readNights 60 = .ok (.iconst 0, 1) := by decide +kernel
theorem dX9_readNights_61 : decode cX9_readNights 61 = .ok (.ireturn, 1) := by decide +kernel
theorem dX9_readMemory_0 : decode cX9_readMemory 0 = .ok (.aload_n 1, 1) := by decide +kernel
theorem dX9_readMemory_1 : decode cX9_readMemory 1 = .ok (.getfield 73, 3) := by decide +kernel
theorem dX9_readMemory_4 : decode cX9_readMemory 4 = .ok (.ifCond .le 5, 3) := by decide +kernel
theorem dX9_readMemory_7 : decode cX9_readMemory 7 = .ok (.iconst 0, 1) := by decide +kernel
theorem dX9_readMemory_8 : decode cX9_readMemory 8 = .ok (.ireturn, 1) := by decide +kernel
theorem dX9_readMemory_9 : decode cX9_readMemory 9 = .ok (.aload_n 0, 1) := by decide +kernel
theorem dX9_readMemory_10 : decode cX9_readMemory 10 = .ok (.invokevirtual 27, 3) := by decide +kernel
theorem dX9_readMemory_13 : decode cX9_readMemory 13 = .ok (.aload_n 0, 1) := by decide +kernel
theorem dX9_readMemory_14 : decode cX9_readMemory 14 = .ok (.iconst 1, 1) := by decide +kernel
theorem dX9_readMemory_15 : decode cX9_readMemory 15 = .ok (.bipush 9, 2) := by decide +kernel
theorem dX9_readMemory_17 : decode cX9_readMemory 17 = .ok (.invokevirtual 58, 3) := by decide +kernel
theorem dX9_readMemory_20 : decode cX9_readMemory 20 = .ok (.ifCond .ne 5, 3) := by decide +kernel
theorem dX9_readMemory_23 : decode cX9_readMemory 23 = .ok (.iconst 0, 1) := by decide +kernel
theorem dX9_readMemory_24 : decode cX9_readMemory 24 = .ok (.ireturn, 1) := by decide +kernel
theorem dX9_readMemory_25 : decode cX9_readMemory 25 = .ok (.aload_n 1, 1) := by decide +kernel
theorem dX9_readMemory_26 : decode cX9_readMemory 26 = .ok (.aload_n 0, 1) := by decide +kernel
theorem dX9_readMemory_27 : decode cX9_readMemory 27 = .ok (.getfield 40, 3) := by decide +kernel
theorem dX9_readMemory_30 : decode cX9_readMemory 30 = .ok (.putfield 73, 3) := by decide +kernel
theorem dX9_readMemory_33 : decode cX9_readMemory 33 = .ok (.aload_n 0, 1) := by decide +kernel
theorem dX9_readMemory_34 : decode cX9_readMemory 34 = .ok (.invokevirtual 27, 3) := by decide +kernel
theorem dX9_readMemory_37 : decode cX9_readMemory 37 = .ok (.iconst 1, 1) := by decide +kernel
theorem dX9_readMemory_38 : decode cX9_readMemory 38 = .ok (.ireturn, 1) := by decide +kernel
theorem dX9_readDepth_0 : decode cX9_readDepth 0 = .ok (.aload_n 1, 1) := by decide +kernel
theorem dX9_readDepth_1 : decode cX9_readDepth 1 = .ok (.getfield 76, 3) := by decide +kernel
theorem dX9_readDepth_4 : decode cX9_readDepth 4 = .ok (.ifCond .le 5, 3) := by decide +kernel
theorem dX9_readDepth_7 : decode cX9_readDepth 7 = .ok (.iconst 0, 1) := by decide +kernel
theorem dX9_readDepth_8 : decode cX9_readDepth 8 = .ok (.ireturn, 1) := by decide +kernel
theorem dX9_readDepth_9 : decode cX9_readDepth 9 = .ok (.aload_n 0, 1) := by decide +kernel
theorem dX9_readDepth_10 : decode cX9_readDepth 10 = .ok (.invokevirtual 27, 3) := by decide +kernel
theorem dX9_readDepth_13 : decode cX9_readDepth 13 = .ok (.aload_n 0, 1) := by decide +kernel
theorem dX9_readDepth_14 : decode cX9_readDepth 14 = .ok (.iconst 1, 1) := by decide +kernel
theorem dX9_readDepth_15 : decode cX9_readDepth 15 = .ok (.bipush 6, 2) := by decide +kernel
theorem dX9_readDepth_17 : decode cX9_readDepth 17 = .ok (.invokevirtual 58, 3) := by decide +kernel
theorem dX9_readDepth_20 : decode cX9_readDepth 20 = .ok (.ifCond .ne 5, 3) := by decide +kernel
theorem dX9_readDepth_23 : decode cX9_readDepth 23 = .ok (.iconst 0, 1) := by decide +kernel
theorem dX9_readDepth_24 : decode cX9_readDepth 24 = .ok (.ireturn, 1) := by decide +kernel
theorem dX9_readDepth_25 : decode cX9_readDepth 25 = .ok (.aload_n 1, 1) := by decide +kernel
theorem dX9_readDepth_26 : decode cX9_readDepth 26 = .ok (.aload_n 0, 1) := by decide +kernel
theorem dX9_readDepth_27 : decode cX9_readDepth 27 = .ok (.getfield 40, 3) := by decide +kernel
theorem dX9_readDepth_30 : decode cX9_readDepth 30 = .ok (.putfield 76, 3) := by decide +kernel
theorem dX9_readDepth_33 : decode cX9_readDepth 33 = .ok (.aload_n 0, 1) := by decide +kernel
theorem dX9_readDepth_34 : decode cX9_readDepth 34 = .ok (.invokevirtual 27, 3) := by decide +kernel
theorem dX9_readDepth_37 : decode cX9_readDepth 37 = .ok (.iconst 1, 1) := by decide +kernel
theorem dX9_readDepth_38 : decode cX9_readDepth 38 = .ok (.ireturn, 1) := by decide +kernel
theorem dX9_isNumber_0 : decode cX9_isNumber 0 = .ok (.aload_n 0, 1) := by decide +kernel
theorem dX9_isNumber_1 : decode cX9_isNumber 1 = .ok (.getfield 30, 3) := by decide +kernel
theorem dX9_isNumber_4 : decode cX9_isNumber 4 = .ok (.iconst 2, 1) := by decide +kernel
theorem dX9_isNumber_5 : decode cX9_isNumber 5 = .ok (.if_icmp .ne 23, 3) := by decide +kernel
theorem dX9_isNumber_8 : decode cX9_isNumber 8 = .ok (.aload_n 0, 1) := by decide +kernel
theorem dX9_isNumber_9 : decode cX9_isNumber 9 = .ok (.getfield 40, 3) := by decide +kernel
theorem dX9_isNumber_12 : decode cX9_isNumber 12 = .ok (.iload_n 1, 1) := by decide +kernel
theorem dX9_isNumber_13 : decode cX9_isNumber 13 = .ok (.if_icmp .lt 15, 3) := by decide +kernel
theorem dX9_isNumber_16 : decode cX9_isNumber 16 = .ok (.aload_n 0, 1) := by decide +kernel
theorem dX9_isNumber_17 : decode cX9_isNumber 17 = .ok (.getfield 40, 3) := by decide +kernel
theorem dX9_isNumber_20 : decode cX9_isNumber 20 = .ok (.iload_n 2, 1) := by decide +kernel
theorem dX9_isNumber_21 : decode cX9_isNumber 21 = .ok (.if_icmp .gt 7, 3) := by decide +kernel
theorem dX9_isNumber_24 : decode cX9_isNumber 24 = .ok (.iconst 1, 1) := by decide +kernel
theorem dX9_isNumber_25 : decode cX9_isNumber 25 = .ok (.goto 4, 3) := by decide +kernel
theorem dX9_isNumber_28 : decode cX9_isNumber 28 = .ok (.iconst 0, 1) := by decide +kernel
theorem dX9_isNumber_29 : decode cX9_isNumber 29 = .ok (.ireturn, 1) := by decide +kernel
theorem dX9_nextToken_0 : decode cX9_nextToken 0 = .ok (.iconst 0, 1) := by decide +kernel
theorem dX9_nextToken_1 : decode cX9_nextToken 1 = .ok (.istore_n 1, 1) := by decide +kernel
theorem dX9_nextToken_2 : decode cX9_nextToken 2 = .ok (.iload_n 1, 1) := by decide +kernel
theorem dX9_nextToken_3 : decode cX9_nextToken 3 = .ok (.sipush 150, 3) := by decide +kernel
theorem dX9_nextToken_6 : decode cX9_nextToken 6 = .ok (.if_icmp .ge 32, 3) := by decide +kernel
theorem dX9_nextToken_9 : decode cX9_nextToken 9 = .ok (.aload_n 0, 1) := by decide +kernel
theorem dX9_nextToken_10 : decode cX9_nextToken 10 = .ok (.aload_n 0, 1) := by decide +kernel
theorem dX9_nextToken_11 : decode cX9_nextToken 11 = .ok (.getfield 24, 3) := by decide +kernel
theorem dX9_nextToken_14 : decode cX9_nextToken 14 = .ok (.invokevirtual 79, 3) := by decide +kernel
theorem dX9_nextToken_17 : decode cX9_nextToken 17 = .ok (.bipush 32, 2) := by decide +kernel
theorem dX9_nextToken_19 : decode cX9_nextToken 19 = .ok (.if_icmp .ne 19, 3) := by decide +kernel
theorem dX9_nextToken_22 : decode cX9_nextToken 22 = .ok (.aload_n 0, 1) := by decide +kernel
theorem dX9_nextToken_23 : decode cX9_nextToken 23 = .ok (.dup, 1) := by decide +kernel
theorem dX9_nextToken_24 : decode cX9_nextToken 24 = .ok (.getfield 24, 3) := by decide +kernel
theorem dX9_nextToken_27 : decode cX9_nextToken 27 = .ok (.iconst 1, 1) := by decide +kernel
theorem dX9_nextToken_28 : decode cX9_nextToken 28 = .ok (.iadd, 1) := by decide +kernel
theorem dX9_nextToken_29 : decode cX9_nextToken 29 = .ok (.putfield 24, 3) := by decide +kernel
theorem dX9_nextToken_32 : decode cX9_nextToken 32 = .ok (.iinc 1 1, 3) := by decide +kernel
theorem dX9_nextToken_35 : decode cX9_nextToken 35 = .ok (.goto (-33), 3) := by decide +kernel
theorem dX9_nextToken_38 : decode cX9_nextToken 38 = .ok (.aload_n 0, 1) := by decide +kernel
theorem dX9_nextToken_39 : decode cX9_nextToken 39 = .ok (.aload_n 0, 1) := by decide +kernel
theorem dX9_nextToken_40 : decode cX9_nextToken 40 = .ok (.getfield 24, 3) := by decide +kernel
theorem dX9_nextToken_43 : decode cX9_nextToken 43 = .ok (.putfield 83, 3) := by decide +kernel
theorem dX9_nextToken_46 : decode cX9_nextToken 46 = .ok (.aload_n 0, 1) := by decide +kernel
theorem dX9_nextToken_47 : decode cX9_nextToken 47 = .ok (.aload_n 0, 1) := by decide +kernel
theorem dX9_nextToken_48 : decode cX9_nextToken 48 = .ok (.getfield 83, 3) := by decide +kernel
theorem dX9_nextToken_51 : decode cX9_nextToken 51 = .ok (.invokevirtual 79, 3) := by decide +kernel
theorem dX9_nextToken_54 : decode cX9_nextToken 54 = .ok (.istore_n 1, 1) := by decide +kernel
theorem dX9_nextToken_55 : decode cX9_nextToken 55 = .ok (.aload_n 0, 1) := by decide +kernel
theorem dX9_nextToken_56 : decode cX9_nextToken 56 = .ok (.getfield 83, 3) := by decide +kernel
theorem dX9_nextToken_59 : decode cX9_nextToken 59 = .ok (.aload_n 0, 1) := by decide +kernel
theorem dX9_nextToken_60 : decode cX9_nextToken 60 = .ok (.getfield 15, 3) := by decide +kernel
theorem dX9_nextToken_63 : decode cX9_nextToken 63 = .ok (.if_icmp .lt 11, 3) := by decide +kernel
theorem dX9_nextToken_66 : decode cX9_nextToken 66 = .ok (.aload_n 0, 1) := by decide +kernel
theorem dX9_nextToken_67 : decode cX9_nextToken 67 = .ok (.iconst 0, 1) := by decide +kernel
theorem dX9_nextToken_68 : decode cX9_nextToken 68 = .ok (.putfield 30, 3) := by decide +kernel
theorem dX9_nextToken_71 : decode cX9_nextToken 71 = .ok (.goto 56, 3) := by decide +kernel
theorem dX9_nextToken_74 : decode cX9_nextToken 74 = .ok (.iload_n 1, 1) := by decide +kernel
theorem dX9_nextToken_75 : decode cX9_nextToken 75 = .ok (.invokestatic 86, 3) := by decide +kernel
theorem dX9_nextToken_78 : decode cX9_nextToken 78 = .ok (.ifCond .eq 10, 3) := by decide +kernel
theorem dX9_nextToken_81 : decode cX9_nextToken 81 = .ok (.aload_n 0, 1) := by decide +kernel
theorem dX9_nextToken_82 : decode cX9_nextToken 82 = .ok (.invokevirtual 90, 3) := by decide +kernel
theorem dX9_nextToken_85 : decode cX9_nextToken 85 = .ok (.goto 42, 3) := by decide +kernel
theorem dX9_nextToken_88 : decode cX9_nextToken 88 = .ok (.iload_n 1, 1) := by decide +kernel
theorem dX9_nextToken_89 : decode cX9_nextToken 89 = .ok (.invokestatic 93, 3) := by decide +kernel
theorem dX9_nextToken_92 : decode cX9_nextToken 92 = .ok (.ifCond .eq 10, 3) := by decide +kernel
theorem dX9_nextToken_95 : decode cX9_nextToken 95 = .ok (.aload_n 0, 1) := by decide +kernel
theorem dX9_nextToken_96 : decode cX9_nextToken 96 = .ok (.invokevirtual 96, 3) := by decide +kernel
theorem dX9_nextToken_99 : decode cX9_nextToken 99 = .ok (.goto 28, 3) := by decide +kernel
theorem dX9_nextToken_102 : decode cX9_nextToken 102 = .ok (.aload_n 0, 1) := by decide +kernel
theorem dX9_nextToken_103 : decode cX9_nextToken 103 = .ok (.iload_n 1, 1) := by decide +kernel
theorem dX9_nextToken_104 : decode cX9_nextToken 104 = .ok (.bipush 59, 2) := by decide +kernel
theorem dX9_nextToken_106 : decode cX9_nextToken 106 = .ok (.if_icmp .ne 7, 3) := by decide +kernel
theorem dX9_nextToken_109 : decode cX9_nextToken 109 = .ok (.iconst 3, 1) := by decide +kernel
theorem dX9_nextToken_110 : decode cX9_nextToken 110 = .ok (.goto 4, 3) := by decide +kernel
theorem dX9_nextToken_113 : decode cX9_nextToken 113 = .ok (.iconst 4, 1) := by decide +kernel
theorem dX9_nextToken_114 : decode cX9_nextToken 114 = .ok (.putfield 30, 3) := by decide +kernel
theorem dX9_nextToken_117 : decode cX9_nextToken 117 = .ok (.aload_n 0, 1) := by decide +kernel
theorem dX9_nextToken_118 : decode cX9_nextToken 118 = .ok (.aload_n 0, 1) := by decide +kernel
theorem dX9_nextToken_119 : decode cX9_nextToken 119 = .ok (.getfield 83, 3) := by decide +kernel
theorem dX9_nextToken_122 : decode cX9_nextToken 122 = .ok (.iconst 1, 1) := by decide +kernel
theorem dX9_nextToken_123 : decode cX9_nextToken 123 = .ok (.iadd, 1) := by decide +kernel
theorem dX9_nextToken_124 : decode cX9_nextToken 124 = .ok (.putfield 24, 3) := by decide +kernel
theorem dX9_nextToken_127 : decode cX9_nextToken 127 = .ok (.return_, 1) := by decide +kernel
theorem dX9_takeLetters_0 : decode cX9_takeLetters 0 = .ok (.iconst 0, 1) := by decide +kernel
theorem dX9_takeLetters_1 : decode cX9_takeLetters 1 = .ok (.istore_n 1, 1) := by decide +kernel
theorem dX9_takeLetters_2 : decode cX9_takeLetters 2 = .ok (.iload_n 1, 1) := by decide +kernel
theorem dX9_takeLetters_3 : decode cX9_takeLetters 3 = .ok (.sipush 150, 3) := by decide +kernel
theorem dX9_takeLetters_6 : decode cX9_takeLetters 6 = .ok (.if_icmp .ge 33, 3) := by decide +kernel
theorem dX9_takeLetters_9 : decode cX9_takeLetters 9 = .ok (.aload_n 0, 1) := by decide +kernel
theorem dX9_takeLetters_10 : decode cX9_takeLetters 10 = .ok (.aload_n 0, 1) := by decide +kernel
theorem dX9_takeLetters_11 : decode cX9_takeLetters 11 = .ok (.getfield 24, 3) := by decide +kernel
theorem dX9_takeLetters_14 : decode cX9_takeLetters 14 = .ok (.invokevirtual 79, 3) := by decide +kernel
theorem dX9_takeLetters_17 : decode cX9_takeLetters 17 = .ok (.invokestatic 86, 3) := by decide +kernel
theorem dX9_takeLetters_20 : decode cX9_takeLetters 20 = .ok (.ifCond .eq 19, 3) := by decide +kernel
theorem dX9_takeLetters_23 : decode cX9_takeLetters 23 = .ok (.aload_n 0, 1) := by decide +kernel
theorem dX9_takeLetters_24 : decode cX9_takeLetters 24 = .ok (.dup, 1) := by decide +kernel
theorem dX9_takeLetters_25 : decode cX9_takeLetters 25 = .ok (.getfield 24, 3) := by decide +kernel
theorem dX9_takeLetters_28 : decode cX9_takeLetters 28 = .ok (.iconst 1, 1) := by decide +kernel
theorem dX9_takeLetters_29 : decode cX9_takeLetters 29 = .ok (.iadd, 1) := by decide +kernel
theorem dX9_takeLetters_30 : decode cX9_takeLetters 30 = .ok (.putfield 24, 3) := by decide +kernel
theorem dX9_takeLetters_33 : decode cX9_takeLetters 33 = .ok (.iinc 1 1, 3) := by decide +kernel
theorem dX9_takeLetters_36 : decode cX9_takeLetters 36 = .ok (.goto (-34), 3) := by decide +kernel
theorem dX9_takeLetters_39 : decode cX9_takeLetters 39 = .ok (.aload_n 0, 1) := by decide +kernel
theorem dX9_takeLetters_40 : decode cX9_takeLetters 40 = .ok (.iconst 1, 1) := by decide +kernel
theorem dX9_takeLetters_41 : decode cX9_takeLetters 41 = .ok (.putfield 30, 3) := by decide +kernel
theorem dX9_takeLetters_44 : decode cX9_takeLetters 44 = .ok (.aload_n 0, 1) := by decide +kernel
theorem dX9_takeLetters_45 : decode cX9_takeLetters 45 = .ok (.aload_n 0, 1) := by decide +kernel
theorem dX9_takeLetters_46 : decode cX9_takeLetters 46 = .ok (.getfield 24, 3) := by decide +kernel
theorem dX9_takeLetters_49 : decode cX9_takeLetters 49 = .ok (.aload_n 0, 1) := by decide +kernel
theorem dX9_takeLetters_50 : decode cX9_takeLetters 50 = .ok (.getfield 83, 3) := by decide +kernel
theorem dX9_takeLetters_53 : decode cX9_takeLetters 53 = .ok (.isub, 1) := by decide +kernel
theorem dX9_takeLetters_54 : decode cX9_takeLetters 54 = .ok (.iconst 1, 1) := by decide +kernel
theorem dX9_takeLetters_55 : decode cX9_takeLetters 55 = .ok (.if_icmp .ne 14, 3) := by decide +kernel
theorem dX9_takeLetters_58 : decode cX9_takeLetters 58 = .ok (.aload_n 0, 1) := by decide +kernel
theorem dX9_takeLetters_59 : decode cX9_takeLetters 59 = .ok (.aload_n 0, 1) := by decide +kernel
theorem dX9_takeLetters_60 : decode cX9_takeLetters 60 = .ok (.getfield 83, 3) := by decide +kernel
theorem dX9_takeLetters_63 : decode cX9_takeLetters 63 = .ok (.invokevirtual 79, 3) := by decide +kernel
theorem dX9_takeLetters_66 : decode cX9_takeLetters 66 = .ok (.goto 4, 3) := by decide +kernel
theorem dX9_takeLetters_69 : decode cX9_takeLetters 69 = .ok (.iconst 0, 1) := by decide +kernel
theorem dX9_takeLetters_70 : decode cX9_takeLetters 70 = .ok (.putfield 40, 3) := by decide +kernel
theorem dX9_takeLetters_73 : decode cX9_takeLetters 73 = .ok (.return_, 1) := by decide +kernel
theorem dX9_takeNumber_0 : decode cX9_takeNumber 0 = .ok (.aload_n 0, 1) := by decide +kernel
theorem dX9_takeNumber_1 : decode cX9_takeNumber 1 = .ok (.iconst 0, 1) := by decide +kernel
theorem dX9_takeNumber_2 : decode cX9_takeNumber 2 = .ok (.putfield 40, 3) := by decide +kernel
theorem dX9_takeNumber_5 : decode cX9_takeNumber 5 = .ok (.iconst 0, 1) := by decide +kernel
theorem dX9_takeNumber_6 : decode cX9_takeNumber 6 = .ok (.istore_n 1, 1) := by decide +kernel
theorem dX9_takeNumber_7 : decode cX9_takeNumber 7 = .ok (.iload_n 1, 1) := by decide +kernel
theorem dX9_takeNumber_8 : decode cX9_takeNumber 8 = .ok (.sipush 150, 3) := by decide +kernel
theorem dX9_takeNumber_11 : decode cX9_takeNumber 11 = .ok (.if_icmp .ge 61, 3) := by decide +kernel
theorem dX9_takeNumber_14 : decode cX9_takeNumber 14 = .ok (.aload_n 0, 1) := by decide +kernel
theorem dX9_takeNumber_15 : decode cX9_takeNumber 15 = .ok (.aload_n 0, 1) := by decide +kernel
theorem dX9_takeNumber_16 : decode cX9_takeNumber 16 = .ok (.getfield 24, 3) := by decide +kernel
theorem dX9_takeNumber_19 : decode cX9_takeNumber 19 = .ok (.invokevirtual 79, 3) := by decide +kernel
theorem dX9_takeNumber_22 : decode cX9_takeNumber 22 = .ok (.invokestatic 93, 3) := by decide +kernel
theorem dX9_takeNumber_25 : decode cX9_takeNumber 25 = .ok (.ifCond .eq 47, 3) := by decide +kernel
theorem dX9_takeNumber_28 : decode cX9_takeNumber 28 = .ok (.aload_n 0, 1) := by decide +kernel
theorem dX9_takeNumber_29 : decode cX9_takeNumber 29 = .ok (.aload_n 0, 1) := by decide +kernel
theorem dX9_takeNumber_30 : decode cX9_takeNumber 30 = .ok (.getfield 40, 3) := by decide +kernel
theorem dX9_takeNumber_33 : decode cX9_takeNumber 33 = .ok (.bipush 10, 2) := by decide +kernel
theorem dX9_takeNumber_35 : decode cX9_takeNumber 35 = .ok (.imul, 1) := by decide +kernel
theorem dX9_takeNumber_36 : decode cX9_takeNumber 36 = .ok (.aload_n 0, 1) := by decide +kernel
theorem dX9_takeNumber_37 : decode cX9_takeNumber 37 = .ok (.aload_n 0, 1) := by decide +kernel
theorem dX9_takeNumber_38 : decode cX9_takeNumber 38 = .ok (.getfield 24, 3) := by decide +kernel
theorem dX9_takeNumber_41 : decode cX9_takeNumber 41 = .ok (.invokevirtual 79, 3) := by decide +kernel
theorem dX9_takeNumber_44 : decode cX9_takeNumber 44 = .ok (.iadd, 1) := by decide +kernel
theorem dX9_takeNumber_45 : decode cX9_takeNumber 45 = .ok (.bipush 48, 2) := by decide +kernel
theorem dX9_takeNumber_47 : decode cX9_takeNumber 47 = .ok (.isub, 1) := by decide +kernel
theorem dX9_takeNumber_48 : decode cX9_takeNumber 48 = .ok (.bipush 100, 2) := by decide +kernel
theorem dX9_takeNumber_50 : decode cX9_takeNumber 50 = .ok (.invokestatic 99, 3) := by decide +kernel
theorem dX9_takeNumber_53 : decode cX9_takeNumber 53 = .ok (.putfield 40, 3) := by decide +kernel
theorem dX9_takeNumber_56 : decode cX9_takeNumber 56 = .ok (.aload_n 0, 1) := by decide +kernel
theorem dX9_takeNumber_57 : decode cX9_takeNumber 57 = .ok (.dup, 1) := by decide +kernel
theorem dX9_takeNumber_58 : decode cX9_takeNumber 58 = .ok (.getfield 24, 3) := by decide +kernel
theorem dX9_takeNumber_61 : decode cX9_takeNumber 61 = .ok (.iconst 1, 1) := by decide +kernel
theorem dX9_takeNumber_62 : decode cX9_takeNumber 62 = .ok (.iadd, 1) := by decide +kernel
theorem dX9_takeNumber_63 : decode cX9_takeNumber 63 = .ok (.putfield 24, 3) := by decide +kernel
theorem dX9_takeNumber_66 : decode cX9_takeNumber 66 = .ok (.iinc 1 1, 3) := by decide +kernel
theorem dX9_takeNumber_69 : decode cX9_takeNumber 69 = .ok (.goto (-62), 3) := by decide +kernel
theorem dX9_takeNumber_72 : decode cX9_takeNumber 72 = .ok (.aload_n 0, 1) := by decide +kernel
theorem dX9_takeNumber_73 : decode cX9_takeNumber 73 = .ok (.aload_n 0, 1) := by decide +kernel
theorem dX9_takeNumber_74 : decode cX9_takeNumber 74 = .ok (.getfield 83, 3) := by decide +kernel
theorem dX9_takeNumber_77 : decode cX9_takeNumber 77 = .ok (.invokevirtual 79, 3) := by decide +kernel
theorem dX9_takeNumber_80 : decode cX9_takeNumber 80 = .ok (.bipush 48, 2) := by decide +kernel
theorem dX9_takeNumber_82 : decode cX9_takeNumber 82 = .ok (.if_icmp .ne 20, 3) := by decide +kernel
theorem dX9_takeNumber_85 : decode cX9_takeNumber 85 = .ok (.aload_n 0, 1) := by decide +kernel
theorem dX9_takeNumber_86 : decode cX9_takeNumber 86 = .ok (.getfield 24, 3) := by decide +kernel
theorem dX9_takeNumber_89 : decode cX9_takeNumber 89 = .ok (.aload_n 0, 1) := by decide +kernel
theorem dX9_takeNumber_90 : decode cX9_takeNumber 90 = .ok (.getfield 83, 3) := by decide +kernel
theorem dX9_takeNumber_93 : decode cX9_takeNumber 93 = .ok (.isub, 1) := by decide +kernel
theorem dX9_takeNumber_94 : decode cX9_takeNumber 94 = .ok (.iconst 1, 1) := by decide +kernel
theorem dX9_takeNumber_95 : decode cX9_takeNumber 95 = .ok (.if_icmp .le 7, 3) := by decide +kernel
theorem dX9_takeNumber_98 : decode cX9_takeNumber 98 = .ok (.iconst 1, 1) := by decide +kernel
theorem dX9_takeNumber_99 : decode cX9_takeNumber 99 = .ok (.goto 4, 3) := by decide +kernel
theorem dX9_takeNumber_102 : decode cX9_takeNumber 102 = .ok (.iconst 0, 1) := by decide +kernel
theorem dX9_takeNumber_103 : decode cX9_takeNumber 103 = .ok (.istore_n 1, 1) := by decide +kernel
theorem dX9_takeNumber_104 : decode cX9_takeNumber 104 = .ok (.aload_n 0, 1) := by decide +kernel
theorem dX9_takeNumber_105 : decode cX9_takeNumber 105 = .ok (.aload_n 0, 1) := by decide +kernel
theorem dX9_takeNumber_106 : decode cX9_takeNumber 106 = .ok (.getfield 40, 3) := by decide +kernel
theorem dX9_takeNumber_109 : decode cX9_takeNumber 109 = .ok (.bipush 99, 2) := by decide +kernel
theorem dX9_takeNumber_111 : decode cX9_takeNumber 111 = .ok (.if_icmp .gt 7, 3) := by decide +kernel
theorem dX9_takeNumber_114 : decode cX9_takeNumber 114 = .ok (.iload_n 1, 1) := by decide +kernel
theorem dX9_takeNumber_115 : decode cX9_takeNumber 115 = .ok (.ifCond .eq 7, 3) := by decide +kernel
theorem dX9_takeNumber_118 : decode cX9_takeNumber 118 = .ok (.iconst 4, 1) := by decide +kernel
theorem dX9_takeNumber_119 : decode cX9_takeNumber 119 = .ok (.goto 4, 3) := by decide +kernel
theorem dX9_takeNumber_122 : decode cX9_takeNumber 122 = .ok (.iconst 2, 1) := by decide +kernel
theorem dX9_takeNumber_123 : decode cX9_takeNumber 123 = .ok (.putfield 30, 3) := by decide +kernel
theorem dX9_takeNumber_126 : decode cX9_takeNumber 126 = .ok (.return_, 1) := by decide +kernel
theorem dX9_byteAt_0 : decode cX9_byteAt 0 = .ok (.iload_n 1, 1) := by decide +kernel
theorem dX9_byteAt_1 : decode cX9_byteAt 1 = .ok (.ifCond .lt 27, 3) := by decide +kernel
theorem dX9_byteAt_4 : decode cX9_byteAt 4 = .ok (.iload_n 1, 1) := by decide +kernel
theorem dX9_byteAt_5 : decode cX9_byteAt 5 = .ok (.aload_n 0, 1) := by decide +kernel
theorem dX9_byteAt_6 : decode cX9_byteAt 6 = .ok (.getfield 15, 3) := by decide +kernel
theorem dX9_byteAt_9 : decode cX9_byteAt 9 = .ok (.if_icmp .ge 19, 3) := by decide +kernel
theorem dX9_byteAt_12 : decode cX9_byteAt 12 = .ok (.iload_n 1, 1) := by decide +kernel
theorem dX9_byteAt_13 : decode cX9_byteAt 13 = .ok (.sipush 150, 3) := by decide +kernel
theorem dX9_byteAt_16 : decode cX9_byteAt 16 = .ok (.if_icmp .ge 12, 3) := by decide +kernel
theorem dX9_byteAt_19 : decode cX9_byteAt 19 = .ok (.aload_n 0, 1) := by decide +kernel
theorem dX9_byteAt_20 : decode cX9_byteAt 20 = .ok (.getfield 9, 3) := by decide +kernel
theorem dX9_byteAt_23 : decode cX9_byteAt 23 = .ok (.iload_n 1, 1) := by decide +kernel
theorem dX9_byteAt_24 : decode cX9_byteAt 24 = .ok (.iaload, 1) := by decide +kernel
theorem dX9_byteAt_25 : decode cX9_byteAt 25 = .ok (.goto 4, 3) := by decide +kernel
theorem dX9_byteAt_28 : decode cX9_byteAt 28 = .ok (.iconst (-1), 1) := by decide +kernel
theorem dX9_byteAt_29 : decode cX9_byteAt 29 = .ok (.ireturn, 1) := by decide +kernel
theorem dX9_isLetter_0 : decode cX9_isLetter 0 = .ok (.iload_n 0, 1) := by decide +kernel
theorem dX9_isLetter_1 : decode cX9_isLetter 1 = .ok (.bipush 97, 2) := by decide +kernel
theorem dX9_isLetter_3 : decode cX9_isLetter 3 = .ok (.if_icmp .lt 13, 3) := by decide +kernel
theorem dX9_isLetter_6 : decode cX9_isLetter 6 = .ok (.iload_n 0, 1) := by decide +kernel
theorem dX9_isLetter_7 : decode cX9_isLetter 7 = .ok (.bipush 122, 2) := by decide +kernel
theorem dX9_isLetter_9 : decode cX9_isLetter 9 = .ok (.if_icmp .gt 7, 3) := by decide +kernel
theorem dX9_isLetter_12 : decode cX9_isLetter 12 = .ok (.iconst 1, 1) := by decide +kernel
theorem dX9_isLetter_13 : decode cX9_isLetter 13 = .ok (.goto 4, 3) := by decide +kernel
theorem dX9_isLetter_16 : decode cX9_isLetter 16 = .ok (.iconst 0, 1) := by decide +kernel
theorem dX9_isLetter_17 : decode cX9_isLetter 17 = .ok (.ireturn, 1) := by decide +kernel
theorem dX9_isDigit_0 : decode cX9_isDigit 0 = .ok (.iload_n 0, 1) := by decide +kernel
theorem dX9_isDigit_1 : decode cX9_isDigit 1 = .ok (.bipush 48, 2) := by decide +kernel
theorem dX9_isDigit_3 : decode cX9_isDigit 3 = .ok (.if_icmp .lt 13, 3) := by decide +kernel
theorem dX9_isDigit_6 : decode cX9_isDigit 6 = .ok (.iload_n 0, 1) := by decide +kernel
theorem dX9_isDigit_7 : decode cX9_isDigit 7 = .ok (.bipush 57, 2) := by decide +kernel
theorem dX9_isDigit_9 : decode cX9_isDigit 9 = .ok (.if_icmp .gt 7, 3) := by decide +kernel
theorem dX9_isDigit_12 : decode cX9_isDigit 12 = .ok (.iconst 1, 1) := by decide +kernel
theorem dX9_isDigit_13 : decode cX9_isDigit 13 = .ok (.goto 4, 3) := by decide +kernel
theorem dX9_isDigit_16 : decode cX9_isDigit 16 = .ok (.iconst 0, 1) := by decide +kernel
theorem dX9_isDigit_17 : decode cX9_isDigit 17 = .ok (.ireturn, 1) := by decide +kernel
theorem dX10_init_0 : decode cX10_init 0 = .ok (.aload_n 0, 1) := by decide +kernel
theorem dX10_init_1 : decode cX10_init 1 = .ok (.invokespecial 1, 3) := by decide +kernel
theorem dX10_init_4 : decode cX10_init 4 = .ok (.return_, 1) := by decide +kernel
theorem dX10_marked_0 : decode cX10_marked 0 = .ok (.aload_n 0, 1) := by decide +kernel
theorem dX10_marked_1 : decode cX10_marked 1 = .ok (.dup, 1) := by decide +kernel
theorem dX10_marked_2 : decode cX10_marked 2 = .ok (.getfield 7, 3) := by decide +kernel
theorem dX10_marked_5 : decode cX10_marked 5 = .ok (.ldc2_w 13, 3) := by decide +kernel
theorem dX10_marked_8 : decode cX10_marked 8 = .ok (.ladd, 1) := by decide +kernel
theorem dX10_marked_9 : decode cX10_marked 9 = .ok (.putfield 7, 3) := by decide +kernel
theorem dX10_marked_12 : decode cX10_marked 12 = .ok (.aload_n 0, 1) := by decide +kernel
theorem dX10_marked_13 : decode cX10_marked 13 = .ok (.aload_n 1, 1) := by decide +kernel
theorem dX10_marked_14 : decode cX10_marked 14 = .ok (.aload_n 2, 1) := by decide +kernel
theorem dX10_marked_15 : decode cX10_marked 15 = .ok (.iload_n 3, 1) := by decide +kernel
theorem dX10_marked_16 : decode cX10_marked 16 = .ok (.invokespecial 15, 3) := by decide +kernel
theorem dX10_marked_19 : decode cX10_marked 19 = .ok (.iconst 2, 1) := by decide +kernel
theorem dX10_marked_20 : decode cX10_marked 20 = .ok (.imul, 1) := by decide +kernel
theorem dX10_marked_21 : decode cX10_marked 21 = .ok (.ireturn, 1) := by decide +kernel
end
section
theorem dX5_init_0 : decode cX5_init 0 = .ok (.aload_n 0, 1) := by decide +kernel
theorem dX5_init_1 : decode cX5_init 1 = .ok (.invokespecial 3, 3) := by decide +kernel
theorem dX5_init_4 : decode cX5_init 4 = .ok (.aload_n 0, 1) := by decide +kernel
theorem dX5_init_5 : decode cX5_init 5 = .ok (.sipush 1957, 3) := by decide +kernel
theorem dX5_init_8 : decode cX5_init 8 = .ok (.newarray .int, 2) := by decide +kernel
theorem dX5_init_10 : decode cX5_init 10 = .ok (.putfield 11, 3) := by decide +kernel
theorem dX5_init_13 : decode cX5_init 13 = .ok (.aload_n 0, 1) := by decide +kernel
theorem dX5_init_14 : decode cX5_init 14 = .ok (.sipush 1957, 3) := by decide +kernel
theorem dX5_init_17 : decode cX5_init 17 = .ok (.newarray .byte, 2) := by decide +kernel
theorem dX5_init_19 : decode cX5_init 19 = .ok (.putfield 15, 3) := by decide +kernel
theorem dX5_init_22 : decode cX5_init 22 = .ok (.aload_n 0, 1) := by decide +kernel
theorem dX5_init_23 : decode cX5_init 23 = .ok (.sipush 5871, 3) := by decide +kernel
theorem dX5_init_26 : decode cX5_init 26 = .ok (.newarray .long, 2) := by decide +kernel
theorem dX5_init_28 : decode cX5_init 28 = .ok (.putfield 19, 3) := by decide +kernel
theorem dX5_init_31 : decode cX5_init 31 = .ok (.aload_n 0, 1) := by decide +kernel
theorem dX5_init_32 : decode cX5_init 32 = .ok (.sipush 1957, 3) := by decide +kernel
theorem dX5_init_35 : decode cX5_init 35 = .ok (.newarray .boolean, 2) := by decide +kernel
theorem dX5_init_37 : decode cX5_init 37 = .ok (.putfield 23, 3) := by decide +kernel
theorem dX5_init_40 : decode cX5_init 40 = .ok (.aload_n 0, 1) := by decide +kernel
theorem dX5_init_41 : decode cX5_init 41 = .ok (.new 27, 3) := by decide +kernel
theorem dX5_init_44 : decode cX5_init 44 = .ok (.dup, 1) := by decide +kernel
theorem dX5_init_45 : decode cX5_init 45 = .ok (.invokespecial 29, 3) := by decide +kernel
theorem dX5_init_48 : decode cX5_init 48 = .ok (.putfield 30, 3) := by decide +kernel
theorem dX5_init_51 : decode cX5_init 51 = .ok (.aload_n 0, 1) := by decide +kernel
theorem dX5_init_52 : decode cX5_init 52 = .ok (.iconst 3, 1) := by decide +kernel
theorem dX5_init_53 : decode cX5_init 53 = .ok (.newarray .long, 2) := by decide +kernel
theorem dX5_init_55 : decode cX5_init 55 = .ok (.putfield 34, 3) := by decide +kernel
theorem dX5_init_58 : decode cX5_init 58 = .ok (.aload_n 0, 1) := by decide +kernel
theorem dX5_init_59 : decode cX5_init 59 = .ok (.bipush 6, 2) := by decide +kernel
theorem dX5_init_61 : decode cX5_init 61 = .ok (.newarray .int, 2) := by decide +kernel
theorem dX5_init_63 : decode cX5_init 63 = .ok (.putfield 37, 3) := by decide +kernel
theorem dX5_init_66 : decode cX5_init 66 = .ok (.aload_n 0, 1) := by decide +kernel
theorem dX5_init_67 : decode cX5_init 67 = .ok (.new 40, 3) := by decide +kernel
theorem dX5_init_70 : decode cX5_init 70 = .ok (.dup, 1) := by decide +kernel
theorem dX5_init_71 : decode cX5_init 71 = .ok (.invokespecial 42, 3) := by decide +kernel
theorem dX5_init_74 : decode cX5_init 74 = .ok (.putfield 43, 3) := by decide +kernel
theorem dX5_init_77 : decode cX5_init 77 = .ok (.return_, 1) := by decide +kernel
theorem dX5_spread_0 : decode cX5_spread 0 = .ok (.aload_n 0, 1) := by decide +kernel
theorem dX5_spread_1 : decode cX5_spread 1 = .ok (.iconst 0, 1) := by decide +kernel
theorem dX5_spread_2 : decode cX5_spread 2 = .ok (.putfield 47, 3) := by decide +kernel
theorem dX5_spread_5 : decode cX5_spread 5 = .ok (.iload_n 1, 1) := by decide +kernel
theorem dX5_spread_6 : decode cX5_spread 6 = .ok (.ifCond .ge 5, 3) := by decide +kernel
theorem dX5_spread_9 : decode cX5_spread 9 = .ok (.iconst 0, 1) := by decide +kernel
theorem dX5_spread_10 : decode cX5_spread 10 = .ok (.ireturn, 1) := by decide +kernel
theorem dX5_spread_11 : decode cX5_spread 11 = .ok (.iconst 0, 1) := by decide +kernel
theorem dX5_spread_12 : decode cX5_spread 12 = .ok (.istore_n 3, 1) := by decide +kernel
theorem dX5_spread_13 : decode cX5_spread 13 = .ok (.iload_n 1, 1) := by decide +kernel
theorem dX5_spread_14 : decode cX5_spread 14 = .ok (.istore 4, 2) := by decide +kernel
theorem dX5_spread_16 : decode cX5_spread 16 = .ok (.iconst 0, 1) := by decide +kernel
theorem dX5_spread_17 : decode cX5_spread 17 = .ok (.istore 5, 2) := by decide +kernel
theorem dX5_spread_19 : decode cX5_spread 19 = .ok (.iload 5, 2) := by decide +kernel
theorem dX5_spread_21 : decode cX5_spread 21 = .ok (.bipush 6, 2) := by decide +kernel
theorem dX5_spread_23 : decode cX5_spread 23 = .ok (.if_icmp .ge 70, 3) := by decide +kernel
theorem dX5_spread_26 : decode cX5_spread 26 = .ok (.iload 4, 2) := by decide +kernel
theorem dX5_spread_28 : decode cX5_spread 28 = .ok (.ifCond .le 65, 3) := by decide +kernel
theorem dX5_spread_31 : decode cX5_spread 31 = .ok (.iload 4, 2) := by decide +kernel
theorem dX5_spread_33 : decode cX5_spread 33 = .ok (.bipush 10, 2) := by decide +kernel
theorem dX5_spread_35 : decode cX5_spread 35 = .ok (.irem, 1) := by decide +kernel
theorem dX5_spread_36 : decode cX5_spread 36 = .ok (.iconst 1, 1) := by decide +kernel
theorem dX5_spread_37 : decode cX5_spread 37 = .ok (.isub, 1) := by decide +kernel
theorem dX5_spread_38 : decode cX5_spread 38 = .ok (.istore 6, 2) := by decide +kernel
theorem dX5_spread_40 : decode cX5_spread 40 = .ok (.iload 6, 2) := by decide +kernel
theorem dX5_spread_42 : decode cX5_spread 42 = .ok (.ifCond .lt 19, 3) := by decide +kernel
theorem dX5_spread_45 : decode cX5_spread 45 = .ok (.iload 6, 2) := by decide +kernel
theorem dX5_spread_47 : decode cX5_spread 47 = .ok (.iload_n 2, 1) := by decide +kernel
theorem dX5_spread_48 : decode cX5_spread 48 = .ok (.if_icmp .ge 13, 3) := by decide +kernel
theorem dX5_spread_51 : decode cX5_spread 51 = .ok (.iload_n 3, 1) := by decide +kernel
theorem dX5_spread_52 : decode cX5_spread 52 = .ok (.iload 6, 2) := by decide +kernel
theorem dX5_spread_54 : decode cX5_spread 54 = .ok (.ishr, 1) := by decide +kernel
theorem dX5_spread_55 : decode cX5_spread 55 = .ok (.iconst 1, 1) := by decide +kernel
theorem dX5_spread_56 : decode cX5_spread 56 = .ok (.iand, 1) := by decide +kernel
theorem dX5_spread_57 : decode cX5_spread 57 = .ok (.iconst 1, 1) := by decide +kernel
theorem dX5_spread_58 : decode cX5_spread 58 = .ok (.if_icmp .ne 5, 3) := by decide +kernel
theorem dX5_spread_61 : decode cX5_spread 61 = .ok (.iconst 0, 1) := by decide +kernel
theorem dX5_spread_62 : decode cX5_spread 62 = .ok (.ireturn, 1) := by decide +kernel
theorem dX5_spread_63 : decode cX5_spread 63 = .ok (.iload_n 3, 1) := by decide +kernel
theorem dX5_spread_64 : decode cX5_spread 64 = .ok (.iconst 1, 1) := by decide +kernel
theorem dX5_spread_65 : decode cX5_spread 65 = .ok (.iload 6, 2) := by decide +kernel
theorem dX5_spread_67 : decode cX5_spread 67 = .ok (.ishl, 1) := by decide +kernel
theorem dX5_spread_68 : decode cX5_spread 68 = .ok (.ior, 1) := by decide +kernel
theorem dX5_spread_69 : decode cX5_spread 69 = .ok (.istore_n 3, 1) := by decide +kernel
theorem dX5_spread_70 : decode cX5_spread 70 = .ok (.iload 4, 2) := by decide +kernel
theorem dX5_spread_72 : decode cX5_spread 72 = .ok (.bipush 10, 2) := by decide +kernel
theorem dX5_spread_74 : decode cX5_spread 74 = .ok (.idiv, 1) := by decide +kernel
theorem dX5_spread_75 : decode cX5_spread 75 = .ok (.istore 4, 2) := by decide +kernel
theorem dX5_spread_77 : decode cX5_spread 77 = .ok (.aload_n 0, 1) := by decide +kernel
theorem dX5_spread_78 : decode cX5_spread 78 = .ok (.dup, 1) := by decide +kernel
theorem dX5_spread_79 : decode cX5_spread 79 = .ok (.getfield 47, 3) := by decide +kernel
theorem dX5_spread_82 : decode cX5_spread 82 = .ok (.iconst 1, 1) := by decide +kernel
theorem dX5_spread_83 : decode cX5_spread 83 = .ok (.iadd, 1) := by decide +kernel
theorem dX5_spread_84 : decode cX5_spread 84 = .ok (.putfield 47, 3) := by decide +kernel
theorem dX5_spread_87 : decode cX5_spread 87 = .ok (.iinc 5 1, 3) := by decide +kernel
theorem dX5_spread_90 : decode cX5_spread 90 = .ok (.goto (-71), 3) := by decide +kernel
theorem dX5_spread_93 : decode cX5_spread 93 = .ok (.iload 4, 2) := by decide +kernel
theorem dX5_spread_95 : decode cX5_spread 95 = .ok (.ifCond .le 5, 3) := by decide +kernel
theorem dX5_spread_98 : decode cX5_spread 98 = .ok (.iconst 0, 1) := by decide +kernel
theorem dX5_spread_99 : decode cX5_spread 99 = .ok (.ireturn, 1) := by decide +kernel
theorem dX5_spread_100 : decode cX5_spread 100 = .ok (.iload_n 1, 1) := by decide +kernel
theorem dX5_spread_101 : decode cX5_spread 101 = .ok (.istore 4, 2) := by decide +kernel
theorem dX5_spread_103 : decode cX5_spread 103 = .ok (.aload_n 0, 1) := by decide +kernel
theorem dX5_spread_104 : decode cX5_spread 104 = .ok (.getfield 47, 3) := by decide +kernel
theorem dX5_spread_107 : decode cX5_spread 107 = .ok (.bipush 6, 2) := by decide +kernel
theorem dX5_spread_109 : decode cX5_spread 109 = .ok (.invokestatic 51, 3) := by decide +kernel
theorem dX5_spread_112 : decode cX5_spread 112 = .ok (.iconst 1, 1) := by decide +kernel
theorem dX5_spread_113 : decode cX5_spread 113 = .ok (.isub, 1) := by decide +kernel
theorem dX5_spread_114 : decode cX5_spread 114 = .ok (.istore 5, 2) := by decide +kernel
theorem dX5_spread_116 : decode cX5_spread 116 = .ok (.iload 5, 2) := by decide +kernel
theorem dX5_spread_118 : decode cX5_spread 118 = .ok (.ifCond .lt 30, 3) := by decide +kernel
theorem dX5_spread_121 : decode cX5_spread 121 = .ok (.aload_n 0, 1) := by decide +kernel
theorem dX5_spread_122 : decode cX5_spread 122 = .ok (.getfield 37, 3) := by decide +kernel
theorem dX5_spread_125 : decode cX5_spread 125 = .ok (.iload 5, 2) := by decide +kernel
theorem dX5_spread_127 : decode cX5_spread 127 = .ok (.iload 4, 2) := by decide +kernel
theorem dX5_spread_129 : decode cX5_spread 129 = .ok (.bipush 10, 2) := by decide +kernel
theorem dX5_spread_131 : decode cX5_spread 131 = .ok (.irem, 1) := by decide +kernel
theorem dX5_spread_132 : decode cX5_spread 132 = .ok (.iconst 1, 1) := by decide +kernel
theorem dX5_spread_133 : decode cX5_spread 133 = .ok (.isub, 1) := by decide +kernel
theorem dX5_spread_134 : decode cX5_spread 134 = .ok (.iastore, 1) := by decide +kernel
theorem dX5_spread_135 : decode cX5_spread 135 = .ok (.iload 4, 2) := by decide +kernel
theorem dX5_spread_137 : decode cX5_spread 137 = .ok (.bipush 10, 2) := by decide +kernel
theorem dX5_spread_139 : decode cX5_spread 139 = .ok (.idiv, 1) := by decide +kernel
theorem dX5_spread_140 : decode cX5_spread 140 = .ok (.istore 4, 2) := by decide +kernel
theorem dX5_spread_142 : decode cX5_spread 142 = .ok (.iinc 5 (-1), 3) := by decide +kernel
theorem dX5_spread_145 : decode cX5_spread 145 = .ok (.goto (-29), 3) := by decide +kernel
theorem dX5_spread_148 : decode cX5_spread 148 = .ok (.iconst 1, 1) := by decide +kernel
theorem dX5_spread_149 : decode cX5_spread 149 = .ok (.ireturn, 1) := by decide +kernel
theorem dX5_walk_0 : decode cX5_walk 0 = .ok (.aload_n 0, 1) := by decide +kernel
theorem dX5_walk_1 : decode cX5_walk 1 = .ok (.getfield 34, 3) := by decide +kernel
theorem dX5_walk_4 : decode cX5_walk 4 = .ok (.lconst 0, 1) := by decide +kernel
theorem dX5_walk_5 : decode cX5_walk 5 = .ok (.invokestatic 57, 3) := by decide +kernel
theorem dX5_walk_8 : decode cX5_walk 8 = .ok (.aload_n 0, 1) := by decide +kernel
theorem dX5_walk_9 : decode cX5_walk 9 = .ok (.getfield 30, 3) := by decide +kernel
theorem dX5_walk_12 : decode cX5_walk 12 = .ok (.aload_n 1, 1) := by decide +kernel
theorem dX5_walk_13 : decode cX5_walk 13 = .ok (.invokevirtual 63, 3) := by decide +kernel
theorem dX5_walk_16 : decode cX5_walk 16 = .ok (.aload_n 0, 1) := by decide +kernel
theorem dX5_walk_17 : decode cX5_walk 17 = .ok (.iconst 0, 1) := by decide +kernel
theorem dX5_walk_18 : decode cX5_walk 18 = .ok (.putfield 67, 3) := by decide +kernel
theorem dX5_walk_21 : decode cX5_walk 21 = .ok (.iconst 0, 1) := by decide +kernel
theorem dX5_walk_22 : decode cX5_walk 22 = .ok (.istore_n 2, 1) := by decide +kernel
theorem dX5_walk_23 : decode cX5_walk 23 = .ok (.iload_n 2, 1) := by decide +kernel
theorem dX5_walk_24 : decode cX5_walk 24 = .ok (.bipush 30, 2) := by decide +kernel
theorem dX5_walk_26 : decode cX5_walk 26 = .ok (.if_icmp .ge 64, 3) := by decide +kernel
theorem dX5_walk_29 : decode cX5_walk 29 = .ok (.aload_n 0, 1) := by decide +kernel
theorem dX5_walk_30 : decode cX5_walk 30 = .ok (.aload_n 1, 1) := by decide +kernel
theorem dX5_walk_31 : decode cX5_walk 31 = .ok (.invokevirtual 70, 3) := by decide +kernel
theorem dX5_walk_34 : decode cX5_walk 34 = .ok (.aload_n 0, 1) := by decide +kernel
theorem dX5_walk_35 : decode cX5_walk 35 = .ok (.getfield 30, 3) := by decide +kernel
theorem dX5_walk_38 : decode cX5_walk 38 = .ok (.getfield 73, 3) := by decide +kernel
theorem dX5_walk_41 : decode cX5_walk 41 = .ok (.i2l, 1) := by decide +kernel
theorem dX5_walk_42 : decode cX5_walk 42 = .ok (.lstore_n 3, 1) := by decide +kernel
theorem dX5_walk_43 : decode cX5_walk 43 = .ok (.aload_n 0, 1) := by decide +kernel
theorem dX5_walk_44 : decode cX5_walk 44 = .ok (.getfield 30, 3) := by decide +kernel
theorem dX5_walk_47 : decode cX5_walk 47 = .ok (.aload_n 1, 1) := by decide +kernel
theorem dX5_walk_48 : decode cX5_walk 48 = .ok (.invokevirtual 76, 3) := by decide +kernel
theorem dX5_walk_51 : decode cX5_walk 51 = .ok (.ifCond .ne 5, 3) := by decide +kernel
theorem dX5_walk_54 : decode cX5_walk 54 = .ok (.iload_n 2, 1) := by decide +kernel
theorem dX5_walk_55 : decode cX5_walk 55 = .ok (.ireturn, 1) := by decide +kernel
theorem dX5_walk_56 : decode cX5_walk 56 = .ok (.iload_n 2, 1) := by decide +kernel
theorem dX5_walk_57 : decode cX5_walk 57 = .ok (.bipush 10, 2) := by decide +kernel
theorem dX5_walk_59 : decode cX5_walk 59 = .ok (.idiv, 1) := by decide +kernel
theorem dX5_walk_60 : decode cX5_walk 60 = .ok (.istore 5, 2) := by decide +kernel
theorem dX5_walk_62 : decode cX5_walk 62 = .ok (.iload 5, 2) := by decide +kernel
theorem dX5_walk_64 : decode cX5_walk 64 = .ok (.iconst 3, 1) := by decide +kernel
theorem dX5_walk_65 : decode cX5_walk 65 = .ok (.if_icmp .ge 19, 3) := by decide +kernel
theorem dX5_walk_68 : decode cX5_walk 68 = .ok (.aload_n 0, 1) := by decide +kernel
theorem dX5_walk_69 : decode cX5_walk 69 = .ok (.getfield 34, 3) := by decide +kernel
theorem dX5_walk_72 : decode cX5_walk 72 = .ok (.iload 5, 2) := by decide +kernel
theorem dX5_walk_74 : decode cX5_walk 74 = .ok (.dup2, 1) := by decide +kernel
theorem dX5_walk_75 : decode cX5_walk 75 = .ok (.laload, 1) := by decide +kernel
theorem dX5_walk_76 : decode cX5_walk 76 = .ok (.lload_n 3, 1) := by decide +kernel
theorem dX5_walk_77 : decode cX5_walk 77 = .ok (.iload_n 2, 1) := by decide +kernel
theorem dX5_walk_78 : decode cX5_walk 78 = .ok (.invokestatic 80, 3) := by decide +kernel
theorem dX5_walk_81 : decode cX5_walk 81 = .ok (.lshl, 1) := by decide +kernel
theorem dX5_walk_82 : decode cX5_walk 82 = .ok (.lor, 1) := by decide +kernel
theorem dX5_walk_83 : decode cX5_walk 83 = .ok (.lastore, 1) := by decide +kernel
theorem dX5_walk_84 : decode cX5_walk 84 = .ok (.iinc 2 1, 3) := by decide +kernel
theorem dX5_walk_87 : decode cX5_walk 87 = .ok (.goto (-64), 3) := by decide +kernel
theorem dX5_walk_90 : decode cX5_walk 90 = .ok (.bipush 30, 2) := by decide +kernel
theorem dX5_walk_92 : decode cX5_walk 92 = .ok (.ireturn, 1) := by decide +kernel
theorem dX5_walkNight_0 : decode cX5_walkNight 0 = .ok (.iconst 0, 1) := by decide +kernel
theorem dX5_walkNight_1 : decode cX5_walkNight 1 = .ok (.istore_n 2, 1) := by decide +kernel
theorem dX5_walkNight_2 : decode cX5_walkNight 2 = .ok (.iload_n 2, 1) := by decide +kernel
theorem dX5_walkNight_3 : decode cX5_walkNight 3 = .ok (.bipush 10, 2) := by decide +kernel
theorem dX5_walkNight_5 : decode cX5_walkNight 5 = .ok (.if_icmp .ge 111, 3) := by decide +kernel
theorem dX5_walkNight_8 : decode cX5_walkNight 8 = .ok (.aload_n 0, 1) := by decide +kernel
theorem dX5_walkNight_9 : decode cX5_walkNight 9 = .ok (.getfield 30, 3) := by decide +kernel
theorem dX5_walkNight_12 : decode cX5_walkNight 12 = .ok (.getfield 84, 3) := by decide +kernel
theorem dX5_walkNight_15 : decode cX5_walkNight 15 = .ok (.ifCond .le 101, 3) := by decide +kernel
theorem dX5_walkNight_18 : decode cX5_walkNight 18 = .ok (.aload_n 0, 1) := by decide +kernel
theorem dX5_walkNight_19 : decode cX5_walkNight 19 = .ok (.getfield 67, 3) := by decide +kernel
theorem dX5_walkNight_22 : decode cX5_walkNight 22 = .ok (.ifCond .lt 35, 3) := by decide +kernel
theorem dX5_walkNight_25 : decode cX5_walkNight 25 = .ok (.aload_n 0, 1) := by decide +kernel
theorem dX5_walkNight_26 : decode cX5_walkNight 26 = .ok (.getfield 67, 3) := by decide +kernel
theorem dX5_walkNight_29 : decode cX5_walkNight 29 = .ok (.aload_n 0, 1) := by decide +kernel
theorem dX5_walkNight_30 : decode cX5_walkNight 30 = .ok (.getfield 47, 3) := by decide +kernel
theorem dX5_walkNight_33 : decode cX5_walkNight 33 = .ok (.if_icmp .ge 24, 3) := by decide +kernel
theorem dX5_walkNight_36 : decode cX5_walkNight 36 = .ok (.aload_n 0, 1) := by decide +kernel
theorem dX5_walkNight_37 : decode cX5_walkNight 37 = .ok (.getfield 67, 3) := by decide +kernel
theorem dX5_walkNight_40 : decode cX5_walkNight 40 = .ok (.bipush 6, 2) := by decide +kernel
theorem dX5_walkNight_42 : decode cX5_walkNight 42 = .ok (.if_icmp .ge 15, 3) := by decide +kernel
theorem dX5_walkNight_45 : decode cX5_walkNight 45 = .ok (.aload_n 0, 1) := by decide +kernel
theorem dX5_walkNight_46 : decode cX5_walkNight 46 = .ok (.getfield 37, 3) := by decide +kernel
theorem dX5_walkNight_49 : decode cX5_walkNight 49 = .ok (.aload_n 0, 1) := by decide +kernel
theorem dX5_walkNight_50 : decode cX5_walkNight 50 = .ok (.getfield 67, 3) := by decide +kernel
theorem dX5_walkNight_53 : decode cX5_walkNight 53 = .ok (.iaload, 1) := by decide +kernel
theorem dX5_walkNight_54 : decode cX5_walkNight 54 = .ok (.goto 5, 3) := by decide +kernel
theorem dX5_walkNight_57 : decode cX5_walkNight 57 = .ok (.bipush (-9), 2) := by decide +kernel
theorem dX5_walkNight_59 : decode cX5_walkNight 59 = .ok (.istore_n 3, 1) := by decide +kernel
theorem dX5_walkNight_60 : decode cX5_walkNight 60 = .ok (.aload_n 0, 1) := by decide +kernel
theorem dX5_walkNight_61 : decode cX5_walkNight 61 = .ok (.getfield 30, 3) := by decide +kernel
theorem dX5_walkNight_64 : decode cX5_walkNight 64 = .ok (.invokevirtual 87, 3) := by decide +kernel
theorem dX5_walkNight_67 : decode cX5_walkNight 67 = .ok (.ifCond .eq 36, 3) := by decide +kernel
theorem dX5_walkNight_70 : decode cX5_walkNight 70 = .ok (.aload_n 0, 1) := by decide +kernel
theorem dX5_walkNight_71 : decode cX5_walkNight 71 = .ok (.getfield 30, 3) := by decide +kernel
theorem dX5_walkNight_74 : decode cX5_walkNight 74 = .ok (.aload_n 1, 1) := by decide +kernel
theorem dX5_walkNight_75 : decode cX5_walkNight 75 = .ok (.iload_n 3, 1) := by decide +kernel
theorem dX5_walkNight_76 : decode cX5_walkNight 76 = .ok (.invokevirtual 91, 3) := by decide +kernel
theorem dX5_walkNight_79 : decode cX5_walkNight 79 = .ok (.ifCond .eq 24, 3) := by decide +kernel
theorem dX5_walkNight_82 : decode cX5_walkNight 82 = .ok (.aload_n 0, 1) := by decide +kernel
theorem dX5_walkNight_83 : decode cX5_walkNight 83 = .ok (.getfield 30, 3) := by decide +kernel
theorem dX5_walkNight_86 : decode cX5_walkNight 86 = .ok (.iload_n 3, 1) := by decide +kernel
theorem dX5_walkNight_87 : decode cX5_walkNight 87 = .ok (.invokevirtual 95, 3) := by decide +kernel
theorem dX5_walkNight_90 : decode cX5_walkNight 90 = .ok (.aload_n 0, 1) := by decide +kernel
theorem dX5_walkNight_91 : decode cX5_walkNight 91 = .ok (.dup, 1) := by decide +kernel
theorem dX5_walkNight_92 : decode cX5_walkNight 92 = .ok (.getfield 67, 3) := by decide +kernel
theorem dX5_walkNight_95 : decode cX5_walkNight 95 = .ok (.iconst 1, 1) := by decide +kernel
theorem dX5_walkNight_96 : decode cX5_walkNight 96 = .ok (.iadd, 1) := by decide +kernel
theorem dX5_walkNight_97 : decode cX5_walkNight 97 = .ok (.putfield 67, 3) := by decide +kernel
theorem dX5_walkNight_100 : decode cX5_walkNight 100 = .ok (.goto 10, 3) := by decide +kernel
theorem dX5_walkNight_103 : decode cX5_walkNight 103 = .ok (.aload_n 0, 1) := by decide +kernel
theorem dX5_walkNight_104 : decode cX5_walkNight 104 = .ok (.getfield 30, 3) := by decide +kernel
theorem dX5_walkNight_107 : decode cX5_walkNight 107 = .ok (.invokevirtual 99, 3) := by decide +kernel
theorem dX5_walkNight_110 : decode cX5_walkNight 110 = .ok (.iinc 2 1, 3) := by decide +kernel
theorem dX5_walkNight_113 : decode cX5_walkNight 113 = .ok (.goto (-111), 3) := by decide +kernel
theorem dX5_walkNight_116 : decode cX5_walkNight 116 = .ok (.return_, 1) := by decide +kernel
theorem dX5_walkOn_0 : decode cX5_walkOn 0 = .ok (.aload_n 0, 1) := by decide +kernel
theorem dX5_walkOn_1 : decode cX5_walkOn 1 = .ok (.getfield 30, 3) := by decide +kernel
theorem dX5_walkOn_4 : decode cX5_walkOn 4 = .ok (.aload_n 2, 1) := by decide +kernel
theorem dX5_walkOn_5 : decode cX5_walkOn 5 = .ok (.invokevirtual 102, 3) := by decide +kernel
theorem dX5_walkOn_8 : decode cX5_walkOn 8 = .ok (.iconst 0, 1) := by decide +kernel
theorem dX5_walkOn_9 : decode cX5_walkOn 9 = .ok (.istore_n 3, 1) := by decide +kernel
theorem dX5_walkOn_10 : decode cX5_walkOn 10 = .ok (.iload_n 3, 1) := by decide +kernel
theorem dX5_walkOn_11 : decode cX5_walkOn 11 = .ok (.bipush 30, 2) := by decide +kernel
theorem dX5_walkOn_13 : decode cX5_walkOn 13 = .ok (.if_icmp .ge 65, 3) := by decide +kernel
theorem dX5_walkOn_16 : decode cX5_walkOn 16 = .ok (.iconst 0, 1) := by decide +kernel
theorem dX5_walkOn_17 : decode cX5_walkOn 17 = .ok (.istore 4, 2) := by decide +kernel
theorem dX5_walkOn_19 : decode cX5_walkOn 19 = .ok (.iload 4, 2) := by decide +kernel
theorem dX5_walkOn_21 : decode cX5_walkOn 21 = .ok (.bipush 10, 2) := by decide +kernel
theorem dX5_walkOn_23 : decode cX5_walkOn 23 = .ok (.if_icmp .ge 26, 3) := by decide +kernel
theorem dX5_walkOn_26 : decode cX5_walkOn 26 = .ok (.aload_n 0, 1) := by decide +kernel
theorem dX5_walkOn_27 : decode cX5_walkOn 27 = .ok (.getfield 30, 3) := by decide +kernel
theorem dX5_walkOn_30 : decode cX5_walkOn 30 = .ok (.invokevirtual 106, 3) := by decide +kernel
theorem dX5_walkOn_33 : decode cX5_walkOn 33 = .ok (.ifCond .eq 16, 3) := by decide +kernel
theorem dX5_walkOn_36 : decode cX5_walkOn 36 = .ok (.aload_n 0, 1) := by decide +kernel
theorem dX5_walkOn_37 : decode cX5_walkOn 37 = .ok (.getfield 30, 3) := by decide +kernel
theorem dX5_walkOn_40 : decode cX5_walkOn 40 = .ok (.invokevirtual 99, 3) := by decide +kernel
theorem dX5_walkOn_43 : decode cX5_walkOn 43 = .ok (.iinc 4 1, 3) := by decide +kernel
theorem dX5_walkOn_46 : decode cX5_walkOn 46 = .ok (.goto (-27), 3) := by decide +kernel
theorem dX5_walkOn_49 : decode cX5_walkOn 49 = .ok (.aload_n 0, 1) := by decide +kernel
theorem dX5_walkOn_50 : decode cX5_walkOn 50 = .ok (.getfield 30, 3) := by decide +kernel
theorem dX5_walkOn_53 : decode cX5_walkOn 53 = .ok (.invokevirtual 109, 3) := by decide +kernel
theorem dX5_walkOn_56 : decode cX5_walkOn 56 = .ok (.ifCond .eq 14, 3) := by decide +kernel
theorem dX5_walkOn_59 : decode cX5_walkOn 59 = .ok (.aload_n 0, 1) := by decide +kernel
theorem dX5_walkOn_60 : decode cX5_walkOn 60 = .ok (.getfield 30, 3) := by decide +kernel
theorem dX5_walkOn_63 : decode cX5_walkOn 63 = .ok (.aload_n 1, 1) := by decide +kernel
theorem dX5_walkOn_64 : decode cX5_walkOn 64 = .ok (.invokevirtual 76, 3) := by decide +kernel
theorem dX5_walkOn_67 : decode cX5_walkOn 67 = .ok (.ifCond .ne 5, 3) := by decide +kernel
theorem dX5_walkOn_70 : decode cX5_walkOn 70 = .ok (.iload_n 3, 1) := by decide +kernel
theorem dX5_walkOn_71 : decode cX5_walkOn 71 = .ok (.ireturn, 1) := by decide +kernel
theorem dX5_walkOn_72 : decode cX5_walkOn 72 = .ok (.iinc 3 1, 3) := by decide +kernel
theorem dX5_walkOn_75 : decode cX5_walkOn 75 = .ok (.goto (-65), 3) := by decide +kernel
theorem dX5_walkOn_78 : decode cX5_walkOn 78 = .ok (.bipush 30, 2) := by decide +kernel
theorem dX5_walkOn_80 : decode cX5_walkOn 80 = .ok (.ireturn, 1) := by decide +kernel
theorem dX5_drop_0 : decode cX5_drop 0 = .ok (.aload_n 0, 1) := by decide +kernel
theorem dX5_drop_1 : decode cX5_drop 1 = .ok (.iconst 0, 1) := by decide +kernel
theorem dX5_drop_2 : decode cX5_drop 2 = .ok (.putfield 112, 3) := by decide +kernel
theorem dX5_drop_5 : decode cX5_drop 5 = .ok (.aload_n 0, 1) := by decide +kernel
theorem dX5_drop_6 : decode cX5_drop 6 = .ok (.bipush (-9), 2) := by decide +kernel
theorem dX5_drop_8 : decode cX5_drop 8 = .ok (.putfield 116, 3) := by decide +kernel
theorem dX5_drop_11 : decode cX5_drop 11 = .ok (.return_, 1) := by decide +kernel
theorem dX5_know_0 : decode cX5_know 0 = .ok (.aload_n 0, 1) := by decide +kernel
theorem dX5_know_1 : decode cX5_know 1 = .ok (.getfield 112, 3) := by decide +kernel
theorem dX5_know_4 : decode cX5_know 4 = .ok (.ifCond .ne 13, 3) := by decide +kernel
theorem dX5_know_7 : decode cX5_know 7 = .ok (.aload_n 0, 1) := by decide +kernel
theorem dX5_know_8 : decode cX5_know 8 = .ok (.aload_n 1, 1) := by decide +kernel
theorem dX5_know_9 : decode cX5_know 9 = .ok (.invokevirtual 119, 3) := by decide +kernel
theorem dX5_know_12 : decode cX5_know 12 = .ok (.aload_n 0, 1) := by decide +kernel
theorem dX5_know_13 : decode cX5_know 13 = .ok (.iconst 1, 1) := by decide +kernel
theorem dX5_know_14 : decode cX5_know 14 = .ok (.putfield 112, 3) := by decide +kernel
theorem dX5_know_17 : decode cX5_know 17 = .ok (.return_, 1) := by decide +kernel
theorem dX5_walkAll_0 : decode cX5_walkAll 0 = .ok (.aload_n 0, 1) := by decide +kernel
theorem dX5_walkAll_1 : decode cX5_walkAll 1 = .ok (.aload_n 1, 1) := by decide +kernel
theorem dX5_walkAll_2 : decode cX5_walkAll 2 = .ok (.getfield 122, 3) := by decide +kernel
theorem dX5_walkAll_5 : decode cX5_walkAll 5 = .ok (.invokevirtual 125, 3) := by decide +kernel
theorem dX5_walkAll_8 : decode cX5_walkAll 8 = .ok (.iconst 0, 1) := by decide +kernel
theorem dX5_walkAll_9 : decode cX5_walkAll 9 = .ok (.istore_n 2, 1) := by decide +kernel
theorem dX5_walkAll_10 : decode cX5_walkAll 10 = .ok (.iconst 0, 1) := by decide +kernel
theorem dX5_walkAll_11 : decode cX5_walkAll 11 = .ok (.istore_n 3, 1) := by decide +kernel
theorem dX5_walkAll_12 : decode cX5_walkAll 12 = .ok (.iload_n 3, 1) := by decide +kernel
theorem dX5_walkAll_13 : decode cX5_walkAll 13 = .ok (.aload_n 0, 1) := by decide +kernel
theorem dX5_walkAll_14 : decode cX5_walkAll 14 = .ok (.getfield 128, 3) := by decide +kernel
theorem dX5_walkAll_17 : decode cX5_walkAll 17 = .ok (.if_icmp .ge 133, 3) := by decide +kernel
theorem dX5_walkAll_20 : decode cX5_walkAll 20 = .ok (.iload_n 3, 1) := by decide +kernel
theorem dX5_walkAll_21 : decode cX5_walkAll 21 = .ok (.sipush 1957, 3) := by decide +kernel
theorem dX5_walkAll_24 : decode cX5_walkAll 24 = .ok (.if_icmp .ge 126, 3) := by decide +kernel
theorem dX5_walkAll_27 : decode cX5_walkAll 27 = .ok (.iload_n 2, 1) := by decide +kernel
theorem dX5_walkAll_28 : decode cX5_walkAll 28 = .ok (.iload_n 3, 1) := by decide +kernel
theorem dX5_walkAll_29 : decode cX5_walkAll 29 = .ok (.if_icmp .ge 27, 3) := by decide +kernel
theorem dX5_walkAll_32 : decode cX5_walkAll 32 = .ok (.aload_n 0, 1) := by decide +kernel
theorem dX5_walkAll_33 : decode cX5_walkAll 33 = .ok (.getfield 11, 3) := by decide +kernel
theorem dX5_walkAll_36 : decode cX5_walkAll 36 = .ok (.iload_n 2, 1) := by decide +kernel
theorem dX5_walkAll_37 : decode cX5_walkAll 37 = .ok (.iaload, 1) := by decide +kernel
theorem dX5_walkAll_38 : decode cX5_walkAll 38 = .ok (.aload_n 0, 1) := by decide +kernel
theorem dX5_walkAll_39 : decode cX5_walkAll 39 = .ok (.getfield 11, 3) := by decide +kernel
theorem dX5_walkAll_42 : decode cX5_walkAll 42 = .ok (.iload_n 3, 1) := by decide +kernel
theorem dX5_walkAll_43 : decode cX5_walkAll 43 = .ok (.iaload, 1) := by decide +kernel
theorem dX5_walkAll_44 : decode cX5_walkAll 44 = .ok (.bipush 10, 2) := by decide +kernel
theorem dX5_walkAll_46 : decode cX5_walkAll 46 = .ok (.idiv, 1) := by decide +kernel
theorem dX5_walkAll_47 : decode cX5_walkAll 47 = .ok (.if_icmp .eq 9, 3) := by decide +kernel
theorem dX5_walkAll_50 : decode cX5_walkAll 50 = .ok (.iinc 2 1, 3) := by decide +kernel
theorem dX5_walkAll_53 : decode cX5_walkAll 53 = .ok (.goto (-26), 3) := by decide +kernel
theorem dX5_walkAll_56 : decode cX5_walkAll 56 = .ok (.aload_n 0, 1) := by decide +kernel
theorem dX5_walkAll_57 : decode cX5_walkAll 57 = .ok (.getfield 23, 3) := by decide +kernel
theorem dX5_walkAll_60 : decode cX5_walkAll 60 = .ok (.iload_n 2, 1) := by decide +kernel
theorem dX5_walkAll_61 : decode cX5_walkAll 61 = .ok (.baload, 1) := by decide +kernel
theorem dX5_walkAll_62 : decode cX5_walkAll 62 = .ok (.ifCond .eq 17, 3) := by decide +kernel
theorem dX5_walkAll_65 : decode cX5_walkAll 65 = .ok (.iload_n 2, 1) := by decide +kernel
theorem dX5_walkAll_66 : decode cX5_walkAll 66 = .ok (.iload_n 3, 1) := by decide +kernel
theorem dX5_walkAll_67 : decode cX5_walkAll 67 = .ok (.if_icmp .ge 12, 3) := by decide +kernel
theorem dX5_walkAll_70 : decode cX5_walkAll 70 = .ok (.aload_n 0, 1) := by decide +kernel
theorem dX5_walkAll_71 : decode cX5_walkAll 71 = .ok (.iload_n 2, 1) := by decide +kernel
theorem dX5_walkAll_72 : decode cX5_walkAll 72 = .ok (.iload_n 3, 1) := by decide +kernel
theorem dX5_walkAll_73 : decode cX5_walkAll 73 = .ok (.invokevirtual 131, 3) := by decide +kernel
theorem dX5_walkAll_76 : decode cX5_walkAll 76 = .ok (.goto 68, 3) := by decide +kernel
theorem dX5_walkAll_79 : decode cX5_walkAll 79 = .ok (.aload_n 0, 1) := by decide +kernel
theorem dX5_walkAll_80 : decode cX5_walkAll 80 = .ok (.aload_n 0, 1) := by decide +kernel
theorem dX5_walkAll_81 : decode cX5_walkAll 81 = .ok (.getfield 11, 3) := by decide +kernel
theorem dX5_walkAll_84 : decode cX5_walkAll 84 = .ok (.iload_n 3, 1) := by decide +kernel
theorem dX5_walkAll_85 : decode cX5_walkAll 85 = .ok (.iaload, 1) := by decide +kernel
theorem dX5_walkAll_86 : decode cX5_walkAll 86 = .ok (.aload_n 1, 1) := by decide +kernel
theorem dX5_walkAll_87 : decode cX5_walkAll 87 = .ok (.getfield 122, 3) := by decide +kernel
theorem dX5_walkAll_90 : decode cX5_walkAll 90 = .ok (.invokevirtual 135, 3) := by decide +kernel
theorem dX5_walkAll_93 : decode cX5_walkAll 93 = .ok (.pop, 1) := by decide +kernel
theorem dX5_walkAll_94 : decode cX5_walkAll 94 = .ok (.aload_n 0, 1) := by decide +kernel
theorem dX5_walkAll_95 : decode cX5_walkAll 95 = .ok (.getfield 15, 3) := by decide +kernel
theorem dX5_walkAll_98 : decode cX5_walkAll 98 = .ok (.iload_n 3, 1) := by decide +kernel
theorem dX5_walkAll_99 : decode cX5_walkAll 99 = .ok (.aload_n 0, 1) := by decide +kernel
theorem dX5_walkAll_100 : decode cX5_walkAll 100 = .ok (.aload_n 1, 1) := by decide +kernel
theorem dX5_walkAll_101 : decode cX5_walkAll 101 = .ok (.invokevirtual 139, 3) := by decide +kernel
theorem dX5_walkAll_104 : decode cX5_walkAll 104 = .ok (.i2b, 1) := by decide +kernel
theorem dX5_walkAll_105 : decode cX5_walkAll 105 = .ok (.bastore, 1) := by decide +kernel
theorem dX5_walkAll_106 : decode cX5_walkAll 106 = .ok (.aload_n 0, 1) := by decide +kernel
theorem dX5_walkAll_107 : decode cX5_walkAll 107 = .ok (.getfield 34, 3) := by decide +kernel
theorem dX5_walkAll_110 : decode cX5_walkAll 110 = .ok (.iconst 0, 1) := by decide +kernel
theorem dX5_walkAll_111 : decode cX5_walkAll 111 = .ok (.aload_n 0, 1) := by decide +kernel
theorem dX5_walkAll_112 : decode cX5_walkAll 112 = .ok (.getfield 19, 3) := by decide +kernel
theorem dX5_walkAll_115 : decode cX5_walkAll 115 = .ok (.iload_n 3, 1) := by decide +kernel
theorem dX5_walkAll_116 : decode cX5_walkAll 116 = .ok (.iconst 3, 1) := by decide +kernel
theorem dX5_walkAll_117 : decode cX5_walkAll 117 = .ok (.imul, 1) := by decide +kernel
theorem dX5_walkAll_118 : decode cX5_walkAll 118 = .ok (.iconst 3, 1) := by decide +kernel
theorem dX5_walkAll_119 : decode cX5_walkAll 119 = .ok (.invokestatic 143, 3) := by decide +kernel
theorem dX5_walkAll_122 : decode cX5_walkAll 122 = .ok (.aload_n 0, 1) := by decide +kernel
theorem dX5_walkAll_123 : decode cX5_walkAll 123 = .ok (.getfield 23, 3) := by decide +kernel
theorem dX5_walkAll_126 : decode cX5_walkAll 126 = .ok (.iload_n 3, 1) := by decide +kernel
theorem dX5_walkAll_127 : decode cX5_walkAll 127 = .ok (.aload_n 0, 1) := by decide +kernel
theorem dX5_walkAll_128 : decode cX5_walkAll 128 = .ok (.getfield 67, 3) := by decide +kernel
theorem dX5_walkAll_131 : decode cX5_walkAll 131 = .ok (.aload_n 0, 1) := by decide +kernel
theorem dX5_walkAll_132 : decode cX5_walkAll 132 = .ok (.getfield 47, 3) := by decide +kernel
theorem dX5_walkAll_135 : decode cX5_walkAll 135 = .ok (.if_icmp .ge 7, 3) := by decide +kernel
theorem dX5_walkAll_138 : decode cX5_walkAll 138 = .ok (.iconst 1, 1) := by decide +kernel
theorem dX5_walkAll_139 : decode cX5_walkAll 139 = .ok (.goto 4, 3) := by decide +kernel
theorem dX5_walkAll_142 : decode cX5_walkAll 142 = .ok (.iconst 0, 1) := by decide +kernel
theorem dX5_walkAll_143 : decode cX5_walkAll 143 = .ok (.bastore, 1) := by decide +kernel
theorem dX5_walkAll_144 : decode cX5_walkAll 144 = .ok (.iinc 3 1, 3) := by decide +kernel
theorem dX5_walkAll_147 : decode cX5_walkAll 147 = .ok (.goto (-135), 3) := by decide +kernel
theorem dX5_walkAll_150 : decode cX5_walkAll 150 = .ok (.return_, 1) := by decide +kernel
theorem dX5_takeOver_0 : decode cX5_takeOver 0 = .ok (.aload_n 0, 1) := by decide +kernel
theorem dX5_takeOver_1 : decode cX5_takeOver 1 = .ok (.getfield 15, 3) := by decide +kernel
theorem dX5_takeOver_4 : decode cX5_takeOver 4 = .ok (.iload_n 2, 1) := by decide +kernel
theorem dX5_takeOver_5 : decode cX5_takeOver 5 = .ok (.aload_n 0, 1) := by decide +kernel
theorem dX5_takeOver_6 : decode cX5_takeOver 6 = .ok (.getfield 15, 3) := by decide +kernel
theorem dX5_takeOver_9 : decode cX5_takeOver 9 = .ok (.iload_n 1, 1) := by decide +kernel
theorem dX5_takeOver_10 : decode cX5_takeOver 10 = .ok (.baload, 1) := by decide +kernel
theorem dX5_takeOver_11 : decode cX5_takeOver 11 = .ok (.bastore, 1) := by decide +kernel
theorem dX5_takeOver_12 : decode cX5_takeOver 12 = .ok (.aload_n 0, 1) := by decide +kernel
theorem dX5_takeOver_13 : decode cX5_takeOver 13 = .ok (.getfield 19, 3) := by decide +kernel
theorem dX5_takeOver_16 : decode cX5_takeOver 16 = .ok (.iload_n 1, 1) := by decide +kernel
theorem dX5_takeOver_17 : decode cX5_takeOver 17 = .ok (.iconst 3, 1) := by decide +kernel
theorem dX5_takeOver_18 : decode cX5_takeOver 18 = .ok (.imul, 1) := by decide +kernel
theorem dX5_takeOver_19 : decode cX5_takeOver 19 = .ok (.aload_n 0, 1) := by decide +kernel
theorem dX5_takeOver_20 : decode cX5_takeOver 20 = .ok (.getfield 19, 3) := by decide +kernel
theorem dX5_takeOver_23 : decode cX5_takeOver 23 = .ok (.iload_n 2, 1) := by decide +kernel
theorem dX5_takeOver_24 : decode cX5_takeOver 24 = .ok (.iconst 3, 1) := by decide +kernel
theorem dX5_takeOver_25 : decode cX5_takeOver 25 = .ok (.imul, 1) := by decide +kernel
theorem dX5_takeOver_26 : decode cX5_takeOver 26 = .ok (.iconst 3, 1) := by decide +kernel
theorem dX5_takeOver_27 : decode cX5_takeOver 27 = .ok (.invokestatic 143, 3) := by decide +kernel
theorem dX5_takeOver_30 : decode cX5_takeOver 30 = .ok (.aload_n 0, 1) := by decide +kernel
theorem dX5_takeOver_31 : decode cX5_takeOver 31 = .ok (.getfield 23, 3) := by decide +kernel
theorem dX5_takeOver_34 : decode cX5_takeOver 34 = .ok (.iload_n 2, 1) := by decide +kernel
theorem dX5_takeOver_35 : decode cX5_takeOver 35 = .ok (.iconst 1, 1) := by decide +kernel
theorem dX5_takeOver_36 : decode cX5_takeOver 36 = .ok (.bastore, 1) := by decide +kernel
theorem dX5_takeOver_37 : decode cX5_takeOver 37 = .ok (.return_, 1) := by decide +kernel
theorem dX5_list_0 : decode cX5_list 0 = .ok (.aload_n 0, 1) := by decide +kernel
theorem dX5_list_1 : decode cX5_list 1 = .ok (.getfield 11, 3) := by decide +kernel
theorem dX5_list_4 : decode cX5_list 4 = .ok (.iconst 0, 1) := by decide +kernel
theorem dX5_list_5 : decode cX5_list 5 = .ok (.iconst 0, 1) := by decide +kernel
theorem dX5_list_6 : decode cX5_list 6 = .ok (.iastore, 1) := by decide +kernel
theorem dX5_list_7 : decode cX5_list 7 = .ok (.aload_n 0, 1) := by decide +kernel
theorem dX5_list_8 : decode cX5_list 8 = .ok (.iconst 1, 1) := by decide +kernel
theorem dX5_list_9 : decode cX5_list 9 = .ok (.putfield 128, 3) := by decide +kernel
theorem dX5_list_12 : decode cX5_list 12 = .ok (.aload_n 0, 1) := by decide +kernel
theorem dX5_list_13 : decode cX5_list 13 = .ok (.iconst 0, 1) := by decide +kernel
theorem dX5_list_14 : decode cX5_list 14 = .ok (.putfield 149, 3) := by decide +kernel
theorem dX5_list_17 : decode cX5_list 17 = .ok (.iconst 0, 1) := by decide +kernel
theorem dX5_list_18 : decode cX5_list 18 = .ok (.istore_n 2, 1) := by decide +kernel
theorem dX5_list_19 : decode cX5_list 19 = .ok (.iload_n 2, 1) := by decide +kernel
theorem dX5_list_20 : decode cX5_list 20 = .ok (.iload_n 1, 1) := by decide +kernel
theorem dX5_list_21 : decode cX5_list 21 = .ok (.if_icmp .ge 63, 3) := by decide +kernel
theorem dX5_list_24 : decode cX5_list 24 = .ok (.iload_n 2, 1) := by decide +kernel
theorem dX5_list_25 : decode cX5_list 25 = .ok (.bipush 6, 2) := by decide +kernel
theorem dX5_list_27 : decode cX5_list 27 = .ok (.if_icmp .ge 57, 3) := by decide +kernel
theorem dX5_list_30 : decode cX5_list 30 = .ok (.aload_n 0, 1) := by decide +kernel
theorem dX5_list_31 : decode cX5_list 31 = .ok (.getfield 128, 3) := by decide +kernel
theorem dX5_list_34 : decode cX5_list 34 = .ok (.istore_n 3, 1) := by decide +kernel
theorem dX5_list_35 : decode cX5_list 35 = .ok (.aload_n 0, 1) := by decide +kernel
theorem dX5_list_36 : decode cX5_list 36 = .ok (.getfield 149, 3) := by decide +kernel
theorem dX5_list_39 : decode cX5_list 39 = .ok (.istore 4, 2) := by decide +kernel
theorem dX5_list_41 : decode cX5_list 41 = .ok (.iload 4, 2) := by decide +kernel
theorem dX5_list_43 : decode cX5_list 43 = .ok (.iload_n 3, 1) := by decide +kernel
theorem dX5_list_44 : decode cX5_list 44 = .ok (.if_icmp .ge 29, 3) := by decide +kernel
theorem dX5_list_47 : decode cX5_list 47 = .ok (.iload 4, 2) := by decide +kernel
theorem dX5_list_49 : decode cX5_list 49 = .ok (.sipush 1957, 3) := by decide +kernel
theorem dX5_list_52 : decode cX5_list 52 = .ok (.if_icmp .ge 21, 3) := by decide +kernel
theorem dX5_list_55 : decode cX5_list 55 = .ok (.aload_n 0, 1) := by decide +kernel
theorem dX5_list_56 : decode cX5_list 56 = .ok (.aload_n 0, 1) := by decide +kernel
theorem dX5_list_57 : decode cX5_list 57 = .ok (.getfield 11, 3) := by decide +kernel
theorem dX5_list_60 : decode cX5_list 60 = .ok (.iload 4, 2) := by decide +kernel
theorem dX5_list_62 : decode cX5_list 62 = .ok (.iaload, 1) := by decide +kernel
theorem dX5_list_63 : decode cX5_list 63 = .ok (.iload_n 1, 1) := by decide +kernel
theorem dX5_list_64 : decode cX5_list 64 = .ok (.invokevirtual 152, 3) := by decide +kernel
theorem dX5_list_67 : decode cX5_list 67 = .ok (.iinc 4 1, 3) := by decide +kernel
theorem dX5_list_70 : decode cX5_list 70 = .ok (.goto (-29), 3) := by decide +kernel
theorem dX5_list_73 : decode cX5_list 73 = .ok (.aload_n 0, 1) := by decide +kernel
theorem dX5_list_74 : decode cX5_list 74 = .ok (.iload_n 3, 1) := by decide +kernel
theorem dX5_list_75 : decode cX5_list 75 = .ok (.putfield 149, 3) := by decide +kernel
theorem dX5_list_78 : decode cX5_list 78 = .ok (.iinc 2 1, 3) := by decide +kernel
theorem dX5_list_81 : decode cX5_list 81 = .ok (.goto (-62), 3) := by decide +kernel
theorem dX5_list_84 : decode cX5_list 84 = .ok (.return_, 1) := by decide +kernel
theorem dX5_listLonger_0 : decode cX5_listLonger 0 = .ok (.iload_n 1, 1) := by decide +kernel
theorem dX5_listLonger_1 : decode cX5_listLonger 1 = .ok (.invokestatic 155, 3) := by decide +kernel
theorem dX5_listLonger_4 : decode cX5_listLonger 4 = .ok (.istore_n 3, 1) := by decide +kernel
theorem dX5_listLonger_5 : decode cX5_listLonger 5 = .ok (.iconst 0, 1) := by decide +kernel
theorem dX5_listLonger_6 : decode cX5_listLonger 6 = .ok (.istore 4, 2) := by decide +kernel
theorem dX5_listLonger_8 : decode cX5_listLonger 8 = .ok (.iload 4, 2) := by decide +kernel
theorem dX5_listLonger_10 : decode cX5_listLonger 10 = .ok (.iload_n 2, 1) := by decide +kernel
theorem dX5_listLonger_11 : decode cX5_listLonger 11 = .ok (.if_icmp .ge 70, 3) := by decide +kernel
theorem dX5_listLonger_14 : decode cX5_listLonger 14 = .ok (.iload 4, 2) := by decide +kernel
theorem dX5_listLonger_16 : decode cX5_listLonger 16 = .ok (.bipush 6, 2) := by decide +kernel
theorem dX5_listLonger_18 : decode cX5_listLonger 18 = .ok (.if_icmp .ge 63, 3) := by decide +kernel
theorem dX5_listLonger_21 : decode cX5_listLonger 21 = .ok (.iload_n 3, 1) := by decide +kernel
theorem dX5_listLonger_22 : decode cX5_listLonger 22 = .ok (.iload 4, 2) := by decide +kernel
theorem dX5_listLonger_24 : decode cX5_listLonger 24 = .ok (.ishr, 1) := by decide +kernel
theorem dX5_listLonger_25 : decode cX5_listLonger 25 = .ok (.iconst 1, 1) := by decide +kernel
theorem dX5_listLonger_26 : decode cX5_listLonger 26 = .ok (.iand, 1) := by decide +kernel
theorem dX5_listLonger_27 : decode cX5_listLonger 27 = .ok (.ifCond .ne 48, 3) := by decide +kernel
theorem dX5_listLonger_30 : decode cX5_listLonger 30 = .ok (.aload_n 0, 1) := by decide +kernel
theorem dX5_listLonger_31 : decode cX5_listLonger 31 = .ok (.getfield 128, 3) := by decide +kernel
theorem dX5_listLonger_34 : decode cX5_listLonger 34 = .ok (.ifCond .lt 41, 3) := by decide +kernel
theorem dX5_listLonger_37 : decode cX5_listLonger 37 = .ok (.aload_n 0, 1) := by decide +kernel
theorem dX5_listLonger_38 : decode cX5_listLonger 38 = .ok (.getfield 128, 3) := by decide +kernel
theorem dX5_listLonger_41 : decode cX5_listLonger 41 = .ok (.sipush 1957, 3) := by decide +kernel
theorem dX5_listLonger_44 : decode cX5_listLonger 44 = .ok (.if_icmp .ge 31, 3) := by decide +kernel
theorem dX5_listLonger_47 : decode cX5_listLonger 47 = .ok (.aload_n 0, 1) := by decide +kernel
theorem dX5_listLonger_48 : decode cX5_listLonger 48 = .ok (.getfield 11, 3) := by decide +kernel
theorem dX5_listLonger_51 : decode cX5_listLonger 51 = .ok (.aload_n 0, 1) := by decide +kernel
theorem dX5_listLonger_52 : decode cX5_listLonger 52 = .ok (.getfield 128, 3) := by decide +kernel
theorem dX5_listLonger_55 : decode cX5_listLonger 55 = .ok (.iload_n 1, 1) := by decide +kernel
theorem dX5_listLonger_56 : decode cX5_listLonger 56 = .ok (.bipush 10, 2) := by decide +kernel
theorem dX5_listLonger_58 : decode cX5_listLonger 58 = .ok (.imul, 1) := by decide +kernel
theorem dX5_listLonger_59 : decode cX5_listLonger 59 = .ok (.iload 4, 2) := by decide +kernel
theorem dX5_listLonger_61 : decode cX5_listLonger 61 = .ok (.iadd, 1) := by decide +kernel
theorem dX5_listLonger_62 : decode cX5_listLonger 62 = .ok (.iconst 1, 1) := by decide +kernel
theorem dX5_listLonger_63 : decode cX5_listLonger 63 = .ok (.iadd, 1) := by decide +kernel
theorem dX5_listLonger_64 : decode cX5_listLonger 64 = .ok (.iastore, 1) := by decide +kernel
theorem dX5_listLonger_65 : decode cX5_listLonger 65 = .ok (.aload_n 0, 1) := by decide +kernel
theorem dX5_listLonger_66 : decode cX5_listLonger 66 = .ok (.dup, 1) := by decide +kernel
theorem dX5_listLonger_67 : decode cX5_listLonger 67 = .ok (.getfield 128, 3) := by decide +kernel
theorem dX5_listLonger_70 : decode cX5_listLonger 70 = .ok (.iconst 1, 1) := by decide +kernel
theorem dX5_listLonger_71 : decode cX5_listLonger 71 = .ok (.iadd, 1) := by decide +kernel
theorem dX5_listLonger_72 : decode cX5_listLonger 72 = .ok (.putfield 128, 3) := by decide +kernel
theorem dX5_listLonger_75 : decode cX5_listLonger 75 = .ok (.iinc 4 1, 3) := by decide +kernel
theorem dX5_listLonger_78 : decode cX5_listLonger 78 = .ok (.goto (-70), 3) := by decide +kernel
theorem dX5_listLonger_81 : decode cX5_listLonger 81 = .ok (.return_, 1) := by decide +kernel
theorem dX5_bestIfLonger_0 : decode cX5_bestIfLonger 0 = .ok (.aload_n 0, 1) := by decide +kernel
theorem dX5_bestIfLonger_1 : decode cX5_bestIfLonger 1 = .ok (.getfield 116, 3) := by decide +kernel
theorem dX5_bestIfLonger_4 : decode cX5_bestIfLonger 4 = .ok (.bipush (-9), 2) := by decide +kernel
theorem dX5_bestIfLonger_6 : decode cX5_bestIfLonger 6 = .ok (.if_icmp .ne 43, 3) := by decide +kernel
theorem dX5_bestIfLonger_9 : decode cX5_bestIfLonger 9 = .ok (.aload_n 0, 1) := by decide +kernel
theorem dX5_bestIfLonger_10 : decode cX5_bestIfLonger 10 = .ok (.getfield 43, 3) := by decide +kernel
theorem dX5_bestIfLonger_13 : decode cX5_bestIfLonger 13 = .ok (.aload_n 1, 1) := by decide +kernel
theorem dX5_bestIfLonger_14 : decode cX5_bestIfLonger 14 = .ok (.invokevirtual 158, 3) := by decide +kernel
theorem dX5_bestIfLonger_17 : decode cX5_bestIfLonger 17 = .ok (.aload_n 0, 1) := by decide +kernel
theorem dX5_bestIfLonger_18 : decode cX5_bestIfLonger 18 = .ok (.getfield 43, 3) := by decide +kernel
theorem dX5_bestIfLonger_21 : decode cX5_bestIfLonger 21 = .ok (.invokevirtual 160, 3) := by decide +kernel
theorem dX5_bestIfLonger_24 : decode cX5_bestIfLonger 24 = .ok (.aload_n 0, 1) := by decide +kernel
theorem dX5_bestIfLonger_25 : decode cX5_bestIfLonger 25 = .ok (.aload_n 0, 1) := by decide +kernel
theorem dX5_bestIfLonger_26 : decode cX5_bestIfLonger 26 = .ok (.getfield 43, 3) := by decide +kernel
theorem dX5_bestIfLonger_29 : decode cX5_bestIfLonger 29 = .ok (.invokevirtual 119, 3) := by decide +kernel
theorem dX5_bestIfLonger_32 : decode cX5_bestIfLonger 32 = .ok (.aload_n 0, 1) := by decide +kernel
theorem dX5_bestIfLonger_33 : decode cX5_bestIfLonger 33 = .ok (.aload_n 0, 1) := by decide +kernel
theorem dX5_bestIfLonger_34 : decode cX5_bestIfLonger 34 = .ok (.aload_n 0, 1) := by decide +kernel
theorem dX5_bestIfLonger_35 : decode cX5_bestIfLonger 35 = .ok (.invokevirtual 163, 3) := by decide +kernel
theorem dX5_bestIfLonger_38 : decode cX5_bestIfLonger 38 = .ok (.invokevirtual 167, 3) := by decide +kernel
theorem dX5_bestIfLonger_41 : decode cX5_bestIfLonger 41 = .ok (.putfield 116, 3) := by decide +kernel
theorem dX5_bestIfLonger_44 : decode cX5_bestIfLonger 44 = .ok (.aload_n 0, 1) := by decide +kernel
theorem dX5_bestIfLonger_45 : decode cX5_bestIfLonger 45 = .ok (.iconst 0, 1) := by decide +kernel
theorem dX5_bestIfLonger_46 : decode cX5_bestIfLonger 46 = .ok (.putfield 112, 3) := by decide +kernel
theorem dX5_bestIfLonger_49 : decode cX5_bestIfLonger 49 = .ok (.aload_n 0, 1) := by decide +kernel
theorem dX5_bestIfLonger_50 : decode cX5_bestIfLonger 50 = .ok (.getfield 116, 3) := by decide +kernel
theorem dX5_bestIfLonger_53 : decode cX5_bestIfLonger 53 = .ok (.ireturn, 1) := by decide +kernel
theorem dX5_bestPlace_0 : decode cX5_bestPlace 0 = .ok (.iconst 0, 1) := by decide +kernel
theorem dX5_bestPlace_1 : decode cX5_bestPlace 1 = .ok (.istore_n 1, 1) := by decide +kernel
theorem dX5_bestPlace_2 : decode cX5_bestPlace 2 = .ok (.iconst 1, 1) := by decide +kernel
theorem dX5_bestPlace_3 : decode cX5_bestPlace 3 = .ok (.istore_n 2, 1) := by decide +kernel
theorem dX5_bestPlace_4 : decode cX5_bestPlace 4 = .ok (.iload_n 2, 1) := by decide +kernel
theorem dX5_bestPlace_5 : decode cX5_bestPlace 5 = .ok (.aload_n 0, 1) := by decide +kernel
theorem dX5_bestPlace_6 : decode cX5_bestPlace 6 = .ok (.getfield 128, 3) := by decide +kernel
theorem dX5_bestPlace_9 : decode cX5_bestPlace 9 = .ok (.if_icmp .ge 24, 3) := by decide +kernel
theorem dX5_bestPlace_12 : decode cX5_bestPlace 12 = .ok (.aload_n 0, 1) := by decide +kernel
theorem dX5_bestPlace_13 : decode cX5_bestPlace 13 = .ok (.iload_n 2, 1) := by decide +kernel
theorem dX5_bestPlace_14 : decode cX5_bestPlace 14 = .ok (.invokevirtual 167, 3) := by decide +kernel
theorem dX5_bestPlace_17 : decode cX5_bestPlace 17 = .ok (.aload_n 0, 1) := by decide +kernel
theorem dX5_bestPlace_18 : decode cX5_bestPlace 18 = .ok (.iload_n 1, 1) := by decide +kernel
theorem dX5_bestPlace_19 : decode cX5_bestPlace 19 = .ok (.invokevirtual 167, 3) := by decide +kernel
theorem dX5_bestPlace_22 : decode cX5_bestPlace 22 = .ok (.if_icmp .le 5, 3) := by decide +kernel
theorem dX5_bestPlace_25 : decode cX5_bestPlace 25 = .ok (.iload_n 2, 1) := by decide +kernel
theorem dX5_bestPlace_26 : decode cX5_bestPlace 26 = .ok (.istore_n 1, 1) := by decide +kernel
theorem dX5_bestPlace_27 : decode cX5_bestPlace 27 = .ok (.iinc 2 1, 3) := by decide +kernel
theorem dX5_bestPlace_30 : decode cX5_bestPlace 30 = .ok (.goto (-26), 3) := by decide +kernel
theorem dX5_bestPlace_33 : decode cX5_bestPlace 33 = .ok (.iload_n 1, 1) := by decide +kernel
theorem dX5_bestPlace_34 : decode cX5_bestPlace 34 = .ok (.ireturn, 1) := by decide +kernel
theorem dX5_fewestPlace_0 : decode cX5_fewestPlace 0 = .ok (.iconst 0, 1) := by decide +kernel
theorem dX5_fewestPlace_1 : decode cX5_fewestPlace 1 = .ok (.istore_n 2, 1) := by decide +kernel
theorem dX5_fewestPlace_2 : decode cX5_fewestPlace 2 = .ok (.iload_n 2, 1) := by decide +kernel
theorem dX5_fewestPlace_3 : decode cX5_fewestPlace 3 = .ok (.aload_n 0, 1) := by decide +kernel
theorem dX5_fewestPlace_4 : decode cX5_fewestPlace 4 = .ok (.getfield 128, 3) := by decide +kernel
theorem dX5_fewestPlace_7 : decode cX5_fewestPlace 7 = .ok (.if_icmp .ge 20, 3) := by decide +kernel
theorem dX5_fewestPlace_10 : decode cX5_fewestPlace 10 = .ok (.aload_n 0, 1) := by decide +kernel
theorem dX5_fewestPlace_11 : decode cX5_fewestPlace 11 = .ok (.iload_n 2, 1) := by decide +kernel
theorem dX5_fewestPlace_12 : decode cX5_fewestPlace 12 = .ok (.invokevirtual 167, 3) := by decide +kernel
theorem dX5_fewestPlace_15 : decode cX5_fewestPlace 15 = .ok (.iload_n 1, 1) := by decide +kernel
theorem dX5_fewestPlace_16 : decode cX5_fewestPlace 16 = .ok (.if_icmp .lt 5, 3) := by decide +kernel
theorem dX5_fewestPlace_19 : decode cX5_fewestPlace 19 = .ok (.iload_n 2, 1) := by decide +kernel
theorem dX5_fewestPlace_20 : decode cX5_fewestPlace 20 = .ok (.ireturn, 1) := by decide +kernel
theorem dX5_fewestPlace_21 : decode cX5_fewestPlace 21 = .ok (.iinc 2 1, 3) := by decide +kernel
theorem dX5_fewestPlace_24 : decode cX5_fewestPlace 24 = .ok (.goto (-22), 3) := by decide +kernel
theorem dX5_fewestPlace_27 : decode cX5_fewestPlace 27 = .ok (.bipush (-9), 2) := by decide +kernel
theorem dX5_fewestPlace_29 : decode cX5_fewestPlace 29 = .ok (.ireturn, 1) := by decide +kernel
theorem dX5_mindPlace_0 : decode cX5_mindPlace 0 = .ok (.bipush (-9), 2) := by decide +kernel
theorem dX5_mindPlace_2 : decode cX5_mindPlace 2 = .ok (.istore_n 2, 1) := by decide +kernel
theorem dX5_mindPlace_3 : decode cX5_mindPlace 3 = .ok (.bipush 7, 2) := by decide +kernel
theorem dX5_mindPlace_5 : decode cX5_mindPlace 5 = .ok (.istore_n 3, 1) := by decide +kernel
theorem dX5_mindPlace_6 : decode cX5_mindPlace 6 = .ok (.iconst 0, 1) := by decide +kernel
theorem dX5_mindPlace_7 : decode cX5_mindPlace 7 = .ok (.istore 4, 2) := by decide +kernel
theorem dX5_mindPlace_9 : decode cX5_mindPlace 9 = .ok (.iload 4, 2) := by decide +kernel
theorem dX5_mindPlace_11 : decode cX5_mindPlace 11 = .ok (.aload_n 0, 1) := by decide +kernel
theorem dX5_mindPlace_12 : decode cX5_mindPlace 12 = .ok (.getfield 128, 3) := by decide +kernel
theorem dX5_mindPlace_15 : decode cX5_mindPlace 15 = .ok (.if_icmp .ge 41, 3) := by decide +kernel
theorem dX5_mindPlace_18 : decode cX5_mindPlace 18 = .ok (.aload_n 0, 1) := by decide +kernel
theorem dX5_mindPlace_19 : decode cX5_mindPlace 19 = .ok (.iload 4, 2) := by decide +kernel
theorem dX5_mindPlace_21 : decode cX5_mindPlace 21 = .ok (.invokevirtual 167, 3) := by decide +kernel
theorem dX5_mindPlace_24 : decode cX5_mindPlace 24 = .ok (.iload_n 1, 1) := by decide +kernel
theorem dX5_mindPlace_25 : decode cX5_mindPlace 25 = .ok (.if_icmp .lt 25, 3) := by decide +kernel
theorem dX5_mindPlace_28 : decode cX5_mindPlace 28 = .ok (.aload_n 0, 1) := by decide +kernel
theorem dX5_mindPlace_29 : decode cX5_mindPlace 29 = .ok (.iload 4, 2) := by decide +kernel
theorem dX5_mindPlace_31 : decode cX5_mindPlace 31 = .ok (.iload_n 1, 1) := by decide +kernel
theorem dX5_mindPlace_32 : decode cX5_mindPlace 32 = .ok (.invokevirtual 170, 3) := by decide +kernel
theorem dX5_mindPlace_35 : decode cX5_mindPlace 35 = .ok (.iload_n 3, 1) := by decide +kernel
theorem dX5_mindPlace_36 : decode cX5_mindPlace 36 = .ok (.if_icmp .ge 14, 3) := by decide +kernel
theorem dX5_mindPlace_39 : decode cX5_mindPlace 39 = .ok (.iload 4, 2) := by decide +kernel
theorem dX5_mindPlace_41 : decode cX5_mindPlace 41 = .ok (.istore_n 2, 1) := by decide +kernel
theorem dX5_mindPlace_42 : decode cX5_mindPlace 42 = .ok (.aload_n 0, 1) := by decide +kernel
theorem dX5_mindPlace_43 : decode cX5_mindPlace 43 = .ok (.iload 4, 2) := by decide +kernel
theorem dX5_mindPlace_45 : decode cX5_mindPlace 45 = .ok (.iload_n 1, 1) := by decide +kernel
theorem dX5_mindPlace_46 : decode cX5_mindPlace 46 = .ok (.invokevirtual 170, 3) := by decide +kernel
theorem dX5_mindPlace_49 : decode cX5_mindPlace 49 = .ok (.istore_n 3, 1) := by decide +kernel
theorem dX5_mindPlace_50 : decode cX5_mindPlace 50 = .ok (.iinc 4 1, 3) := by decide +kernel
theorem dX5_mindPlace_53 : decode cX5_mindPlace 53 = .ok (.goto (-44), 3) := by decide +kernel
theorem dX5_mindPlace_56 : decode cX5_mindPlace 56 = .ok (.iload_n 2, 1) := by decide +kernel
theorem dX5_mindPlace_57 : decode cX5_mindPlace 57 = .ok (.ireturn, 1) := by decide +kernel
theorem dX5_inAllThatReach_0 : decode cX5_inAllThatReach 0 = .ok (.iconst 0, 1) := by decide +kernel
theorem dX5_inAllThatReach_1 : decode cX5_inAllThatReach 1 = .ok (.istore_n 2, 1) := by decide +kernel
theorem dX5_inAllThatReach_2 : decode cX5_inAllThatReach 2 = .ok (.bipush 63, 2) := by decide +kernel
theorem dX5_inAllThatReach_4 : decode cX5_inAllThatReach 4 = .ok (.istore_n 3, 1) := by decide +kernel
theorem dX5_inAllThatReach_5 : decode cX5_inAllThatReach 5 = .ok (.iconst 0, 1) := by decide +kernel
theorem dX5_inAllThatReach_6 : decode cX5_inAllThatReach 6 = .ok (.istore 4, 2) := by decide +kernel
theorem dX5_inAllThatReach_8 : decode cX5_inAllThatReach 8 = .ok (.iload 4, 2) := by decide +kernel
theorem dX5_inAllThatReach_10 : decode cX5_inAllThatReach 10 = .ok (.aload_n 0, 1) := by decide +kernel
theorem dX5_inAllThatReach_11 : decode cX5_inAllThatReach 11 = .ok (.getfield 128, 3) := by decide +kernel
theorem dX5_inAllThatReach_14 : decode cX5_inAllThatReach 14 = .ok (.if_icmp .ge 33, 3) := by decide +kernel
theorem dX5_inAllThatReach_17 : decode cX5_inAllThatReach 17 = .ok (.aload_n 0, 1) := by decide +kernel
theorem dX5_inAllThatReach_18 : decode cX5_inAllThatReach 18 = .ok (.iload 4, 2) := by decide +kernel
theorem dX5_inAllThatReach_20 : decode cX5_inAllThatReach 20 = .ok (.invokevirtual 167, 3) := by decide +kernel
theorem dX5_inAllThatReach_23 : decode cX5_inAllThatReach 23 = .ok (.iload_n 1, 1) := by decide +kernel
theorem dX5_inAllThatReach_24 : decode cX5_inAllThatReach 24 = .ok (.if_icmp .lt 17, 3) := by decide +kernel
theorem dX5_inAllThatReach_27 : decode cX5_inAllThatReach 27 = .ok (.iconst 1, 1) := by decide +kernel
theorem dX5_inAllThatReach_28 : decode cX5_inAllThatReach 28 = .ok (.istore_n 2, 1) := by decide +kernel
theorem dX5_inAllThatReach_29 : decode cX5_inAllThatReach 29 = .ok (.iload_n 3, 1) := by decide +kernel
theorem dX5_inAllThatReach_30 : decode cX5_inAllThatReach 30 = .ok (.aload_n 0, 1) := by decide +kernel
theorem dX5_inAllThatReach_31 : decode cX5_inAllThatReach 31 = .ok (.iload 4, 2) := by decide +kernel
theorem dX5_inAllThatReach_33 : decode cX5_inAllThatReach 33 = .ok (.invokevirtual 173, 3) := by decide +kernel
theorem dX5_inAllThatReach_36 : decode cX5_inAllThatReach 36 = .ok (.invokestatic 155, 3) := by decide +kernel
theorem dX5_inAllThatReach_39 : decode cX5_inAllThatReach 39 = .ok (.iand, 1) := by decide +kernel
theorem dX5_inAllThatReach_40 : decode cX5_inAllThatReach 40 = .ok (.istore_n 3, 1) := by decide +kernel
theorem dX5_inAllThatReach_41 : decode cX5_inAllThatReach 41 = .ok (.iinc 4 1, 3) := by decide +kernel
theorem dX5_inAllThatReach_44 : decode cX5_inAllThatReach 44 = .ok (.goto (-36), 3) := by decide +kernel
theorem dX5_inAllThatReach_47 : decode cX5_inAllThatReach 47 = .ok (.iload_n 2, 1) := by decide +kernel
theorem dX5_inAllThatReach_48 : decode cX5_inAllThatReach 48 = .ok (.ifCond .eq 7, 3) := by decide +kernel
theorem dX5_inAllThatReach_51 : decode cX5_inAllThatReach 51 = .ok (.iload_n 3, 1) := by decide +kernel
theorem dX5_inAllThatReach_52 : decode cX5_inAllThatReach 52 = .ok (.goto 4, 3) := by decide +kernel
theorem dX5_inAllThatReach_55 : decode cX5_inAllThatReach 55 = .ok (.iconst 0, 1) := by decide +kernel
theorem dX5_inAllThatReach_56 : decode cX5_inAllThatReach 56 = .ok (.ireturn, 1) := by decide +kernel
theorem dX5_mostOpen_0 : decode cX5_mostOpen 0 = .ok (.iconst 0, 1) := by decide +kernel
theorem dX5_mostOpen_1 : decode cX5_mostOpen 1 = .ok (.istore_n 3, 1) := by decide +kernel
theorem dX5_mostOpen_2 : decode cX5_mostOpen 2 = .ok (.iconst 1, 1) := by decide +kernel
theorem dX5_mostOpen_3 : decode cX5_mostOpen 3 = .ok (.istore 4, 2) := by decide +kernel
theorem dX5_mostOpen_5 : decode cX5_mostOpen 5 = .ok (.iload 4, 2) := by decide +kernel
theorem dX5_mostOpen_7 : decode cX5_mostOpen 7 = .ok (.iload_n 2, 1) := by decide +kernel
theorem dX5_mostOpen_8 : decode cX5_mostOpen 8 = .ok (.if_icmp .gt 31, 3) := by decide +kernel
theorem dX5_mostOpen_11 : decode cX5_mostOpen 11 = .ok (.iload 4, 2) := by decide +kernel
theorem dX5_mostOpen_13 : decode cX5_mostOpen 13 = .ok (.bipush 30, 2) := by decide +kernel
theorem dX5_mostOpen_15 : decode cX5_mostOpen 15 = .ok (.if_icmp .gt 24, 3) := by decide +kernel
theorem dX5_mostOpen_18 : decode cX5_mostOpen 18 = .ok (.iload_n 3, 1) := by decide +kernel
theorem dX5_mostOpen_19 : decode cX5_mostOpen 19 = .ok (.aload_n 0, 1) := by decide +kernel
theorem dX5_mostOpen_20 : decode cX5_mostOpen 20 = .ok (.iload_n 1, 1) := by decide +kernel
theorem dX5_mostOpen_21 : decode cX5_mostOpen 21 = .ok (.iload 4, 2) := by decide +kernel
theorem dX5_mostOpen_23 : decode cX5_mostOpen 23 = .ok (.invokevirtual 176, 3) := by decide +kernel
theorem dX5_mostOpen_26 : decode cX5_mostOpen 26 = .ok (.invokestatic 179, 3) := by decide +kernel
theorem dX5_mostOpen_29 : decode cX5_mostOpen 29 = .ok (.invokestatic 184, 3) := by decide +kernel
theorem dX5_mostOpen_32 : decode cX5_mostOpen 32 = .ok (.istore_n 3, 1) := by decide +kernel
theorem dX5_mostOpen_33 : decode cX5_mostOpen 33 = .ok (.iinc 4 1, 3) := by decide +kernel
theorem dX5_mostOpen_36 : decode cX5_mostOpen 36 = .ok (.goto (-31), 3) := by decide +kernel
theorem dX5_mostOpen_39 : decode cX5_mostOpen 39 = .ok (.iload_n 3, 1) := by decide +kernel
theorem dX5_mostOpen_40 : decode cX5_mostOpen 40 = .ok (.ireturn, 1) := by decide +kernel
theorem dX5_rowAt_0 : decode cX5_rowAt 0 = .ok (.iload_n 1, 1) := by decide +kernel
theorem dX5_rowAt_1 : decode cX5_rowAt 1 = .ok (.ifCond .lt 19, 3) := by decide +kernel
theorem dX5_rowAt_4 : decode cX5_rowAt 4 = .ok (.iload_n 1, 1) := by decide +kernel
theorem dX5_rowAt_5 : decode cX5_rowAt 5 = .ok (.sipush 1957, 3) := by decide +kernel
theorem dX5_rowAt_8 : decode cX5_rowAt 8 = .ok (.if_icmp .ge 12, 3) := by decide +kernel
theorem dX5_rowAt_11 : decode cX5_rowAt 11 = .ok (.aload_n 0, 1) := by decide +kernel
theorem dX5_rowAt_12 : decode cX5_rowAt 12 = .ok (.getfield 11, 3) := by decide +kernel
theorem dX5_rowAt_15 : decode cX5_rowAt 15 = .ok (.iload_n 1, 1) := by decide +kernel
theorem dX5_rowAt_16 : decode cX5_rowAt 16 = .ok (.iaload, 1) := by decide +kernel
theorem dX5_rowAt_17 : decode cX5_rowAt 17 = .ok (.goto 4, 3) := by decide +kernel
theorem dX5_rowAt_20 : decode cX5_rowAt 20 = .ok (.iconst 0, 1) := by decide +kernel
theorem dX5_rowAt_21 : decode cX5_rowAt 21 = .ok (.ireturn, 1) := by decide +kernel
theorem dX5_savedBy_0 : decode cX5_savedBy 0 = .ok (.iload_n 1, 1) := by decide +kernel
theorem dX5_savedBy_1 : decode cX5_savedBy 1 = .ok (.ifCond .lt 19, 3) := by decide +kernel
theorem dX5_savedBy_4 : decode cX5_savedBy 4 = .ok (.iload_n 1, 1) := by decide +kernel
theorem dX5_savedBy_5 : decode cX5_savedBy 5 = .ok (.sipush 1957, 3) := by decide +kernel
theorem dX5_savedBy_8 : decode cX5_savedBy 8 = .ok (.if_icmp .ge 12, 3) := by decide +kernel
theorem dX5_savedBy_11 : decode cX5_savedBy 11 = .ok (.aload_n 0, 1) := by decide +kernel
theorem dX5_savedBy_12 : decode cX5_savedBy 12 = .ok (.getfield 15, 3) := by decide +kernel
theorem dX5_savedBy_15 : decode cX5_savedBy 15 = .ok (.iload_n 1, 1) := by decide +kernel
theorem dX5_savedBy_16 : decode cX5_savedBy 16 = .ok (.baload, 1) := by decide +kernel
theorem dX5_savedBy_17 : decode cX5_savedBy 17 = .ok (.goto 4, 3) := by decide +kernel
theorem dX5_savedBy_20 : decode cX5_savedBy 20 = .ok (.iconst 0, 1) := by decide +kernel
theorem dX5_savedBy_21 : decode cX5_savedBy 21 = .ok (.ireturn, 1) := by decide +kernel
theorem dX5_sizeAt_0 : decode cX5_sizeAt 0 = .ok (.aload_n 0, 1) := by decide +kernel
theorem dX5_sizeAt_1 : decode cX5_sizeAt 1 = .ok (.iload_n 1, 1) := by decide +kernel
theorem dX5_sizeAt_2 : decode cX5_sizeAt 2 = .ok (.invokevirtual 173, 3) := by decide +kernel
theorem dX5_sizeAt_5 : decode cX5_sizeAt 5 = .ok (.invokestatic 155, 3) := by decide +kernel
theorem dX5_sizeAt_8 : decode cX5_sizeAt 8 = .ok (.invokestatic 179, 3) := by decide +kernel
theorem dX5_sizeAt_11 : decode cX5_sizeAt 11 = .ok (.ireturn, 1) := by decide +kernel
theorem dX5_openAt_0 : decode cX5_openAt 0 = .ok (.iload_n 1, 1) := by decide +kernel
theorem dX5_openAt_1 : decode cX5_openAt 1 = .ok (.iconst 3, 1) := by decide +kernel
theorem dX5_openAt_2 : decode cX5_openAt 2 = .ok (.imul, 1) := by decide +kernel
theorem dX5_openAt_3 : decode cX5_openAt 3 = .ok (.iload_n 2, 1) := by decide +kernel
theorem dX5_openAt_4 : decode cX5_openAt 4 = .ok (.iconst 1, 1) := by decide +kernel
theorem dX5_openAt_5 : decode cX5_openAt 5 = .ok (.isub, 1) := by decide +kernel
theorem dX5_openAt_6 : decode cX5_openAt 6 = .ok (.bipush 10, 2) := by decide +kernel
theorem dX5_openAt_8 : decode cX5_openAt 8 = .ok (.idiv, 1) := by decide +kernel
theorem dX5_openAt_9 : decode cX5_openAt 9 = .ok (.iadd, 1) := by decide +kernel
theorem dX5_openAt_10 : decode cX5_openAt 10 = .ok (.istore_n 3, 1) := by decide +kernel
theorem dX5_openAt_11 : decode cX5_openAt 11 = .ok (.iload_n 1, 1) := by decide +kernel
theorem dX5_openAt_12 : decode cX5_openAt 12 = .ok (.ifCond .lt 30, 3) := by decide +kernel
theorem dX5_openAt_15 : decode cX5_openAt 15 = .ok (.iload_n 1, 1) := by decide +kernel
theorem dX5_openAt_16 : decode cX5_openAt 16 = .ok (.sipush 1957, 3) := by decide +kernel
theorem dX5_openAt_19 : decode cX5_openAt 19 = .ok (.if_icmp .ge 23, 3) := by decide +kernel
theorem dX5_openAt_22 : decode cX5_openAt 22 = .ok (.iload_n 2, 1) := by decide +kernel
theorem dX5_openAt_23 : decode cX5_openAt 23 = .ok (.iconst 1, 1) := by decide +kernel
theorem dX5_openAt_24 : decode cX5_openAt 24 = .ok (.if_icmp .lt 18, 3) := by decide +kernel
theorem dX5_openAt_27 : decode cX5_openAt 27 = .ok (.iload_n 2, 1) := by decide +kernel
theorem dX5_openAt_28 : decode cX5_openAt 28 = .ok (.bipush 30, 2) := by decide +kernel
theorem dX5_openAt_30 : decode cX5_openAt 30 = .ok (.if_icmp .gt 12, 3) := by decide +kernel
theorem dX5_openAt_33 : decode cX5_openAt 33 = .ok (.iload_n 3, 1) := by decide +kernel
theorem dX5_openAt_34 : decode cX5_openAt 34 = .ok (.aload_n 0, 1) := by decide +kernel
theorem dX5_openAt_35 : decode cX5_openAt 35 = .ok (.getfield 19, 3) := by decide +kernel
theorem dX5_openAt_38 : decode cX5_openAt 38 = .ok (.arraylength, 1) := by decide +kernel
theorem dX5_openAt_39 : decode cX5_openAt 39 = .ok (.if_icmp .lt 5, 3) := by decide +kernel
theorem dX5_openAt_42 : decode cX5_openAt 42 = .ok (.iconst 0, 1) := by decide +kernel
theorem dX5_openAt_43 : decode cX5_openAt 43 = .ok (.ireturn, 1) := by decide +kernel
theorem dX5_openAt_44 : decode cX5_openAt 44 = .ok (.aload_n 0, 1) := by decide +kernel
theorem dX5_openAt_45 : decode cX5_openAt 45 = .ok (.getfield 19, 3) := by decide +kernel
theorem dX5_openAt_48 : decode cX5_openAt 48 = .ok (.iload_n 3, 1) := by decide +kernel
theorem dX5_openAt_49 : decode cX5_openAt 49 = .ok (.laload, 1) := by decide +kernel
theorem dX5_openAt_50 : decode cX5_openAt 50 = .ok (.iload_n 2, 1) := by decide +kernel
theorem dX5_openAt_51 : decode cX5_openAt 51 = .ok (.iconst 1, 1) := by decide +kernel
theorem dX5_openAt_52 : decode cX5_openAt 52 = .ok (.isub, 1) := by decide +kernel
theorem dX5_openAt_53 : decode cX5_openAt 53 = .ok (.invokestatic 80, 3) := by decide +kernel
theorem dX5_openAt_56 : decode cX5_openAt 56 = .ok (.lushr, 1) := by decide +kernel
theorem dX5_openAt_57 : decode cX5_openAt 57 = .ok (.l2i, 1) := by decide +kernel
theorem dX5_openAt_58 : decode cX5_openAt 58 = .ok (.bipush 63, 2) := by decide +kernel
theorem dX5_openAt_60 : decode cX5_openAt 60 = .ok (.iand, 1) := by decide +kernel
theorem dX5_openAt_61 : decode cX5_openAt 61 = .ok (.ireturn, 1) := by decide +kernel
theorem dX5_shiftOf_0 : decode cX5_shiftOf 0 = .ok (.iload_n 0, 1) := by decide +kernel
theorem dX5_shiftOf_1 : decode cX5_shiftOf 1 = .ok (.bipush 10, 2) := by decide +kernel
theorem dX5_shiftOf_3 : decode cX5_shiftOf 3 = .ok (.irem, 1) := by decide +kernel
theorem dX5_shiftOf_4 : decode cX5_shiftOf 4 = .ok (.bipush 6, 2) := by decide +kernel
theorem dX5_shiftOf_6 : decode cX5_shiftOf 6 = .ok (.imul, 1) := by decide +kernel
theorem dX5_shiftOf_7 : decode cX5_shiftOf 7 = .ok (.ireturn, 1) := by decide +kernel
theorem dX5_bitsOf_0 : decode cX5_bitsOf 0 = .ok (.iconst 0, 1) := by decide +kernel
theorem dX5_bitsOf_1 : decode cX5_bitsOf 1 = .ok (.istore_n 1, 1) := by decide +kernel
theorem dX5_bitsOf_2 : decode cX5_bitsOf 2 = .ok (.iload_n 0, 1) := by decide +kernel
theorem dX5_bitsOf_3 : decode cX5_bitsOf 3 = .ok (.istore_n 2, 1) := by decide +kernel
theorem dX5_bitsOf_4 : decode cX5_bitsOf 4 = .ok (.iconst 0, 1) := by decide +kernel
theorem dX5_bitsOf_5 : decode cX5_bitsOf 5 = .ok (.istore_n 3, 1) := by decide +kernel
theorem dX5_bitsOf_6 : decode cX5_bitsOf 6 = .ok (.iload_n 3, 1) := by decide +kernel
theorem dX5_bitsOf_7 : decode cX5_bitsOf 7 = .ok (.bipush 6, 2) := by decide +kernel
theorem dX5_bitsOf_9 : decode cX5_bitsOf 9 = .ok (.if_icmp .ge 30, 3) := by decide +kernel
theorem dX5_bitsOf_12 : decode cX5_bitsOf 12 = .ok (.iload_n 2, 1) := by decide +kernel
theorem dX5_bitsOf_13 : decode cX5_bitsOf 13 = .ok (.ifCond .le 26, 3) := by decide +kernel
theorem dX5_bitsOf_16 : decode cX5_bitsOf 16 = .ok (.iload_n 1, 1) := by decide +kernel
theorem dX5_bitsOf_17 : decode cX5_bitsOf 17 = .ok (.iload_n 2, 1) := by decide +kernel
theorem dX5_bitsOf_18 : decode cX5_bitsOf 18 = .ok (.bipush 10, 2) := by decide +kernel
theorem dX5_bitsOf_20 : decode cX5_bitsOf 20 = .ok (.irem, 1) := by decide +kernel
theorem dX5_bitsOf_21 : decode cX5_bitsOf 21 = .ok (.iconst 1, 1) := by decide +kernel
theorem dX5_bitsOf_22 : decode cX5_bitsOf 22 = .ok (.isub, 1) := by decide +kernel
theorem dX5_bitsOf_23 : decode cX5_bitsOf 23 = .ok (.invokestatic 187, 3) := by decide +kernel
theorem dX5_bitsOf_26 : decode cX5_bitsOf 26 = .ok (.ior, 1) := by decide +kernel
theorem dX5_bitsOf_27 : decode cX5_bitsOf 27 = .ok (.istore_n 1, 1) := by decide +kernel
theorem dX5_bitsOf_28 : decode cX5_bitsOf 28 = .ok (.iload_n 2, 1) := by decide +kernel
theorem dX5_bitsOf_29 : decode cX5_bitsOf 29 = .ok (.bipush 10, 2) := by decide +kernel
theorem dX5_bitsOf_31 : decode cX5_bitsOf 31 = .ok (.idiv, 1) := by decide +kernel
theorem dX5_bitsOf_32 : decode cX5_bitsOf 32 = .ok (.istore_n 2, 1) := by decide +kernel
theorem dX5_bitsOf_33 : decode cX5_bitsOf 33 = .ok (.iinc 3 1, 3) := by decide +kernel
theorem dX5_bitsOf_36 : decode cX5_bitsOf 36 = .ok (.goto (-30), 3) := by decide +kernel
theorem dX5_bitsOf_39 : decode cX5_bitsOf 39 = .ok (.iload_n 1, 1) := by decide +kernel
theorem dX5_bitsOf_40 : decode cX5_bitsOf 40 = .ok (.ireturn, 1) := by decide +kernel
end
section
theorem dX11_init_0 : decode cX11_init 0 = .ok (.aload_n 0, 1) := by decide +kernel
theorem dX11_init_1 : decode cX11_init 1 = .ok (.invokespecial 1, 3) := by decide +kernel
theorem dX11_init_4 : decode cX11_init 4 = .ok (.aload_n 0, 1) := by decide +kernel
theorem dX11_init_5 : decode cX11_init 5 = .ok (.new 7, 3) := by decide +kernel
theorem dX11_init_8 : decode cX11_init 8 = .ok (.dup, 1) := by decide +kernel
theorem dX11_init_9 : decode cX11_init 9 = .ok (.invokespecial 9, 3) := by decide +kernel
theorem dX11_init_12 : decode cX11_init 12 = .ok (.putfield 10, 3) := by decide +kernel
theorem dX11_init_15 : decode cX11_init 15 = .ok (.aload_n 0, 1) := by decide +kernel
theorem dX11_init_16 : decode cX11_init 16 = .ok (.new 16, 3) := by decide +kernel
theorem dX11_init_19 : decode cX11_init 19 = .ok (.dup, 1) := by decide +kernel
theorem dX11_init_20 : decode cX11_init 20 = .ok (.invokespecial 18, 3) := by decide +kernel
theorem dX11_init_23 : decode cX11_init 23 = .ok (.putfield 19, 3) := by decide +kernel
theorem dX11_init_26 : decode cX11_init 26 = .ok (.aload_n 0, 1) := by decide +kernel
theorem dX11_init_27 : decode cX11_init 27 = .ok (.new 16, 3) := by decide +kernel
theorem dX11_init_30 : decode cX11_init 30 = .ok (.dup, 1) := by decide +kernel
theorem dX11_init_31 : decode cX11_init 31 = .ok (.invokespecial 18, 3) := by decide +kernel
theorem dX11_init_34 : decode cX11_init 34 = .ok (.putfield 23, 3) := by decide +kernel
theorem dX11_init_37 : decode cX11_init 37 = .ok (.aload_n 0, 1) := by decide +kernel
theorem dX11_init_38 : decode cX11_init 38 = .ok (.new 26, 3) := by decide +kernel
theorem dX11_init_41 : decode cX11_init 41 = .ok (.dup, 1) := by decide +kernel
theorem dX11_init_42 : decode cX11_init 42 = .ok (.invokespecial 28, 3) := by decide +kernel
theorem dX11_init_45 : decode cX11_init 45 = .ok (.putfield 29, 3) := by decide +kernel
theorem dX11_init_48 : decode cX11_init 48 = .ok (.aload_n 0, 1) := by decide +kernel
theorem dX11_init_49 : decode cX11_init 49 = .ok (.iconst 2, 1) := by decide +kernel
theorem dX11_init_50 : decode cX11_init 50 = .ok (.anewarray 26, 3) := by decide +kernel
theorem dX11_init_53 : decode cX11_init 53 = .ok (.putfield 33, 3) := by decide +kernel
theorem dX11_init_56 : decode cX11_init 56 = .ok (.aload_n 0, 1) := by decide +kernel
theorem dX11_init_57 : decode cX11_init 57 = .ok (.new 37, 3) := by decide +kernel
theorem dX11_init_60 : decode cX11_init 60 = .ok (.dup, 1) := by decide +kernel
theorem dX11_init_61 : decode cX11_init 61 = .ok (.invokespecial 39, 3) := by decide +kernel
theorem dX11_init_64 : decode cX11_init 64 = .ok (.putfield 40, 3) := by decide +kernel
theorem dX11_init_67 : decode cX11_init 67 = .ok (.aload_n 0, 1) := by decide +kernel
theorem dX11_init_68 : decode cX11_init 68 = .ok (.bipush 6, 2) := by decide +kernel
theorem dX11_init_70 : decode cX11_init 70 = .ok (.newarray .int, 2) := by decide +kernel
theorem dX11_init_72 : decode cX11_init 72 = .ok (.putfield 44, 3) := by decide +kernel
theorem dX11_init_75 : decode cX11_init 75 = .ok (.aload_n 0, 1) := by decide +kernel
theorem dX11_init_76 : decode cX11_init 76 = .ok (.bipush 6, 2) := by decide +kernel
theorem dX11_init_78 : decode cX11_init 78 = .ok (.newarray .int, 2) := by decide +kernel
theorem dX11_init_80 : decode cX11_init 80 = .ok (.putfield 48, 3) := by decide +kernel
theorem dX11_init_83 : decode cX11_init 83 = .ok (.aload_n 0, 1) := by decide +kernel
theorem dX11_init_84 : decode cX11_init 84 = .ok (.bipush 6, 2) := by decide +kernel
theorem dX11_init_86 : decode cX11_init 86 = .ok (.anewarray 51, 3) := by decide +kernel
theorem dX11_init_89 : decode cX11_init 89 = .ok (.dup, 1) := by decide +kernel
theorem dX11_init_90 : decode cX11_init 90 = .ok (.iconst 0, 1) := by decide +kernel
theorem dX11_init_91 : decode cX11_init 91 = .ok (.new 51, 3) := by decide +kernel
theorem dX11_init_94 : decode cX11_init 94 = .ok (.dup, 1) := by decide +kernel
theorem dX11_init_95 : decode cX11_init 95 = .ok (.invokespecial 53, 3) := by decide +kernel
theorem dX11_init_98 : decode cX11_init 98 = .ok (.aastore, 1) := by decide +kernel
theorem dX11_init_99 : decode cX11_init 99 = .ok (.dup, 1) := by decide +kernel
theorem dX11_init_100 : decode cX11_init 100 = .ok (.iconst 1, 1) := by decide +kernel
theorem dX11_init_101 : decode cX11_init 101 = .ok (.new 54, 3) := by decide +kernel
theorem dX11_init_104 : decode cX11_init 104 = .ok (.dup, 1) := by decide +kernel
theorem dX11_init_105 : decode cX11_init 105 = .ok (.invokespecial 56, 3) := by decide +kernel
theorem dX11_init_108 : decode cX11_init 108 = .ok (.aastore, 1) := by decide +kernel
theorem dX11_init_109 : decode cX11_init 109 = .ok (.dup, 1) := by decide +kernel
theorem dX11_init_110 : decode cX11_init 110 = .ok (.iconst 2, 1) := by decide +kernel
theorem dX11_init_111 : decode cX11_init 111 = .ok (.new 57, 3) := by decide +kernel
theorem dX11_init_114 : decode cX11_init 114 = .ok (.dup, 1) := by decide +kernel
theorem dX11_init_115 : decode cX11_init 115 = .ok (.invokespecial 59, 3) := by decide +kernel
theorem dX11_init_118 : decode cX11_init 118 = .ok (.aastore, 1) := by decide +kernel
theorem dX11_init_119 : decode cX11_init 119 = .ok (.dup, 1) := by decide +kernel
theorem dX11_init_120 : decode cX11_init 120 = .ok (.iconst 3, 1) := by decide +kernel
theorem dX11_init_121 : decode cX11_init 121 = .ok (.new 60, 3) := by decide +kernel
theorem dX11_init_124 : decode cX11_init 124 = .ok (.dup, 1) := by decide +kernel
theorem dX11_init_125 : decode cX11_init 125 = .ok (.invokespecial 62, 3) := by decide +kernel
theorem dX11_init_128 : decode cX11_init 128 = .ok (.aastore, 1) := by decide +kernel
theorem dX11_init_129 : decode cX11_init 129 = .ok (.dup, 1) := by decide +kernel
theorem dX11_init_130 : decode cX11_init 130 = .ok (.iconst 4, 1) := by decide +kernel
theorem dX11_init_131 : decode cX11_init 131 = .ok (.new 63, 3) := by decide +kernel
theorem dX11_init_134 : decode cX11_init 134 = .ok (.dup, 1) := by decide +kernel
theorem dX11_init_135 : decode cX11_init 135 = .ok (.invokespecial 65, 3) := by decide +kernel
theorem dX11_init_138 : decode cX11_init 138 = .ok (.aastore, 1) := by decide +kernel
theorem dX11_init_139 : decode cX11_init 139 = .ok (.dup, 1) := by decide +kernel
theorem dX11_init_140 : decode cX11_init 140 = .ok (.iconst 5, 1) := by decide +kernel
theorem dX11_init_141 : decode cX11_init 141 = .ok (.new 66, 3) := by decide +kernel
theorem dX11_init_144 : decode cX11_init 144 = .ok (.dup, 1) := by decide +kernel
theorem dX11_init_145 : decode cX11_init 145 = .ok (.invokespecial 68, 3) := by decide +kernel
theorem dX11_init_148 : decode cX11_init 148 = .ok (.aastore, 1) := by decide +kernel
theorem dX11_init_149 : decode cX11_init 149 = .ok (.putfield 69, 3) := by decide +kernel
theorem dX11_init_152 : decode cX11_init 152 = .ok (.iconst 0, 1) := by decide +kernel
theorem dX11_init_153 : decode cX11_init 153 = .ok (.istore_n 1, 1) := by decide +kernel
theorem dX11_init_154 : decode cX11_init 154 = .ok (.iload_n 1, 1) := by decide +kernel
theorem dX11_init_155 : decode cX11_init 155 = .ok (.aload_n 0, 1) := by decide +kernel
theorem dX11_init_156 : decode cX11_init 156 = .ok (.getfield 33, 3) := by decide +kernel
theorem dX11_init_159 : decode cX11_init 159 = .ok (.arraylength, 1) := by decide +kernel
theorem dX11_init_160 : decode cX11_init 160 = .ok (.if_icmp .ge 22, 3) := by decide +kernel
theorem dX11_init_163 : decode cX11_init 163 = .ok (.aload_n 0, 1) := by decide +kernel
theorem dX11_init_164 : decode cX11_init 164 = .ok (.getfield 33, 3) := by decide +kernel
theorem dX11_init_167 : decode cX11_init 167 = .ok (.iload_n 1, 1) := by decide +kernel
theorem dX11_init_168 : decode cX11_init 168 = .ok (.new 26, 3) := by decide +kernel
theorem dX11_init_171 : decode cX11_init 171 = .ok (.dup, 1) := by decide +kernel
theorem dX11_init_172 : decode cX11_init 172 = .ok (.invokespecial 28, 3) := by decide +kernel
theorem dX11_init_175 : decode cX11_init 175 = .ok (.aastore, 1) := by decide +kernel
theorem dX11_init_176 : decode cX11_init 176 = .ok (.iinc 1 1, 3) := by decide +kernel
theorem dX11_init_179 : decode cX11_init 179 = .ok (.goto (-25), 3) := by decide +kernel
theorem dX11_init_182 : decode cX11_init 182 = .ok (.aload_n 0, 1) := by decide +kernel
theorem dX11_init_183 : decode cX11_init 183 = .ok (.invokevirtual 73, 3) := by decide +kernel
theorem dX11_init_186 : decode cX11_init 186 = .ok (.return_, 1) := by decide +kernel
theorem dX11_type_0 : decode cX11_type 0 = .ok (.iload_n 1, 1) := by decide +kernel
theorem dX11_type_1 : decode cX11_type 1 = .ok (.ifCond .lt 10, 3) := by decide +kernel
theorem dX11_type_4 : decode cX11_type 4 = .ok (.iload_n 1, 1) := by decide +kernel
theorem dX11_type_5 : decode cX11_type 5 = .ok (.sipush 255, 3) := by decide +kernel
theorem dX11_type_8 : decode cX11_type 8 = .ok (.if_icmp .le 5, 3) := by decide +kernel
theorem dX11_type_11 : decode cX11_type 11 = .ok (.iconst (-1), 1) := by decide +kernel
theorem dX11_type_12 : decode cX11_type 12 = .ok (.ireturn, 1) := by decide +kernel
theorem dX11_type_13 : decode cX11_type 13 = .ok (.aload_n 0, 1) := by decide +kernel
theorem dX11_type_14 : decode cX11_type 14 = .ok (.getfield 10, 3) := by decide +kernel
theorem dX11_type_17 : decode cX11_type 17 = .ok (.iload_n 1, 1) := by decide +kernel
theorem dX11_type_18 : decode cX11_type 18 = .ok (.invokevirtual 76, 3) := by decide +kernel
theorem dX11_type_21 : decode cX11_type 21 = .ok (.ifCond .eq 13, 3) := by decide +kernel
theorem dX11_type_24 : decode cX11_type 24 = .ok (.aload_n 0, 1) := by decide +kernel
theorem dX11_type_25 : decode cX11_type 25 = .ok (.getfield 10, 3) := by decide +kernel
theorem dX11_type_28 : decode cX11_type 28 = .ok (.getfield 80, 3) := by decide +kernel
theorem dX11_type_31 : decode cX11_type 31 = .ok (.goto 5, 3) := by decide +kernel
theorem dX11_type_34 : decode cX11_type 34 = .ok (.bipush (-3), 2) := by decide +kernel
theorem dX11_type_36 : decode cX11_type 36 = .ok (.ireturn, 1) := by decide +kernel
theorem dX11_clear_0 : decode cX11_clear 0 = .ok (.aload_n 0, 1) := by decide +kernel
theorem dX11_clear_1 : decode cX11_clear 1 = .ok (.getfield 10, 3) := by decide +kernel
theorem dX11_clear_4 : decode cX11_clear 4 = .ok (.invokevirtual 84, 3) := by decide +kernel
theorem dX11_clear_7 : decode cX11_clear 7 = .ok (.ireturn, 1) := by decide +kernel
theorem dX11_tales_0 : decode cX11_tales 0 = .ok (.aload_n 0, 1) := by decide +kernel
theorem dX11_tales_1 : decode cX11_tales 1 = .ok (.getfield 10, 3) := by decide +kernel
theorem dX11_tales_4 : decode cX11_tales 4 = .ok (.aload_n 0, 1) := by decide +kernel
theorem dX11_tales_5 : decode cX11_tales 5 = .ok (.getfield 23, 3) := by decide +kernel
theorem dX11_tales_8 : decode cX11_tales 8 = .ok (.invokevirtual 88, 3) := by decide +kernel
theorem dX11_tales_11 : decode cX11_tales 11 = .ok (.istore_n 1, 1) := by decide +kernel
theorem dX11_tales_12 : decode cX11_tales 12 = .ok (.iload_n 1, 1) := by decide +kernel
theorem dX11_tales_13 : decode cX11_tales 13 = .ok (.ifCond .ge 14, 3) := by decide +kernel
theorem dX11_tales_16 : decode cX11_tales 16 = .ok (.bipush (-10), 2) := by decide +kernel
theorem dX11_tales_18 : decode cX11_tales 18 = .ok (.aload_n 0, 1) := by decide +kernel
theorem dX11_tales_19 : decode cX11_tales 19 = .ok (.getfield 10, 3) := by decide +kernel
theorem dX11_tales_22 : decode cX11_tales 22 = .ok (.getfield 92, 3) := by decide +kernel
theorem dX11_tales_25 : decode cX11_tales 25 = .ok (.isub, 1) := by decide +kernel
theorem dX11_tales_26 : decode cX11_tales 26 = .ok (.ireturn, 1) := by decide +kernel
theorem dX11_tales_27 : decode cX11_tales 27 = .ok (.aload_n 0, 1) := by decide +kernel
theorem dX11_tales_28 : decode cX11_tales 28 = .ok (.getfield 19, 3) := by decide +kernel
theorem dX11_tales_31 : decode cX11_tales 31 = .ok (.aload_n 0, 1) := by decide +kernel
theorem dX11_tales_32 : decode cX11_tales 32 = .ok (.getfield 23, 3) := by decide +kernel
theorem dX11_tales_35 : decode cX11_tales 35 = .ok (.invokevirtual 95, 3) := by decide +kernel
theorem dX11_tales_38 : decode cX11_tales 38 = .ok (.aload_n 0, 1) := by decide +kernel
theorem dX11_tales_39 : decode cX11_tales 39 = .ok (.getfield 10, 3) := by decide +kernel
theorem dX11_tales_42 : decode cX11_tales 42 = .ok (.invokevirtual 84, 3) := by decide +kernel
theorem dX11_tales_45 : decode cX11_tales 45 = .ok (.pop, 1) := by decide +kernel
theorem dX11_tales_46 : decode cX11_tales 46 = .ok (.aload_n 0, 1) := by decide +kernel
theorem dX11_tales_47 : decode cX11_tales 47 = .ok (.invokevirtual 73, 3) := by decide +kernel
theorem dX11_tales_50 : decode cX11_tales 50 = .ok (.iload_n 1, 1) := by decide +kernel
theorem dX11_tales_51 : decode cX11_tales 51 = .ok (.ireturn, 1) := by decide +kernel
theorem dX11_tale_0 : decode cX11_tale 0 = .ok (.aload_n 0, 1) := by decide +kernel
theorem dX11_tale_1 : decode cX11_tale 1 = .ok (.getfield 19, 3) := by decide +kernel
theorem dX11_tale_4 : decode cX11_tale 4 = .ok (.iload_n 1, 1) := by decide +kernel
theorem dX11_tale_5 : decode cX11_tale 5 = .ok (.invokevirtual 99, 3) := by decide +kernel
theorem dX11_tale_8 : decode cX11_tale 8 = .ok (.ifCond .ne 5, 3) := by decide +kernel
theorem dX11_tale_11 : decode cX11_tale 11 = .ok (.iconst (-1), 1) := by decide +kernel
theorem dX11_tale_12 : decode cX11_tale 12 = .ok (.ireturn, 1) := by decide +kernel
theorem dX11_tale_13 : decode cX11_tale 13 = .ok (.aload_n 0, 1) := by decide +kernel
theorem dX11_tale_14 : decode cX11_tale 14 = .ok (.getfield 29, 3) := by decide +kernel
theorem dX11_tale_17 : decode cX11_tale 17 = .ok (.getfield 102, 3) := by decide +kernel
theorem dX11_tale_20 : decode cX11_tale 20 = .ok (.astore_n 3, 1) := by decide +kernel
theorem dX11_tale_21 : decode cX11_tale 21 = .ok (.iload_n 2, 1) := by decide +kernel
theorem dX11_tale_22 : decode cX11_tale 22 = .ok (.tableswitch 101 0 5 #[38, 47, 56, 62, 76, 82], 38) := by decide +kernel
theorem dX11_tale_60 : decode cX11_tale 60 = .ok (.aload_n 0, 1) := by decide +kernel
theorem dX11_tale_61 : decode cX11_tale 61 = .ok (.getfield 19, 3) := by decide +kernel
theorem dX11_tale_64 : decode cX11_tale 64 = .ok (.iload_n 1, 1) := by decide +kernel
theorem dX11_tale_65 : decode cX11_tale 65 = .ok (.invokevirtual 106, 3) := by decide +kernel
theorem dX11_tale_68 : decode cX11_tale 68 = .ok (.ireturn, 1) := by decide +kernel
theorem dX11_tale_69 : decode cX11_tale 69 = .ok (.aload_n 0, 1) := by decide +kernel
theorem dX11_tale_70 : decode cX11_tale 70 = .ok (.getfield 19, 3) := by decide +kernel
theorem dX11_tale_73 : decode cX11_tale 73 = .ok (.iload_n 1, 1) := by decide +kernel
theorem dX11_tale_74 : decode cX11_tale 74 = .ok (.invokevirtual 110, 3) := by decide +kernel
theorem dX11_tale_77 : decode cX11_tale 77 = .ok (.ireturn, 1) := by decide +kernel
theorem dX11_tale_78 : decode cX11_tale 78 = .ok (.aload_n 3, 1) := by decide +kernel
theorem dX11_tale_79 : decode cX11_tale 79 = .ok (.iload_n 1, 1) := by decide +kernel
theorem dX11_tale_80 : decode cX11_tale 80 = .ok (.invokevirtual 113, 3) := by decide +kernel
theorem dX11_tale_83 : decode cX11_tale 83 = .ok (.ireturn, 1) := by decide +kernel
theorem dX11_tale_84 : decode cX11_tale 84 = .ok (.aload_n 3, 1) := by decide +kernel
theorem dX11_tale_85 : decode cX11_tale 85 = .ok (.iload_n 1, 1) := by decide +kernel
theorem dX11_tale_86 : decode cX11_tale 86 = .ok (.invokevirtual 118, 3) := by decide +kernel
theorem dX11_tale_89 : decode cX11_tale 89 = .ok (.ifCond .eq 7, 3) := by decide +kernel
theorem dX11_tale_92 : decode cX11_tale 92 = .ok (.iconst 1, 1) := by decide +kernel
theorem dX11_tale_93 : decode cX11_tale 93 = .ok (.goto 4, 3) := by decide +kernel
theorem dX11_tale_96 : decode cX11_tale 96 = .ok (.iconst 0, 1) := by decide +kernel
theorem dX11_tale_97 : decode cX11_tale 97 = .ok (.ireturn, 1) := by decide +kernel
theorem dX11_tale_98 : decode cX11_tale 98 = .ok (.aload_n 3, 1) := by decide +kernel
theorem dX11_tale_99 : decode cX11_tale 99 = .ok (.iload_n 1, 1) := by decide +kernel
theorem dX11_tale_100 : decode cX11_tale 100 = .ok (.invokevirtual 121, 3) := by decide +kernel
theorem dX11_tale_103 : decode cX11_tale 103 = .ok (.ireturn, 1) := by decide +kernel
theorem dX11_tale_104 : decode cX11_tale 104 = .ok (.aload_n 3, 1) := by decide +kernel
theorem dX11_tale_105 : decode cX11_tale 105 = .ok (.iload_n 1, 1) := by decide +kernel
theorem dX11_tale_106 : decode cX11_tale 106 = .ok (.invokevirtual 118, 3) := by decide +kernel
theorem dX11_tale_109 : decode cX11_tale 109 = .ok (.ifCond .eq 11, 3) := by decide +kernel
theorem dX11_tale_112 : decode cX11_tale 112 = .ok (.aload_n 3, 1) := by decide +kernel
theorem dX11_tale_113 : decode cX11_tale 113 = .ok (.iload_n 1, 1) := by decide +kernel
theorem dX11_tale_114 : decode cX11_tale 114 = .ok (.invokevirtual 124, 3) := by decide +kernel
theorem dX11_tale_117 : decode cX11_tale 117 = .ok (.goto 5, 3) := by decide +kernel
theorem dX11_tale_120 : decode cX11_tale 120 = .ok (.bipush (-9), 2) := by decide +kernel
theorem dX11_tale_122 : decode cX11_tale 122 = .ok (.ireturn, 1) := by decide +kernel
theorem dX11_tale_123 : decode cX11_tale 123 = .ok (.iconst (-1), 1) := by decide +kernel
theorem dX11_tale_124 : decode cX11_tale 124 = .ok (.ireturn, 1) := by decide +kernel
theorem dX11_hours_0 : decode cX11_hours 0 = .ok (.iload_n 1, 1) := by decide +kernel
theorem dX11_hours_1 : decode cX11_hours 1 = .ok (.ifCond .lt 10, 3) := by decide +kernel
theorem dX11_hours_4 : decode cX11_hours 4 = .ok (.iload_n 1, 1) := by decide +kernel
theorem dX11_hours_5 : decode cX11_hours 5 = .ok (.sipush 200, 3) := by decide +kernel
theorem dX11_hours_8 : decode cX11_hours 8 = .ok (.if_icmp .le 7, 3) := by decide +kernel
theorem dX11_hours_11 : decode cX11_hours 11 = .ok (.iconst (-1), 1) := by decide +kernel
theorem dX11_hours_12 : decode cX11_hours 12 = .ok (.goto 11, 3) := by decide +kernel
theorem dX11_hours_15 : decode cX11_hours 15 = .ok (.aload_n 0, 1) := by decide +kernel
theorem dX11_hours_16 : decode cX11_hours 16 = .ok (.getfield 19, 3) := by decide +kernel
theorem dX11_hours_19 : decode cX11_hours 19 = .ok (.iload_n 1, 1) := by decide +kernel
theorem dX11_hours_20 : decode cX11_hours 20 = .ok (.invokevirtual 127, 3) := by decide +kernel
theorem dX11_hours_23 : decode cX11_hours 23 = .ok (.ireturn, 1) := by decide +kernel
theorem dX11_begins_0 : decode cX11_begins 0 = .ok (.aload_n 0, 1) := by decide +kernel
theorem dX11_begins_1 : decode cX11_begins 1 = .ok (.getfield 19, 3) := by decide +kernel
theorem dX11_begins_4 : decode cX11_begins 4 = .ok (.iload_n 1, 1) := by decide +kernel
theorem dX11_begins_5 : decode cX11_begins 5 = .ok (.invokevirtual 99, 3) := by decide +kernel
theorem dX11_begins_8 : decode cX11_begins 8 = .ok (.ifCond .ne 5, 3) := by decide +kernel
theorem dX11_begins_11 : decode cX11_begins 11 = .ok (.iconst (-1), 1) := by decide +kernel
theorem dX11_begins_12 : decode cX11_begins 12 = .ok (.ireturn, 1) := by decide +kernel
theorem dX11_begins_13 : decode cX11_begins 13 = .ok (.aload_n 0, 1) := by decide +kernel
theorem dX11_begins_14 : decode cX11_begins 14 = .ok (.getfield 29, 3) := by decide +kernel
theorem dX11_begins_17 : decode cX11_begins 17 = .ok (.getfield 102, 3) := by decide +kernel
theorem dX11_begins_20 : decode cX11_begins 20 = .ok (.aload_n 0, 1) := by decide +kernel
theorem dX11_begins_21 : decode cX11_begins 21 = .ok (.getfield 19, 3) := by decide +kernel
theorem dX11_begins_24 : decode cX11_begins 24 = .ok (.iload_n 1, 1) := by decide +kernel
theorem dX11_begins_25 : decode cX11_begins 25 = .ok (.invokevirtual 130, 3) := by decide +kernel
theorem dX11_begins_28 : decode cX11_begins 28 = .ok (.ifCond .ne 6, 3) := by decide +kernel
theorem dX11_begins_31 : decode cX11_begins 31 = .ok (.bipush (-2), 2) := by decide +kernel
theorem dX11_begins_33 : decode cX11_begins 33 = .ok (.ireturn, 1) := by decide +kernel
theorem dX11_begins_34 : decode cX11_begins 34 = .ok (.aload_n 0, 1) := by decide +kernel
theorem dX11_begins_35 : decode cX11_begins 35 = .ok (.getfield 29, 3) := by decide +kernel
theorem dX11_begins_38 : decode cX11_begins 38 = .ok (.invokevirtual 134, 3) := by decide +kernel
theorem dX11_begins_41 : decode cX11_begins 41 = .ok (.aload_n 0, 1) := by decide +kernel
theorem dX11_begins_42 : decode cX11_begins 42 = .ok (.getfield 29, 3) := by decide +kernel
theorem dX11_begins_45 : decode cX11_begins 45 = .ok (.getfield 102, 3) := by decide +kernel
theorem dX11_begins_48 : decode cX11_begins 48 = .ok (.iload_n 1, 1) := by decide +kernel
theorem dX11_begins_49 : decode cX11_begins 49 = .ok (.invokevirtual 137, 3) := by decide +kernel
theorem dX11_begins_52 : decode cX11_begins 52 = .ok (.aload_n 0, 1) := by decide +kernel
theorem dX11_begins_53 : decode cX11_begins 53 = .ok (.getfield 29, 3) := by decide +kernel
theorem dX11_begins_56 : decode cX11_begins 56 = .ok (.getfield 102, 3) := by decide +kernel
theorem dX11_begins_59 : decode cX11_begins 59 = .ok (.getfield 141, 3) := by decide +kernel
theorem dX11_begins_62 : decode cX11_begins 62 = .ok (.ireturn, 1) := by decide +kernel
theorem dX11_tells_0 : decode cX11_tells 0 = .ok (.aload_n 0, 1) := by decide +kernel
theorem dX11_tells_1 : decode cX11_tells 1 = .ok (.getfield 29, 3) := by decide +kernel
theorem dX11_tells_4 : decode cX11_tells 4 = .ok (.getfield 102, 3) := by decide +kernel
theorem dX11_tells_7 : decode cX11_tells 7 = .ok (.invokevirtual 144, 3) := by decide +kernel
theorem dX11_tells_10 : decode cX11_tells 10 = .ok (.ifCond .eq 16, 3) := by decide +kernel
theorem dX11_tells_13 : decode cX11_tells 13 = .ok (.aload_n 0, 1) := by decide +kernel
theorem dX11_tells_14 : decode cX11_tells 14 = .ok (.getfield 29, 3) := by decide +kernel
theorem dX11_tells_17 : decode cX11_tells 17 = .ok (.getfield 102, 3) := by decide +kernel
theorem dX11_tells_20 : decode cX11_tells 20 = .ok (.getfield 148, 3) := by decide +kernel
theorem dX11_tells_23 : decode cX11_tells 23 = .ok (.ifCond .ne 6, 3) := by decide +kernel
theorem dX11_tells_26 : decode cX11_tells 26 = .ok (.bipush (-2), 2) := by decide +kernel
theorem dX11_tells_28 : decode cX11_tells 28 = .ok (.ireturn, 1) := by decide +kernel
theorem dX11_tells_29 : decode cX11_tells 29 = .ok (.aload_n 0, 1) := by decide +kernel
theorem dX11_tells_30 : decode cX11_tells 30 = .ok (.getfield 29, 3) := by decide +kernel
theorem dX11_tells_33 : decode cX11_tells 33 = .ok (.invokevirtual 134, 3) := by decide +kernel
theorem dX11_tells_36 : decode cX11_tells 36 = .ok (.aload_n 0, 1) := by decide +kernel
theorem dX11_tells_37 : decode cX11_tells 37 = .ok (.getfield 29, 3) := by decide +kernel
theorem dX11_tells_40 : decode cX11_tells 40 = .ok (.getfield 102, 3) := by decide +kernel
theorem dX11_tells_43 : decode cX11_tells 43 = .ok (.aload_n 0, 1) := by decide +kernel
theorem dX11_tells_44 : decode cX11_tells 44 = .ok (.getfield 29, 3) := by decide +kernel
theorem dX11_tells_47 : decode cX11_tells 47 = .ok (.getfield 102, 3) := by decide +kernel
theorem dX11_tells_50 : decode cX11_tells 50 = .ok (.invokevirtual 151, 3) := by decide +kernel
theorem dX11_tells_53 : decode cX11_tells 53 = .ok (.iconst 1, 1) := by decide +kernel
theorem dX11_tells_54 : decode cX11_tells 54 = .ok (.invokevirtual 154, 3) := by decide +kernel
theorem dX11_tells_57 : decode cX11_tells 57 = .ok (.aload_n 0, 1) := by decide +kernel
theorem dX11_tells_58 : decode cX11_tells 58 = .ok (.getfield 29, 3) := by decide +kernel
theorem dX11_tells_61 : decode cX11_tells 61 = .ok (.getfield 102, 3) := by decide +kernel
theorem dX11_tells_64 : decode cX11_tells 64 = .ok (.getfield 141, 3) := by decide +kernel
theorem dX11_tells_67 : decode cX11_tells 67 = .ok (.ireturn, 1) := by decide +kernel
theorem dX11_silent_0 : decode cX11_silent 0 = .ok (.aload_n 0, 1) := by decide +kernel
theorem dX11_silent_1 : decode cX11_silent 1 = .ok (.getfield 29, 3) := by decide +kernel
theorem dX11_silent_4 : decode cX11_silent 4 = .ok (.getfield 102, 3) := by decide +kernel
theorem dX11_silent_7 : decode cX11_silent 7 = .ok (.invokevirtual 144, 3) := by decide +kernel
theorem dX11_silent_10 : decode cX11_silent 10 = .ok (.ifCond .ne 6, 3) := by decide +kernel
theorem dX11_silent_13 : decode cX11_silent 13 = .ok (.bipush (-2), 2) := by decide +kernel
theorem dX11_silent_15 : decode cX11_silent 15 = .ok (.ireturn, 1) := by decide +kernel
theorem dX11_silent_16 : decode cX11_silent 16 = .ok (.aload_n 0, 1) := by decide +kernel
theorem dX11_silent_17 : decode cX11_silent 17 = .ok (.getfield 29, 3) := by decide +kernel
theorem dX11_silent_20 : decode cX11_silent 20 = .ok (.invokevirtual 134, 3) := by decide +kernel
theorem dX11_silent_23 : decode cX11_silent 23 = .ok (.aload_n 0, 1) := by decide +kernel
theorem dX11_silent_24 : decode cX11_silent 24 = .ok (.getfield 29, 3) := by decide +kernel
theorem dX11_silent_27 : decode cX11_silent 27 = .ok (.getfield 102, 3) := by decide +kernel
theorem dX11_silent_30 : decode cX11_silent 30 = .ok (.invokevirtual 158, 3) := by decide +kernel
theorem dX11_silent_33 : decode cX11_silent 33 = .ok (.aload_n 0, 1) := by decide +kernel
theorem dX11_silent_34 : decode cX11_silent 34 = .ok (.getfield 29, 3) := by decide +kernel
theorem dX11_silent_37 : decode cX11_silent 37 = .ok (.getfield 102, 3) := by decide +kernel
theorem dX11_silent_40 : decode cX11_silent 40 = .ok (.getfield 141, 3) := by decide +kernel
theorem dX11_silent_43 : decode cX11_silent 43 = .ok (.ireturn, 1) := by decide +kernel
theorem dX11_dawn_0 : decode cX11_dawn 0 = .ok (.aload_n 0, 1) := by decide +kernel
theorem dX11_dawn_1 : decode cX11_dawn 1 = .ok (.getfield 29, 3) := by decide +kernel
theorem dX11_dawn_4 : decode cX11_dawn 4 = .ok (.getfield 102, 3) := by decide +kernel
theorem dX11_dawn_7 : decode cX11_dawn 7 = .ok (.invokevirtual 161, 3) := by decide +kernel
theorem dX11_dawn_10 : decode cX11_dawn 10 = .ok (.ifCond .ne 6, 3) := by decide +kernel
theorem dX11_dawn_13 : decode cX11_dawn 13 = .ok (.bipush (-2), 2) := by decide +kernel
theorem dX11_dawn_15 : decode cX11_dawn 15 = .ok (.ireturn, 1) := by decide +kernel
theorem dX11_dawn_16 : decode cX11_dawn 16 = .ok (.aload_n 0, 1) := by decide +kernel
theorem dX11_dawn_17 : decode cX11_dawn 17 = .ok (.getfield 29, 3) := by decide +kernel
theorem dX11_dawn_20 : decode cX11_dawn 20 = .ok (.invokevirtual 134, 3) := by decide +kernel
theorem dX11_dawn_23 : decode cX11_dawn 23 = .ok (.aload_n 0, 1) := by decide +kernel
theorem dX11_dawn_24 : decode cX11_dawn 24 = .ok (.getfield 29, 3) := by decide +kernel
theorem dX11_dawn_27 : decode cX11_dawn 27 = .ok (.getfield 102, 3) := by decide +kernel
theorem dX11_dawn_30 : decode cX11_dawn 30 = .ok (.aload_n 0, 1) := by decide +kernel
theorem dX11_dawn_31 : decode cX11_dawn 31 = .ok (.getfield 19, 3) := by decide +kernel
theorem dX11_dawn_34 : decode cX11_dawn 34 = .ok (.invokevirtual 164, 3) := by decide +kernel
theorem dX11_dawn_37 : decode cX11_dawn 37 = .ok (.ifCond .eq 7, 3) := by decide +kernel
theorem dX11_dawn_40 : decode cX11_dawn 40 = .ok (.iconst 1, 1) := by decide +kernel
theorem dX11_dawn_41 : decode cX11_dawn 41 = .ok (.goto 4, 3) := by decide +kernel
theorem dX11_dawn_44 : decode cX11_dawn 44 = .ok (.iconst 0, 1) := by decide +kernel
theorem dX11_dawn_45 : decode cX11_dawn 45 = .ok (.ireturn, 1) := by decide +kernel
theorem dX11_undo_0 : decode cX11_undo 0 = .ok (.aload_n 0, 1) := by decide +kernel
theorem dX11_undo_1 : decode cX11_undo 1 = .ok (.getfield 29, 3) := by decide +kernel
theorem dX11_undo_4 : decode cX11_undo 4 = .ok (.invokevirtual 168, 3) := by decide +kernel
theorem dX11_undo_7 : decode cX11_undo 7 = .ok (.ifCond .eq 13, 3) := by decide +kernel
theorem dX11_undo_10 : decode cX11_undo 10 = .ok (.aload_n 0, 1) := by decide +kernel
theorem dX11_undo_11 : decode cX11_undo 11 = .ok (.getfield 29, 3) := by decide +kernel
theorem dX11_undo_14 : decode cX11_undo 14 = .ok (.getfield 171, 3) := by decide +kernel
theorem dX11_undo_17 : decode cX11_undo 17 = .ok (.goto 5, 3) := by decide +kernel
theorem dX11_undo_20 : decode cX11_undo 20 = .ok (.bipush (-2), 2) := by decide +kernel
theorem dX11_undo_22 : decode cX11_undo 22 = .ok (.ireturn, 1) := by decide +kernel
theorem dX11_now_0 : decode cX11_now 0 = .ok (.aload_n 0, 1) := by decide +kernel
theorem dX11_now_1 : decode cX11_now 1 = .ok (.getfield 29, 3) := by decide +kernel
theorem dX11_now_4 : decode cX11_now 4 = .ok (.getfield 102, 3) := by decide +kernel
theorem dX11_now_7 : decode cX11_now 7 = .ok (.astore_n 2, 1) := by decide +kernel
theorem dX11_now_8 : decode cX11_now 8 = .ok (.iload_n 1, 1) := by decide +kernel
theorem dX11_now_9 : decode cX11_now 9 = .ok (.tableswitch 99 0 7 #[47, 52, 57, 62, 67, 80, 85, 90], 47) := by decide +kernel
theorem dX11_now_56 : decode cX11_now 56 = .ok (.aload_n 2, 1) := by decide +kernel
theorem dX11_now_57 : decode cX11_now 57 = .ok (.getfield 174, 3) := by decide +kernel
theorem dX11_now_60 : decode cX11_now 60 = .ok (.ireturn, 1) := by decide +kernel
theorem dX11_now_61 : decode cX11_now 61 = .ok (.aload_n 2, 1) := by decide +kernel
theorem dX11_now_62 : decode cX11_now 62 = .ok (.getfield 141, 3) := by decide +kernel
theorem dX11_now_65 : decode cX11_now 65 = .ok (.ireturn, 1) := by decide +kernel
theorem dX11_now_66 : decode cX11_now 66 = .ok (.aload_n 2, 1) := by decide +kernel
theorem dX11_now_67 : decode cX11_now 67 = .ok (.getfield 148, 3) := by decide +kernel
theorem dX11_now_70 : decode cX11_now 70 = .ok (.ireturn, 1) := by decide +kernel
theorem dX11_now_71 : decode cX11_now 71 = .ok (.aload_n 2, 1) := by decide +kernel
theorem dX11_now_72 : decode cX11_now 72 = .ok (.invokevirtual 151, 3) := by decide +kernel
theorem dX11_now_75 : decode cX11_now 75 = .ok (.ireturn, 1) := by decide +kernel
theorem dX11_now_76 : decode cX11_now 76 = .ok (.aload_n 2, 1) := by decide +kernel
theorem dX11_now_77 : decode cX11_now 77 = .ok (.getfield 177, 3) := by decide +kernel
theorem dX11_now_80 : decode cX11_now 80 = .ok (.ifCond .eq 7, 3) := by decide +kernel
theorem dX11_now_83 : decode cX11_now 83 = .ok (.iconst 1, 1) := by decide +kernel
theorem dX11_now_84 : decode cX11_now 84 = .ok (.goto 4, 3) := by decide +kernel
theorem dX11_now_87 : decode cX11_now 87 = .ok (.iconst 0, 1) := by decide +kernel
theorem dX11_now_88 : decode cX11_now 88 = .ok (.ireturn, 1) := by decide +kernel
theorem dX11_now_89 : decode cX11_now 89 = .ok (.aload_n 2, 1) := by decide +kernel
theorem dX11_now_90 : decode cX11_now 90 = .ok (.getfield 181, 3) := by decide +kernel
theorem dX11_now_93 : decode cX11_now 93 = .ok (.ireturn, 1) := by decide +kernel
theorem dX11_now_94 : decode cX11_now 94 = .ok (.aload_n 2, 1) := by decide +kernel
theorem dX11_now_95 : decode cX11_now 95 = .ok (.invokevirtual 184, 3) := by decide +kernel
theorem dX11_now_98 : decode cX11_now 98 = .ok (.ireturn, 1) := by decide +kernel
theorem dX11_now_99 : decode cX11_now 99 = .ok (.aload_n 2, 1) := by decide +kernel
theorem dX11_now_100 : decode cX11_now 100 = .ok (.aload_n 0, 1) := by decide +kernel
theorem dX11_now_101 : decode cX11_now 101 = .ok (.getfield 19, 3) := by decide +kernel
theorem dX11_now_104 : decode cX11_now 104 = .ok (.invokevirtual 187, 3) := by decide +kernel
theorem dX11_now_107 : decode cX11_now 107 = .ok (.ireturn, 1) := by decide +kernel
theorem dX11_now_108 : decode cX11_now 108 = .ok (.iconst (-1), 1) := by decide +kernel
theorem dX11_now_109 : decode cX11_now 109 = .ok (.ireturn, 1) := by decide +kernel
theorem dX11_on_0 : decode cX11_on 0 = .ok (.aload_n 0, 1) := by decide +kernel
theorem dX11_on_1 : decode cX11_on 1 = .ok (.getfield 40, 3) := by decide +kernel
theorem dX11_on_4 : decode cX11_on 4 = .ok (.aload_n 0, 1) := by decide +kernel
theorem dX11_on_5 : decode cX11_on 5 = .ok (.getfield 19, 3) := by decide +kernel
theorem dX11_on_8 : decode cX11_on 8 = .ok (.aload_n 0, 1) := by decide +kernel
theorem dX11_on_9 : decode cX11_on 9 = .ok (.getfield 29, 3) := by decide +kernel
theorem dX11_on_12 : decode cX11_on 12 = .ok (.getfield 102, 3) := by decide +kernel
theorem dX11_on_15 : decode cX11_on 15 = .ok (.invokevirtual 190, 3) := by decide +kernel
theorem dX11_on_18 : decode cX11_on 18 = .ok (.ireturn, 1) := by decide +kernel
theorem dX11_by_0 : decode cX11_by 0 = .ok (.aload_n 0, 1) := by decide +kernel
theorem dX11_by_1 : decode cX11_by 1 = .ok (.getfield 40, 3) := by decide +kernel
theorem dX11_by_4 : decode cX11_by 4 = .ok (.iload_n 1, 1) := by decide +kernel
theorem dX11_by_5 : decode cX11_by 5 = .ok (.aload_n 0, 1) := by decide +kernel
theorem dX11_by_6 : decode cX11_by 6 = .ok (.getfield 19, 3) := by decide +kernel
theorem dX11_by_9 : decode cX11_by 9 = .ok (.getfield 194, 3) := by decide +kernel
theorem dX11_by_12 : decode cX11_by 12 = .ok (.invokevirtual 197, 3) := by decide +kernel
theorem dX11_by_15 : decode cX11_by 15 = .ok (.ifCond .eq 17, 3) := by decide +kernel
theorem dX11_by_18 : decode cX11_by 18 = .ok (.aload_n 0, 1) := by decide +kernel
theorem dX11_by_19 : decode cX11_by 19 = .ok (.getfield 40, 3) := by decide +kernel
theorem dX11_by_22 : decode cX11_by 22 = .ok (.aload_n 0, 1) := by decide +kernel
theorem dX11_by_23 : decode cX11_by 23 = .ok (.getfield 19, 3) := by decide +kernel
theorem dX11_by_26 : decode cX11_by 26 = .ok (.invokevirtual 201, 3) := by decide +kernel
theorem dX11_by_29 : decode cX11_by 29 = .ok (.goto 4, 3) := by decide +kernel
theorem dX11_by_32 : decode cX11_by 32 = .ok (.iconst (-1), 1) := by decide +kernel
theorem dX11_by_33 : decode cX11_by 33 = .ok (.ireturn, 1) := by decide +kernel
theorem dX11_best_0 : decode cX11_best 0 = .ok (.iload_n 1, 1) := by decide +kernel
theorem dX11_best_1 : decode cX11_best 1 = .ok (.invokestatic 204, 3) := by decide +kernel
theorem dX11_best_4 : decode cX11_best 4 = .ok (.ifCond .ne 5, 3) := by decide +kernel
theorem dX11_best_7 : decode cX11_best 7 = .ok (.iconst (-1), 1) := by decide +kernel
theorem dX11_best_8 : decode cX11_best 8 = .ok (.ireturn, 1) := by decide +kernel
theorem dX11_best_9 : decode cX11_best 9 = .ok (.aload_n 0, 1) := by decide +kernel
theorem dX11_best_10 : decode cX11_best 10 = .ok (.getfield 40, 3) := by decide +kernel
theorem dX11_best_13 : decode cX11_best 13 = .ok (.aload_n 0, 1) := by decide +kernel
theorem dX11_best_14 : decode cX11_best 14 = .ok (.getfield 19, 3) := by decide +kernel
theorem dX11_best_17 : decode cX11_best 17 = .ok (.invokevirtual 207, 3) := by decide +kernel
theorem dX11_best_20 : decode cX11_best 20 = .ok (.aload_n 0, 1) := by decide +kernel
theorem dX11_best_21 : decode cX11_best 21 = .ok (.getfield 40, 3) := by decide +kernel
theorem dX11_best_24 : decode cX11_best 24 = .ok (.invokevirtual 210, 3) := by decide +kernel
theorem dX11_best_27 : decode cX11_best 27 = .ok (.istore_n 2, 1) := by decide +kernel
theorem dX11_best_28 : decode cX11_best 28 = .ok (.iload_n 1, 1) := by decide +kernel
theorem dX11_best_29 : decode cX11_best 29 = .ok (.ifCond .ne 14, 3) := by decide +kernel
theorem dX11_best_32 : decode cX11_best 32 = .ok (.aload_n 0, 1) := by decide +kernel
theorem dX11_best_33 : decode cX11_best 33 = .ok (.getfield 40, 3) := by decide +kernel
theorem dX11_best_36 : decode cX11_best 36 = .ok (.iload_n 2, 1) := by decide +kernel
theorem dX11_best_37 : decode cX11_best 37 = .ok (.invokevirtual 213, 3) := by decide +kernel
theorem dX11_best_40 : decode cX11_best 40 = .ok (.goto 11, 3) := by decide +kernel
theorem dX11_best_43 : decode cX11_best 43 = .ok (.aload_n 0, 1) := by decide +kernel
theorem dX11_best_44 : decode cX11_best 44 = .ok (.getfield 40, 3) := by decide +kernel
theorem dX11_best_47 : decode cX11_best 47 = .ok (.iload_n 2, 1) := by decide +kernel
theorem dX11_best_48 : decode cX11_best 48 = .ok (.invokevirtual 216, 3) := by decide +kernel
theorem dX11_best_51 : decode cX11_best 51 = .ok (.ireturn, 1) := by decide +kernel
theorem dX11_fewest_0 : decode cX11_fewest 0 = .ok (.iload_n 1, 1) := by decide +kernel
theorem dX11_fewest_1 : decode cX11_fewest 1 = .ok (.ifCond .lt 16, 3) := by decide +kernel
theorem dX11_fewest_4 : decode cX11_fewest 4 = .ok (.iload_n 1, 1) := by decide +kernel
theorem dX11_fewest_5 : decode cX11_fewest 5 = .ok (.bipush 30, 2) := by decide +kernel
theorem dX11_fewest_7 : decode cX11_fewest 7 = .ok (.if_icmp .gt 10, 3) := by decide +kernel
theorem dX11_fewest_10 : decode cX11_fewest 10 = .ok (.iload_n 2, 1) := by decide +kernel
theorem dX11_fewest_11 : decode cX11_fewest 11 = .ok (.invokestatic 204, 3) := by decide +kernel
theorem dX11_fewest_14 : decode cX11_fewest 14 = .ok (.ifCond .ne 5, 3) := by decide +kernel
theorem dX11_fewest_17 : decode cX11_fewest 17 = .ok (.iconst (-1), 1) := by decide +kernel
theorem dX11_fewest_18 : decode cX11_fewest 18 = .ok (.ireturn, 1) := by decide +kernel
theorem dX11_fewest_19 : decode cX11_fewest 19 = .ok (.aload_n 0, 1) := by decide +kernel
theorem dX11_fewest_20 : decode cX11_fewest 20 = .ok (.getfield 40, 3) := by decide +kernel
theorem dX11_fewest_23 : decode cX11_fewest 23 = .ok (.aload_n 0, 1) := by decide +kernel
theorem dX11_fewest_24 : decode cX11_fewest 24 = .ok (.getfield 19, 3) := by decide +kernel
theorem dX11_fewest_27 : decode cX11_fewest 27 = .ok (.invokevirtual 207, 3) := by decide +kernel
theorem dX11_fewest_30 : decode cX11_fewest 30 = .ok (.aload_n 0, 1) := by decide +kernel
theorem dX11_fewest_31 : decode cX11_fewest 31 = .ok (.getfield 40, 3) := by decide +kernel
theorem dX11_fewest_34 : decode cX11_fewest 34 = .ok (.iload_n 1, 1) := by decide +kernel
theorem dX11_fewest_35 : decode cX11_fewest 35 = .ok (.invokevirtual 219, 3) := by decide +kernel
theorem dX11_fewest_38 : decode cX11_fewest 38 = .ok (.istore_n 3, 1) := by decide +kernel
theorem dX11_fewest_39 : decode cX11_fewest 39 = .ok (.iload_n 3, 1) := by decide +kernel
theorem dX11_fewest_40 : decode cX11_fewest 40 = .ok (.ifCond .ge 6, 3) := by decide +kernel
theorem dX11_fewest_43 : decode cX11_fewest 43 = .ok (.bipush (-9), 2) := by decide +kernel
theorem dX11_fewest_45 : decode cX11_fewest 45 = .ok (.ireturn, 1) := by decide +kernel
theorem dX11_fewest_46 : decode cX11_fewest 46 = .ok (.iload_n 2, 1) := by decide +kernel
theorem dX11_fewest_47 : decode cX11_fewest 47 = .ok (.ifCond .ne 14, 3) := by decide +kernel
theorem dX11_fewest_50 : decode cX11_fewest 50 = .ok (.aload_n 0, 1) := by decide +kernel
theorem dX11_fewest_51 : decode cX11_fewest 51 = .ok (.getfield 40, 3) := by decide +kernel
theorem dX11_fewest_54 : decode cX11_fewest 54 = .ok (.iload_n 3, 1) := by decide +kernel
theorem dX11_fewest_55 : decode cX11_fewest 55 = .ok (.invokevirtual 222, 3) := by decide +kernel
theorem dX11_fewest_58 : decode cX11_fewest 58 = .ok (.goto 11, 3) := by decide +kernel
theorem dX11_fewest_61 : decode cX11_fewest 61 = .ok (.aload_n 0, 1) := by decide +kernel
theorem dX11_fewest_62 : decode cX11_fewest 62 = .ok (.getfield 40, 3) := by decide +kernel
theorem dX11_fewest_65 : decode cX11_fewest 65 = .ok (.iload_n 3, 1) := by decide +kernel
theorem dX11_fewest_66 : decode cX11_fewest 66 = .ok (.invokevirtual 216, 3) := by decide +kernel
theorem dX11_fewest_69 : decode cX11_fewest 69 = .ok (.ireturn, 1) := by decide +kernel
theorem dX11_mind_0 : decode cX11_mind 0 = .ok (.iload_n 1, 1) := by decide +kernel
theorem dX11_mind_1 : decode cX11_mind 1 = .ok (.invokestatic 225, 3) := by decide +kernel
theorem dX11_mind_4 : decode cX11_mind 4 = .ok (.ifCond .eq 10, 3) := by decide +kernel
theorem dX11_mind_7 : decode cX11_mind 7 = .ok (.iload_n 2, 1) := by decide +kernel
theorem dX11_mind_8 : decode cX11_mind 8 = .ok (.invokestatic 204, 3) := by decide +kernel
theorem dX11_mind_11 : decode cX11_mind 11 = .ok (.ifCond .ne 5, 3) := by decide +kernel
theorem dX11_mind_14 : decode cX11_mind 14 = .ok (.iconst (-1), 1) := by decide +kernel
theorem dX11_mind_15 : decode cX11_mind 15 = .ok (.ireturn, 1) := by decide +kernel
theorem dX11_mind_16 : decode cX11_mind 16 = .ok (.aload_n 0, 1) := by decide +kernel
theorem dX11_mind_17 : decode cX11_mind 17 = .ok (.getfield 40, 3) := by decide +kernel
theorem dX11_mind_20 : decode cX11_mind 20 = .ok (.aload_n 0, 1) := by decide +kernel
theorem dX11_mind_21 : decode cX11_mind 21 = .ok (.getfield 19, 3) := by decide +kernel
theorem dX11_mind_24 : decode cX11_mind 24 = .ok (.invokevirtual 207, 3) := by decide +kernel
theorem dX11_mind_27 : decode cX11_mind 27 = .ok (.aload_n 0, 1) := by decide +kernel
theorem dX11_mind_28 : decode cX11_mind 28 = .ok (.getfield 40, 3) := by decide +kernel
theorem dX11_mind_31 : decode cX11_mind 31 = .ok (.iload_n 1, 1) := by decide +kernel
theorem dX11_mind_32 : decode cX11_mind 32 = .ok (.invokevirtual 228, 3) := by decide +kernel
theorem dX11_mind_35 : decode cX11_mind 35 = .ok (.istore_n 3, 1) := by decide +kernel
theorem dX11_mind_36 : decode cX11_mind 36 = .ok (.iload_n 3, 1) := by decide +kernel
theorem dX11_mind_37 : decode cX11_mind 37 = .ok (.ifCond .ge 6, 3) := by decide +kernel
theorem dX11_mind_40 : decode cX11_mind 40 = .ok (.bipush (-9), 2) := by decide +kernel
theorem dX11_mind_42 : decode cX11_mind 42 = .ok (.ireturn, 1) := by decide +kernel
theorem dX11_mind_43 : decode cX11_mind 43 = .ok (.iload_n 2, 1) := by decide +kernel
theorem dX11_mind_44 : decode cX11_mind 44 = .ok (.ifCond .ne 15, 3) := by decide +kernel
theorem dX11_mind_47 : decode cX11_mind 47 = .ok (.aload_n 0, 1) := by decide +kernel
theorem dX11_mind_48 : decode cX11_mind 48 = .ok (.getfield 40, 3) := by decide +kernel
theorem dX11_mind_51 : decode cX11_mind 51 = .ok (.iload_n 3, 1) := by decide +kernel
theorem dX11_mind_52 : decode cX11_mind 52 = .ok (.iload_n 1, 1) := by decide +kernel
theorem dX11_mind_53 : decode cX11_mind 53 = .ok (.invokevirtual 231, 3) := by decide +kernel
theorem dX11_mind_56 : decode cX11_mind 56 = .ok (.goto 11, 3) := by decide +kernel
theorem dX11_mind_59 : decode cX11_mind 59 = .ok (.aload_n 0, 1) := by decide +kernel
theorem dX11_mind_60 : decode cX11_mind 60 = .ok (.getfield 40, 3) := by decide +kernel
theorem dX11_mind_63 : decode cX11_mind 63 = .ok (.iload_n 3, 1) := by decide +kernel
theorem dX11_mind_64 : decode cX11_mind 64 = .ok (.invokevirtual 216, 3) := by decide +kernel
theorem dX11_mind_67 : decode cX11_mind 67 = .ok (.ireturn, 1) := by decide +kernel
theorem dX11_bars_0 : decode cX11_bars 0 = .ok (.iload_n 1, 1) := by decide +kernel
theorem dX11_bars_1 : decode cX11_bars 1 = .ok (.invokestatic 225, 3) := by decide +kernel
theorem dX11_bars_4 : decode cX11_bars 4 = .ok (.ifCond .ne 5, 3) := by decide +kernel
theorem dX11_bars_7 : decode cX11_bars 7 = .ok (.iconst (-1), 1) := by decide +kernel
theorem dX11_bars_8 : decode cX11_bars 8 = .ok (.ireturn, 1) := by decide +kernel
theorem dX11_bars_9 : decode cX11_bars 9 = .ok (.aload_n 0, 1) := by decide +kernel
theorem dX11_bars_10 : decode cX11_bars 10 = .ok (.getfield 40, 3) := by decide +kernel
theorem dX11_bars_13 : decode cX11_bars 13 = .ok (.aload_n 0, 1) := by decide +kernel
theorem dX11_bars_14 : decode cX11_bars 14 = .ok (.getfield 19, 3) := by decide +kernel
theorem dX11_bars_17 : decode cX11_bars 17 = .ok (.invokevirtual 207, 3) := by decide +kernel
theorem dX11_bars_20 : decode cX11_bars 20 = .ok (.aload_n 0, 1) := by decide +kernel
theorem dX11_bars_21 : decode cX11_bars 21 = .ok (.getfield 40, 3) := by decide +kernel
theorem dX11_bars_24 : decode cX11_bars 24 = .ok (.iload_n 1, 1) := by decide +kernel
theorem dX11_bars_25 : decode cX11_bars 25 = .ok (.invokevirtual 235, 3) := by decide +kernel
theorem dX11_bars_28 : decode cX11_bars 28 = .ok (.invokestatic 238, 3) := by decide +kernel
theorem dX11_bars_31 : decode cX11_bars 31 = .ok (.ireturn, 1) := by decide +kernel
theorem dX11_longer_0 : decode cX11_longer 0 = .ok (.aload_n 0, 1) := by decide +kernel
theorem dX11_longer_1 : decode cX11_longer 1 = .ok (.getfield 40, 3) := by decide +kernel
theorem dX11_longer_4 : decode cX11_longer 4 = .ok (.aload_n 0, 1) := by decide +kernel
theorem dX11_longer_5 : decode cX11_longer 5 = .ok (.getfield 19, 3) := by decide +kernel
theorem dX11_longer_8 : decode cX11_longer 8 = .ok (.invokevirtual 241, 3) := by decide +kernel
theorem dX11_longer_11 : decode cX11_longer 11 = .ok (.istore_n 1, 1) := by decide +kernel
theorem dX11_longer_12 : decode cX11_longer 12 = .ok (.aload_n 0, 1) := by decide +kernel
theorem dX11_longer_13 : decode cX11_longer 13 = .ok (.getfield 40, 3) := by decide +kernel
theorem dX11_longer_16 : decode cX11_longer 16 = .ok (.aload_n 0, 1) := by decide +kernel
theorem dX11_longer_17 : decode cX11_longer 17 = .ok (.getfield 19, 3) := by decide +kernel
theorem dX11_longer_20 : decode cX11_longer 20 = .ok (.invokevirtual 207, 3) := by decide +kernel
theorem dX11_longer_23 : decode cX11_longer 23 = .ok (.iload_n 1, 1) := by decide +kernel
theorem dX11_longer_24 : decode cX11_longer 24 = .ok (.aload_n 0, 1) := by decide +kernel
theorem dX11_longer_25 : decode cX11_longer 25 = .ok (.getfield 40, 3) := by decide +kernel
theorem dX11_longer_28 : decode cX11_longer 28 = .ok (.aload_n 0, 1) := by decide +kernel
theorem dX11_longer_29 : decode cX11_longer 29 = .ok (.getfield 40, 3) := by decide +kernel
theorem dX11_longer_32 : decode cX11_longer 32 = .ok (.invokevirtual 210, 3) := by decide +kernel
theorem dX11_longer_35 : decode cX11_longer 35 = .ok (.invokevirtual 213, 3) := by decide +kernel
theorem dX11_longer_38 : decode cX11_longer 38 = .ok (.isub, 1) := by decide +kernel
theorem dX11_longer_39 : decode cX11_longer 39 = .ok (.ireturn, 1) := by decide +kernel
theorem dX11_heard_0 : decode cX11_heard 0 = .ok (.iload_n 1, 1) := by decide +kernel
theorem dX11_heard_1 : decode cX11_heard 1 = .ok (.invokestatic 225, 3) := by decide +kernel
theorem dX11_heard_4 : decode cX11_heard 4 = .ok (.ifCond .eq 13, 3) := by decide +kernel
theorem dX11_heard_7 : decode cX11_heard 7 = .ok (.iload_n 2, 1) := by decide +kernel
theorem dX11_heard_8 : decode cX11_heard 8 = .ok (.ifCond .lt 9, 3) := by decide +kernel
theorem dX11_heard_11 : decode cX11_heard 11 = .ok (.iload_n 2, 1) := by decide +kernel
theorem dX11_heard_12 : decode cX11_heard 12 = .ok (.bipush 6, 2) := by decide +kernel
theorem dX11_heard_14 : decode cX11_heard 14 = .ok (.if_icmp .le 5, 3) := by decide +kernel
theorem dX11_heard_17 : decode cX11_heard 17 = .ok (.iconst (-1), 1) := by decide +kernel
theorem dX11_heard_18 : decode cX11_heard 18 = .ok (.ireturn, 1) := by decide +kernel
theorem dX11_heard_19 : decode cX11_heard 19 = .ok (.aload_n 0, 1) := by decide +kernel
theorem dX11_heard_20 : decode cX11_heard 20 = .ok (.getfield 244, 3) := by decide +kernel
theorem dX11_heard_23 : decode cX11_heard 23 = .ok (.ifCond .lt 12, 3) := by decide +kernel
theorem dX11_heard_26 : decode cX11_heard 26 = .ok (.aload_n 0, 1) := by decide +kernel
theorem dX11_heard_27 : decode cX11_heard 27 = .ok (.getfield 244, 3) := by decide +kernel
theorem dX11_heard_30 : decode cX11_heard 30 = .ok (.bipush 6, 2) := by decide +kernel
theorem dX11_heard_32 : decode cX11_heard 32 = .ok (.if_icmp .lt 6, 3) := by decide +kernel
theorem dX11_heard_35 : decode cX11_heard 35 = .ok (.bipush (-3), 2) := by decide +kernel
theorem dX11_heard_37 : decode cX11_heard 37 = .ok (.ireturn, 1) := by decide +kernel
theorem dX11_heard_38 : decode cX11_heard 38 = .ok (.aload_n 0, 1) := by decide +kernel
theorem dX11_heard_39 : decode cX11_heard 39 = .ok (.getfield 44, 3) := by decide +kernel
theorem dX11_heard_42 : decode cX11_heard 42 = .ok (.aload_n 0, 1) := by decide +kernel
theorem dX11_heard_43 : decode cX11_heard 43 = .ok (.getfield 244, 3) := by decide +kernel
theorem dX11_heard_46 : decode cX11_heard 46 = .ok (.iload_n 1, 1) := by decide +kernel
theorem dX11_heard_47 : decode cX11_heard 47 = .ok (.iastore, 1) := by decide +kernel
theorem dX11_heard_48 : decode cX11_heard 48 = .ok (.aload_n 0, 1) := by decide +kernel
theorem dX11_heard_49 : decode cX11_heard 49 = .ok (.getfield 48, 3) := by decide +kernel
theorem dX11_heard_52 : decode cX11_heard 52 = .ok (.aload_n 0, 1) := by decide +kernel
theorem dX11_heard_53 : decode cX11_heard 53 = .ok (.getfield 244, 3) := by decide +kernel
theorem dX11_heard_56 : decode cX11_heard 56 = .ok (.iload_n 2, 1) := by decide +kernel
theorem dX11_heard_57 : decode cX11_heard 57 = .ok (.iastore, 1) := by decide +kernel
theorem dX11_heard_58 : decode cX11_heard 58 = .ok (.aload_n 0, 1) := by decide +kernel
theorem dX11_heard_59 : decode cX11_heard 59 = .ok (.dup, 1) := by decide +kernel
theorem dX11_heard_60 : decode cX11_heard 60 = .ok (.getfield 244, 3) := by decide +kernel
theorem dX11_heard_63 : decode cX11_heard 63 = .ok (.iconst 1, 1) := by decide +kernel
theorem dX11_heard_64 : decode cX11_heard 64 = .ok (.iadd, 1) := by decide +kernel
theorem dX11_heard_65 : decode cX11_heard 65 = .ok (.putfield 244, 3) := by decide +kernel
theorem dX11_heard_68 : decode cX11_heard 68 = .ok (.aload_n 0, 1) := by decide +kernel
theorem dX11_heard_69 : decode cX11_heard 69 = .ok (.getfield 244, 3) := by decide +kernel
theorem dX11_heard_72 : decode cX11_heard 72 = .ok (.ireturn, 1) := by decide +kernel
theorem dX11_forget_0 : decode cX11_forget 0 = .ok (.aload_n 0, 1) := by decide +kernel
theorem dX11_forget_1 : decode cX11_forget 1 = .ok (.getfield 244, 3) := by decide +kernel
theorem dX11_forget_4 : decode cX11_forget 4 = .ok (.istore_n 1, 1) := by decide +kernel
theorem dX11_forget_5 : decode cX11_forget 5 = .ok (.aload_n 0, 1) := by decide +kernel
theorem dX11_forget_6 : decode cX11_forget 6 = .ok (.iconst 0, 1) := by decide +kernel
theorem dX11_forget_7 : decode cX11_forget 7 = .ok (.putfield 244, 3) := by decide +kernel
theorem dX11_forget_10 : decode cX11_forget 10 = .ok (.iload_n 1, 1) := by decide +kernel
theorem dX11_forget_11 : decode cX11_forget 11 = .ok (.ireturn, 1) := by decide +kernel
theorem dX11_orders_0 : decode cX11_orders 0 = .ok (.iload_n 1, 1) := by decide +kernel
theorem dX11_orders_1 : decode cX11_orders 1 = .ok (.invokestatic 204, 3) := by decide +kernel
theorem dX11_orders_4 : decode cX11_orders 4 = .ok (.ifCond .ne 5, 3) := by decide +kernel
theorem dX11_orders_7 : decode cX11_orders 7 = .ok (.iconst (-1), 1) := by decide +kernel
theorem dX11_orders_8 : decode cX11_orders 8 = .ok (.ireturn, 1) := by decide +kernel
theorem dX11_orders_9 : decode cX11_orders 9 = .ok (.aload_n 0, 1) := by decide +kernel
theorem dX11_orders_10 : decode cX11_orders 10 = .ok (.getfield 40, 3) := by decide +kernel
theorem dX11_orders_13 : decode cX11_orders 13 = .ok (.aload_n 0, 1) := by decide +kernel
theorem dX11_orders_14 : decode cX11_orders 14 = .ok (.getfield 19, 3) := by decide +kernel
theorem dX11_orders_17 : decode cX11_orders 17 = .ok (.invokevirtual 207, 3) := by decide +kernel
theorem dX11_orders_20 : decode cX11_orders 20 = .ok (.iconst 0, 1) := by decide +kernel
theorem dX11_orders_21 : decode cX11_orders 21 = .ok (.istore_n 2, 1) := by decide +kernel
theorem dX11_orders_22 : decode cX11_orders 22 = .ok (.iconst 0, 1) := by decide +kernel
theorem dX11_orders_23 : decode cX11_orders 23 = .ok (.istore_n 3, 1) := by decide +kernel
theorem dX11_orders_24 : decode cX11_orders 24 = .ok (.aload_n 0, 1) := by decide +kernel
theorem dX11_orders_25 : decode cX11_orders 25 = .ok (.getfield 40, 3) := by decide +kernel
theorem dX11_orders_28 : decode cX11_orders 28 = .ok (.getfield 247, 3) := by decide +kernel
theorem dX11_orders_31 : decode cX11_orders 31 = .ok (.istore 4, 2) := by decide +kernel
theorem dX11_orders_33 : decode cX11_orders 33 = .ok (.iload 4, 2) := by decide +kernel
theorem dX11_orders_35 : decode cX11_orders 35 = .ok (.aload_n 0, 1) := by decide +kernel
theorem dX11_orders_36 : decode cX11_orders 36 = .ok (.getfield 40, 3) := by decide +kernel
theorem dX11_orders_39 : decode cX11_orders 39 = .ok (.getfield 250, 3) := by decide +kernel
theorem dX11_orders_42 : decode cX11_orders 42 = .ok (.if_icmp .ge 39, 3) := by decide +kernel
theorem dX11_orders_45 : decode cX11_orders 45 = .ok (.aload_n 0, 1) := by decide +kernel
theorem dX11_orders_46 : decode cX11_orders 46 = .ok (.iload 4, 2) := by decide +kernel
theorem dX11_orders_48 : decode cX11_orders 48 = .ok (.invokevirtual 253, 3) := by decide +kernel
theorem dX11_orders_51 : decode cX11_orders 51 = .ok (.ifCond .eq 24, 3) := by decide +kernel
theorem dX11_orders_54 : decode cX11_orders 54 = .ok (.iload_n 2, 1) := by decide +kernel
theorem dX11_orders_55 : decode cX11_orders 55 = .ok (.ifCond .ne 15, 3) := by decide +kernel
theorem dX11_orders_58 : decode cX11_orders 58 = .ok (.aload_n 0, 1) := by decide +kernel
theorem dX11_orders_59 : decode cX11_orders 59 = .ok (.getfield 40, 3) := by decide +kernel
theorem dX11_orders_62 : decode cX11_orders 62 = .ok (.iload 4, 2) := by decide +kernel
theorem dX11_orders_64 : decode cX11_orders 64 = .ok (.invokevirtual 216, 3) := by decide +kernel
theorem dX11_orders_67 : decode cX11_orders 67 = .ok (.goto 4, 3) := by decide +kernel
theorem dX11_orders_70 : decode cX11_orders 70 = .ok (.iload_n 3, 1) := by decide +kernel
theorem dX11_orders_71 : decode cX11_orders 71 = .ok (.istore_n 3, 1) := by decide +kernel
theorem dX11_orders_72 : decode cX11_orders 72 = .ok (.iinc 2 1, 3) := by decide +kernel
theorem dX11_orders_75 : decode cX11_orders 75 = .ok (.iinc 4 1, 3) := by decide +kernel
theorem dX11_orders_78 : decode cX11_orders 78 = .ok (.goto (-45), 3) := by decide +kernel
theorem dX11_orders_81 : decode cX11_orders 81 = .ok (.iload_n 1, 1) := by decide +kernel
theorem dX11_orders_82 : decode cX11_orders 82 = .ok (.ifCond .ne 7, 3) := by decide +kernel
theorem dX11_orders_85 : decode cX11_orders 85 = .ok (.iload_n 2, 1) := by decide +kernel
theorem dX11_orders_86 : decode cX11_orders 86 = .ok (.goto 4, 3) := by decide +kernel
theorem dX11_orders_89 : decode cX11_orders 89 = .ok (.iload_n 3, 1) := by decide +kernel
theorem dX11_orders_90 : decode cX11_orders 90 = .ok (.ireturn, 1) := by decide +kernel
theorem dX11_surely_0 : decode cX11_surely 0 = .ok (.iload_n 1, 1) := by decide +kernel
theorem dX11_surely_1 : decode cX11_surely 1 = .ok (.invokestatic 225, 3) := by decide +kernel
theorem dX11_surely_4 : decode cX11_surely 4 = .ok (.ifCond .ne 5, 3) := by decide +kernel
theorem dX11_surely_7 : decode cX11_surely 7 = .ok (.iconst (-1), 1) := by decide +kernel
theorem dX11_surely_8 : decode cX11_surely 8 = .ok (.ireturn, 1) := by decide +kernel
theorem dX11_surely_9 : decode cX11_surely 9 = .ok (.aload_n 0, 1) := by decide +kernel
theorem dX11_surely_10 : decode cX11_surely 10 = .ok (.getfield 40, 3) := by decide +kernel
theorem dX11_surely_13 : decode cX11_surely 13 = .ok (.aload_n 0, 1) := by decide +kernel
theorem dX11_surely_14 : decode cX11_surely 14 = .ok (.getfield 19, 3) := by decide +kernel
theorem dX11_surely_17 : decode cX11_surely 17 = .ok (.invokevirtual 207, 3) := by decide +kernel
theorem dX11_surely_20 : decode cX11_surely 20 = .ok (.bipush (-9), 2) := by decide +kernel
theorem dX11_surely_22 : decode cX11_surely 22 = .ok (.istore_n 2, 1) := by decide +kernel
theorem dX11_surely_23 : decode cX11_surely 23 = .ok (.aload_n 0, 1) := by decide +kernel
theorem dX11_surely_24 : decode cX11_surely 24 = .ok (.getfield 40, 3) := by decide +kernel
theorem dX11_surely_27 : decode cX11_surely 27 = .ok (.getfield 247, 3) := by decide +kernel
theorem dX11_surely_30 : decode cX11_surely 30 = .ok (.istore_n 3, 1) := by decide +kernel
theorem dX11_surely_31 : decode cX11_surely 31 = .ok (.iload_n 3, 1) := by decide +kernel
theorem dX11_surely_32 : decode cX11_surely 32 = .ok (.aload_n 0, 1) := by decide +kernel
theorem dX11_surely_33 : decode cX11_surely 33 = .ok (.getfield 40, 3) := by decide +kernel
theorem dX11_surely_36 : decode cX11_surely 36 = .ok (.getfield 250, 3) := by decide +kernel
theorem dX11_surely_39 : decode cX11_surely 39 = .ok (.if_icmp .ge 56, 3) := by decide +kernel
theorem dX11_surely_42 : decode cX11_surely 42 = .ok (.aload_n 0, 1) := by decide +kernel
theorem dX11_surely_43 : decode cX11_surely 43 = .ok (.getfield 40, 3) := by decide +kernel
theorem dX11_surely_46 : decode cX11_surely 46 = .ok (.iload_n 3, 1) := by decide +kernel
theorem dX11_surely_47 : decode cX11_surely 47 = .ok (.invokevirtual 213, 3) := by decide +kernel
theorem dX11_surely_50 : decode cX11_surely 50 = .ok (.iload_n 1, 1) := by decide +kernel
theorem dX11_surely_51 : decode cX11_surely 51 = .ok (.if_icmp .lt 38, 3) := by decide +kernel
theorem dX11_surely_54 : decode cX11_surely 54 = .ok (.aload_n 0, 1) := by decide +kernel
theorem dX11_surely_55 : decode cX11_surely 55 = .ok (.iload_n 3, 1) := by decide +kernel
theorem dX11_surely_56 : decode cX11_surely 56 = .ok (.invokevirtual 253, 3) := by decide +kernel
theorem dX11_surely_59 : decode cX11_surely 59 = .ok (.ifCond .eq 30, 3) := by decide +kernel
theorem dX11_surely_62 : decode cX11_surely 62 = .ok (.aload_n 0, 1) := by decide +kernel
theorem dX11_surely_63 : decode cX11_surely 63 = .ok (.getfield 40, 3) := by decide +kernel
theorem dX11_surely_66 : decode cX11_surely 66 = .ok (.iload_n 3, 1) := by decide +kernel
theorem dX11_surely_67 : decode cX11_surely 67 = .ok (.iload_n 1, 1) := by decide +kernel
theorem dX11_surely_68 : decode cX11_surely 68 = .ok (.invokevirtual 256, 3) := by decide +kernel
theorem dX11_surely_71 : decode cX11_surely 71 = .ok (.istore 4, 2) := by decide +kernel
theorem dX11_surely_73 : decode cX11_surely 73 = .ok (.iload_n 2, 1) := by decide +kernel
theorem dX11_surely_74 : decode cX11_surely 74 = .ok (.bipush (-9), 2) := by decide +kernel
theorem dX11_surely_76 : decode cX11_surely 76 = .ok (.if_icmp .ne 8, 3) := by decide +kernel
theorem dX11_surely_79 : decode cX11_surely 79 = .ok (.iload 4, 2) := by decide +kernel
theorem dX11_surely_81 : decode cX11_surely 81 = .ok (.goto 7, 3) := by decide +kernel
theorem dX11_surely_84 : decode cX11_surely 84 = .ok (.iload_n 2, 1) := by decide +kernel
theorem dX11_surely_85 : decode cX11_surely 85 = .ok (.iload 4, 2) := by decide +kernel
theorem dX11_surely_87 : decode cX11_surely 87 = .ok (.iand, 1) := by decide +kernel
theorem dX11_surely_88 : decode cX11_surely 88 = .ok (.istore_n 2, 1) := by decide +kernel
theorem dX11_surely_89 : decode cX11_surely 89 = .ok (.iinc 3 1, 3) := by decide +kernel
theorem dX11_surely_92 : decode cX11_surely 92 = .ok (.goto (-61), 3) := by decide +kernel
theorem dX11_surely_95 : decode cX11_surely 95 = .ok (.iload_n 2, 1) := by decide +kernel
theorem dX11_surely_96 : decode cX11_surely 96 = .ok (.ireturn, 1) := by decide +kernel
theorem dX11_odds_0 : decode cX11_odds 0 = .ok (.iload_n 1, 1) := by decide +kernel
theorem dX11_odds_1 : decode cX11_odds 1 = .ok (.ifCond .lt 26, 3) := by decide +kernel
theorem dX11_odds_4 : decode cX11_odds 4 = .ok (.iload_n 1, 1) := by decide +kernel
theorem dX11_odds_5 : decode cX11_odds 5 = .ok (.bipush 10, 2) := by decide +kernel
theorem dX11_odds_7 : decode cX11_odds 7 = .ok (.if_icmp .gt 20, 3) := by decide +kernel
theorem dX11_odds_10 : decode cX11_odds 10 = .ok (.iload_n 2, 1) := by decide +kernel
theorem dX11_odds_11 : decode cX11_odds 11 = .ok (.ifCond .lt 16, 3) := by decide +kernel
theorem dX11_odds_14 : decode cX11_odds 14 = .ok (.iload_n 2, 1) := by decide +kernel
theorem dX11_odds_15 : decode cX11_odds 15 = .ok (.bipush 9, 2) := by decide +kernel
theorem dX11_odds_17 : decode cX11_odds 17 = .ok (.if_icmp .gt 10, 3) := by decide +kernel
theorem dX11_odds_20 : decode cX11_odds 20 = .ok (.iload_n 3, 1) := by decide +kernel
theorem dX11_odds_21 : decode cX11_odds 21 = .ok (.invokestatic 204, 3) := by decide +kernel
theorem dX11_odds_24 : decode cX11_odds 24 = .ok (.ifCond .ne 7, 3) := by decide +kernel
theorem dX11_odds_27 : decode cX11_odds 27 = .ok (.ldc2_w 259, 3) := by decide +kernel
theorem dX11_odds_30 : decode cX11_odds 30 = .ok (.lreturn, 1) := by decide +kernel
theorem dX11_odds_31 : decode cX11_odds 31 = .ok (.bipush 10, 2) := by decide +kernel
theorem dX11_odds_33 : decode cX11_odds 33 = .ok (.bipush 10, 2) := by decide +kernel
theorem dX11_odds_35 : decode cX11_odds 35 = .ok (.iload_n 1, 1) := by decide +kernel
theorem dX11_odds_36 : decode cX11_odds 36 = .ok (.isub, 1) := by decide +kernel
theorem dX11_odds_37 : decode cX11_odds 37 = .ok (.invokestatic 261, 3) := by decide +kernel
theorem dX11_odds_40 : decode cX11_odds 40 = .ok (.istore 4, 2) := by decide +kernel
theorem dX11_odds_42 : decode cX11_odds 42 = .ok (.iload_n 3, 1) := by decide +kernel
theorem dX11_odds_43 : decode cX11_odds 43 = .ok (.ifCond .ne 10, 3) := by decide +kernel
theorem dX11_odds_46 : decode cX11_odds 46 = .ok (.bipush 10, 2) := by decide +kernel
theorem dX11_odds_48 : decode cX11_odds 48 = .ok (.iload_n 1, 1) := by decide +kernel
theorem dX11_odds_49 : decode cX11_odds 49 = .ok (.isub, 1) := by decide +kernel
theorem dX11_odds_50 : decode cX11_odds 50 = .ok (.goto 5, 3) := by decide +kernel
theorem dX11_odds_53 : decode cX11_odds 53 = .ok (.bipush 10, 2) := by decide +kernel
theorem dX11_odds_55 : decode cX11_odds 55 = .ok (.iload 4, 2) := by decide +kernel
theorem dX11_odds_57 : decode cX11_odds 57 = .ok (.iconst 1, 1) := by decide +kernel
theorem dX11_odds_58 : decode cX11_odds 58 = .ok (.invokestatic 264, 3) := by decide +kernel
theorem dX11_odds_61 : decode cX11_odds 61 = .ok (.idiv, 1) := by decide +kernel
theorem dX11_odds_62 : decode cX11_odds 62 = .ok (.istore 5, 2) := by decide +kernel
theorem dX11_odds_64 : decode cX11_odds 64 = .ok (.lconst 1, 1) := by decide +kernel
theorem dX11_odds_65 : decode cX11_odds 65 = .ok (.lstore 6, 2) := by decide +kernel
theorem dX11_odds_67 : decode cX11_odds 67 = .ok (.iconst 0, 1) := by decide +kernel
theorem dX11_odds_68 : decode cX11_odds 68 = .ok (.istore 8, 2) := by decide +kernel
theorem dX11_odds_70 : decode cX11_odds 70 = .ok (.iload 8, 2) := by decide +kernel
theorem dX11_odds_72 : decode cX11_odds 72 = .ok (.iload_n 2, 1) := by decide +kernel
theorem dX11_odds_73 : decode cX11_odds 73 = .ok (.if_icmp .ge 17, 3) := by decide +kernel
theorem dX11_odds_76 : decode cX11_odds 76 = .ok (.lload 6, 2) := by decide +kernel
theorem dX11_odds_78 : decode cX11_odds 78 = .ok (.iload 5, 2) := by decide +kernel
theorem dX11_odds_80 : decode cX11_odds 80 = .ok (.i2l, 1) := by decide +kernel
theorem dX11_odds_81 : decode cX11_odds 81 = .ok (.lmul, 1) := by decide +kernel
theorem dX11_odds_82 : decode cX11_odds 82 = .ok (.lstore 6, 2) := by decide +kernel
theorem dX11_odds_84 : decode cX11_odds 84 = .ok (.iinc 8 1, 3) := by decide +kernel
theorem dX11_odds_87 : decode cX11_odds 87 = .ok (.goto (-17), 3) := by decide +kernel
theorem dX11_odds_90 : decode cX11_odds 90 = .ok (.lload 6, 2) := by decide +kernel
theorem dX11_odds_92 : decode cX11_odds 92 = .ok (.lreturn, 1) := by decide +kernel
theorem dX11_mark_0 : decode cX11_mark 0 = .ok (.iload_n 1, 1) := by decide +kernel
theorem dX11_mark_1 : decode cX11_mark 1 = .ok (.ifCond .lt 23, 3) := by decide +kernel
theorem dX11_mark_4 : decode cX11_mark 4 = .ok (.iload_n 1, 1) := by decide +kernel
theorem dX11_mark_5 : decode cX11_mark 5 = .ok (.aload_n 0, 1) := by decide +kernel
theorem dX11_mark_6 : decode cX11_mark 6 = .ok (.getfield 69, 3) := by decide +kernel
theorem dX11_mark_9 : decode cX11_mark 9 = .ok (.arraylength, 1) := by decide +kernel
theorem dX11_mark_10 : decode cX11_mark 10 = .ok (.if_icmp .ge 14, 3) := by decide +kernel
theorem dX11_mark_13 : decode cX11_mark 13 = .ok (.aload_n 0, 1) := by decide +kernel
theorem dX11_mark_14 : decode cX11_mark 14 = .ok (.getfield 19, 3) := by decide +kernel
theorem dX11_mark_17 : decode cX11_mark 17 = .ok (.iload_n 2, 1) := by decide +kernel
theorem dX11_mark_18 : decode cX11_mark 18 = .ok (.invokevirtual 99, 3) := by decide +kernel
theorem dX11_mark_21 : decode cX11_mark 21 = .ok (.ifCond .ne 7, 3) := by decide +kernel
theorem dX11_mark_24 : decode cX11_mark 24 = .ok (.ldc_w 269, 3) := by decide +kernel
theorem dX11_mark_27 : decode cX11_mark 27 = .ok (.ireturn, 1) := by decide +kernel
theorem dX11_mark_28 : decode cX11_mark 28 = .ok (.aload_n 0, 1) := by decide +kernel
theorem dX11_mark_29 : decode cX11_mark 29 = .ok (.getfield 69, 3) := by decide +kernel
theorem dX11_mark_32 : decode cX11_mark 32 = .ok (.iload_n 1, 1) := by decide +kernel
theorem dX11_mark_33 : decode cX11_mark 33 = .ok (.aaload, 1) := by decide +kernel
theorem dX11_mark_34 : decode cX11_mark 34 = .ok (.aload_n 0, 1) := by decide +kernel
theorem dX11_mark_35 : decode cX11_mark 35 = .ok (.getfield 19, 3) := by decide +kernel
theorem dX11_mark_38 : decode cX11_mark 38 = .ok (.aload_n 0, 1) := by decide +kernel
theorem dX11_mark_39 : decode cX11_mark 39 = .ok (.getfield 29, 3) := by decide +kernel
theorem dX11_mark_42 : decode cX11_mark 42 = .ok (.getfield 102, 3) := by decide +kernel
theorem dX11_mark_45 : decode cX11_mark 45 = .ok (.iload_n 2, 1) := by decide +kernel
theorem dX11_mark_46 : decode cX11_mark 46 = .ok (.invokevirtual 270, 3) := by decide +kernel
theorem dX11_mark_49 : decode cX11_mark 49 = .ok (.ireturn, 1) := by decide +kernel
theorem dX11_keep_0 : decode cX11_keep 0 = .ok (.iload_n 1, 1) := by decide +kernel
theorem dX11_keep_1 : decode cX11_keep 1 = .ok (.invokestatic 274, 3) := by decide +kernel
theorem dX11_keep_4 : decode cX11_keep 4 = .ok (.ifCond .ne 5, 3) := by decide +kernel
theorem dX11_keep_7 : decode cX11_keep 7 = .ok (.iconst (-1), 1) := by decide +kernel
theorem dX11_keep_8 : decode cX11_keep 8 = .ok (.ireturn, 1) := by decide +kernel
theorem dX11_keep_9 : decode cX11_keep 9 = .ok (.aload_n 0, 1) := by decide +kernel
theorem dX11_keep_10 : decode cX11_keep 10 = .ok (.getfield 33, 3) := by decide +kernel
theorem dX11_keep_13 : decode cX11_keep 13 = .ok (.iload_n 1, 1) := by decide +kernel
theorem dX11_keep_14 : decode cX11_keep 14 = .ok (.aaload, 1) := by decide +kernel
theorem dX11_keep_15 : decode cX11_keep 15 = .ok (.aload_n 0, 1) := by decide +kernel
theorem dX11_keep_16 : decode cX11_keep 16 = .ok (.getfield 29, 3) := by decide +kernel
theorem dX11_keep_19 : decode cX11_keep 19 = .ok (.invokevirtual 277, 3) := by decide +kernel
theorem dX11_keep_22 : decode cX11_keep 22 = .ok (.aload_n 0, 1) := by decide +kernel
theorem dX11_keep_23 : decode cX11_keep 23 = .ok (.dup, 1) := by decide +kernel
theorem dX11_keep_24 : decode cX11_keep 24 = .ok (.getfield 280, 3) := by decide +kernel
theorem dX11_keep_27 : decode cX11_keep 27 = .ok (.iconst 1, 1) := by decide +kernel
theorem dX11_keep_28 : decode cX11_keep 28 = .ok (.iload_n 1, 1) := by decide +kernel
theorem dX11_keep_29 : decode cX11_keep 29 = .ok (.ishl, 1) := by decide +kernel
theorem dX11_keep_30 : decode cX11_keep 30 = .ok (.ior, 1) := by decide +kernel
theorem dX11_keep_31 : decode cX11_keep 31 = .ok (.putfield 280, 3) := by decide +kernel
theorem dX11_keep_34 : decode cX11_keep 34 = .ok (.aload_n 0, 1) := by decide +kernel
theorem dX11_keep_35 : decode cX11_keep 35 = .ok (.getfield 29, 3) := by decide +kernel
theorem dX11_keep_38 : decode cX11_keep 38 = .ok (.getfield 102, 3) := by decide +kernel
theorem dX11_keep_41 : decode cX11_keep 41 = .ok (.getfield 174, 3) := by decide +kernel
theorem dX11_keep_44 : decode cX11_keep 44 = .ok (.ireturn, 1) := by decide +kernel
theorem dX11_back_0 : decode cX11_back 0 = .ok (.iload_n 1, 1) := by decide +kernel
theorem dX11_back_1 : decode cX11_back 1 = .ok (.invokestatic 274, 3) := by decide +kernel
theorem dX11_back_4 : decode cX11_back 4 = .ok (.ifCond .ne 5, 3) := by decide +kernel
theorem dX11_back_7 : decode cX11_back 7 = .ok (.iconst (-1), 1) := by decide +kernel
theorem dX11_back_8 : decode cX11_back 8 = .ok (.ireturn, 1) := by decide +kernel
theorem dX11_back_9 : decode cX11_back 9 = .ok (.aload_n 0, 1) := by decide +kernel
theorem dX11_back_10 : decode cX11_back 10 = .ok (.getfield 280, 3) := by decide +kernel
theorem dX11_back_13 : decode cX11_back 13 = .ok (.iload_n 1, 1) := by decide +kernel
theorem dX11_back_14 : decode cX11_back 14 = .ok (.ishr, 1) := by decide +kernel
theorem dX11_back_15 : decode cX11_back 15 = .ok (.iconst 1, 1) := by decide +kernel
theorem dX11_back_16 : decode cX11_back 16 = .ok (.iand, 1) := by decide +kernel
theorem dX11_back_17 : decode cX11_back 17 = .ok (.ifCond .ne 6, 3) := by decide +kernel
theorem dX11_back_20 : decode cX11_back 20 = .ok (.bipush (-2), 2) := by decide +kernel
theorem dX11_back_22 : decode cX11_back 22 = .ok (.ireturn, 1) := by decide +kernel
theorem dX11_back_23 : decode cX11_back 23 = .ok (.aload_n 0, 1) := by decide +kernel
theorem dX11_back_24 : decode cX11_back 24 = .ok (.getfield 29, 3) := by decide +kernel
theorem dX11_back_27 : decode cX11_back 27 = .ok (.aload_n 0, 1) := by decide +kernel
theorem dX11_back_28 : decode cX11_back 28 = .ok (.getfield 33, 3) := by decide +kernel
theorem dX11_back_31 : decode cX11_back 31 = .ok (.iload_n 1, 1) := by decide +kernel
theorem dX11_back_32 : decode cX11_back 32 = .ok (.aaload, 1) := by decide +kernel
theorem dX11_back_33 : decode cX11_back 33 = .ok (.invokevirtual 277, 3) := by decide +kernel
theorem dX11_back_36 : decode cX11_back 36 = .ok (.aload_n 0, 1) := by decide +kernel
theorem dX11_back_37 : decode cX11_back 37 = .ok (.getfield 29, 3) := by decide +kernel
theorem dX11_back_40 : decode cX11_back 40 = .ok (.getfield 102, 3) := by decide +kernel
theorem dX11_back_43 : decode cX11_back 43 = .ok (.getfield 174, 3) := by decide +kernel
theorem dX11_back_46 : decode cX11_back 46 = .ok (.ireturn, 1) := by decide +kernel
theorem dX11_count_0 : decode cX11_count 0 = .ok (.iload_n 1, 1) := by decide +kernel
theorem dX11_count_1 : decode cX11_count 1 = .ok (.tableswitch 96 0 6 #[43, 51, 59, 67, 75, 80, 88], 43) := by decide +kernel
theorem dX11_count_44 : decode cX11_count 44 = .ok (.aload_n 0, 1) := by decide +kernel
theorem dX11_count_45 : decode cX11_count 45 = .ok (.getfield 19, 3) := by decide +kernel
theorem dX11_count_48 : decode cX11_count 48 = .ok (.getfield 194, 3) := by decide +kernel
theorem dX11_count_51 : decode cX11_count 51 = .ok (.ireturn, 1) := by decide +kernel
theorem dX11_count_52 : decode cX11_count 52 = .ok (.aload_n 0, 1) := by decide +kernel
theorem dX11_count_53 : decode cX11_count 53 = .ok (.getfield 19, 3) := by decide +kernel
theorem dX11_count_56 : decode cX11_count 56 = .ok (.getfield 283, 3) := by decide +kernel
theorem dX11_count_59 : decode cX11_count 59 = .ok (.ireturn, 1) := by decide +kernel
theorem dX11_count_60 : decode cX11_count 60 = .ok (.aload_n 0, 1) := by decide +kernel
theorem dX11_count_61 : decode cX11_count 61 = .ok (.getfield 19, 3) := by decide +kernel
theorem dX11_count_64 : decode cX11_count 64 = .ok (.getfield 286, 3) := by decide +kernel
theorem dX11_count_67 : decode cX11_count 67 = .ok (.ireturn, 1) := by decide +kernel
theorem dX11_count_68 : decode cX11_count 68 = .ok (.aload_n 0, 1) := by decide +kernel
theorem dX11_count_69 : decode cX11_count 69 = .ok (.getfield 19, 3) := by decide +kernel
theorem dX11_count_72 : decode cX11_count 72 = .ok (.getfield 289, 3) := by decide +kernel
theorem dX11_count_75 : decode cX11_count 75 = .ok (.ireturn, 1) := by decide +kernel
theorem dX11_count_76 : decode cX11_count 76 = .ok (.aload_n 0, 1) := by decide +kernel
theorem dX11_count_77 : decode cX11_count 77 = .ok (.getfield 244, 3) := by decide +kernel
theorem dX11_count_80 : decode cX11_count 80 = .ok (.ireturn, 1) := by decide +kernel
theorem dX11_count_81 : decode cX11_count 81 = .ok (.aload_n 0, 1) := by decide +kernel
theorem dX11_count_82 : decode cX11_count 82 = .ok (.getfield 29, 3) := by decide +kernel
theorem dX11_count_85 : decode cX11_count 85 = .ok (.getfield 171, 3) := by decide +kernel
theorem dX11_count_88 : decode cX11_count 88 = .ok (.ireturn, 1) := by decide +kernel
theorem dX11_count_89 : decode cX11_count 89 = .ok (.aload_n 0, 1) := by decide +kernel
theorem dX11_count_90 : decode cX11_count 90 = .ok (.getfield 10, 3) := by decide +kernel
theorem dX11_count_93 : decode cX11_count 93 = .ok (.getfield 80, 3) := by decide +kernel
theorem dX11_count_96 : decode cX11_count 96 = .ok (.ireturn, 1) := by decide +kernel
theorem dX11_count_97 : decode cX11_count 97 = .ok (.iconst (-1), 1) := by decide +kernel
theorem dX11_count_98 : decode cX11_count 98 = .ok (.ireturn, 1) := by decide +kernel
theorem dX11_trace_0 : decode cX11_trace 0 = .ok (.lconst 0, 1) := by decide +kernel
theorem dX11_trace_1 : decode cX11_trace 1 = .ok (.lstore_n 1, 1) := by decide +kernel
theorem dX11_trace_2 : decode cX11_trace 2 = .ok (.iconst 0, 1) := by decide +kernel
theorem dX11_trace_3 : decode cX11_trace 3 = .ok (.istore_n 3, 1) := by decide +kernel
theorem dX11_trace_4 : decode cX11_trace 4 = .ok (.iload_n 3, 1) := by decide +kernel
theorem dX11_trace_5 : decode cX11_trace 5 = .ok (.aload_n 0, 1) := by decide +kernel
theorem dX11_trace_6 : decode cX11_trace 6 = .ok (.getfield 69, 3) := by decide +kernel
theorem dX11_trace_9 : decode cX11_trace 9 = .ok (.arraylength, 1) := by decide +kernel
theorem dX11_trace_10 : decode cX11_trace 10 = .ok (.if_icmp .ge 21, 3) := by decide +kernel
theorem dX11_trace_13 : decode cX11_trace 13 = .ok (.lload_n 1, 1) := by decide +kernel
theorem dX11_trace_14 : decode cX11_trace 14 = .ok (.aload_n 0, 1) := by decide +kernel
theorem dX11_trace_15 : decode cX11_trace 15 = .ok (.getfield 69, 3) := by decide +kernel
theorem dX11_trace_18 : decode cX11_trace 18 = .ok (.iload_n 3, 1) := by decide +kernel
theorem dX11_trace_19 : decode cX11_trace 19 = .ok (.aaload, 1) := by decide +kernel
theorem dX11_trace_20 : decode cX11_trace 20 = .ok (.getfield 292, 3) := by decide +kernel
theorem dX11_trace_23 : decode cX11_trace 23 = .ok (.ladd, 1) := by decide +kernel
theorem dX11_trace_24 : decode cX11_trace 24 = .ok (.lstore_n 1, 1) := by decide +kernel
theorem dX11_trace_25 : decode cX11_trace 25 = .ok (.iinc 3 1, 3) := by decide +kernel
theorem dX11_trace_28 : decode cX11_trace 28 = .ok (.goto (-24), 3) := by decide +kernel
theorem dX11_trace_31 : decode cX11_trace 31 = .ok (.lload_n 1, 1) := by decide +kernel
theorem dX11_trace_32 : decode cX11_trace 32 = .ok (.lreturn, 1) := by decide +kernel
theorem dX11_startAnew_0 : decode cX11_startAnew 0 = .ok (.aload_n 0, 1) := by decide +kernel
theorem dX11_startAnew_1 : decode cX11_startAnew 1 = .ok (.getfield 29, 3) := by decide +kernel
theorem dX11_startAnew_4 : decode cX11_startAnew 4 = .ok (.aload_n 0, 1) := by decide +kernel
theorem dX11_startAnew_5 : decode cX11_startAnew 5 = .ok (.getfield 19, 3) := by decide +kernel
theorem dX11_startAnew_8 : decode cX11_startAnew 8 = .ok (.invokevirtual 296, 3) := by decide +kernel
theorem dX11_startAnew_11 : decode cX11_startAnew 11 = .ok (.aload_n 0, 1) := by decide +kernel
theorem dX11_startAnew_12 : decode cX11_startAnew 12 = .ok (.iconst 0, 1) := by decide +kernel
theorem dX11_startAnew_13 : decode cX11_startAnew 13 = .ok (.putfield 280, 3) := by decide +kernel
theorem dX11_startAnew_16 : decode cX11_startAnew 16 = .ok (.aload_n 0, 1) := by decide +kernel
theorem dX11_startAnew_17 : decode cX11_startAnew 17 = .ok (.iconst 0, 1) := by decide +kernel
theorem dX11_startAnew_18 : decode cX11_startAnew 18 = .ok (.putfield 244, 3) := by decide +kernel
theorem dX11_startAnew_21 : decode cX11_startAnew 21 = .ok (.aload_n 0, 1) := by decide +kernel
theorem dX11_startAnew_22 : decode cX11_startAnew 22 = .ok (.getfield 40, 3) := by decide +kernel
theorem dX11_startAnew_25 : decode cX11_startAnew 25 = .ok (.invokevirtual 299, 3) := by decide +kernel
theorem dX11_startAnew_28 : decode cX11_startAnew 28 = .ok (.return_, 1) := by decide +kernel
theorem dX11_isAsHeard_0 : decode cX11_isAsHeard 0 = .ok (.iconst 0, 1) := by decide +kernel
theorem dX11_isAsHeard_1 : decode cX11_isAsHeard 1 = .ok (.istore_n 2, 1) := by decide +kernel
theorem dX11_isAsHeard_2 : decode cX11_isAsHeard 2 = .ok (.iload_n 2, 1) := by decide +kernel
theorem dX11_isAsHeard_3 : decode cX11_isAsHeard 3 = .ok (.aload_n 0, 1) := by decide +kernel
theorem dX11_isAsHeard_4 : decode cX11_isAsHeard 4 = .ok (.getfield 244, 3) := by decide +kernel
theorem dX11_isAsHeard_7 : decode cX11_isAsHeard 7 = .ok (.if_icmp .ge 57, 3) := by decide +kernel
theorem dX11_isAsHeard_10 : decode cX11_isAsHeard 10 = .ok (.iload_n 2, 1) := by decide +kernel
theorem dX11_isAsHeard_11 : decode cX11_isAsHeard 11 = .ok (.bipush 6, 2) := by decide +kernel
theorem dX11_isAsHeard_13 : decode cX11_isAsHeard 13 = .ok (.if_icmp .ge 51, 3) := by decide +kernel
theorem dX11_isAsHeard_16 : decode cX11_isAsHeard 16 = .ok (.aload_n 0, 1) := by decide +kernel
theorem dX11_isAsHeard_17 : decode cX11_isAsHeard 17 = .ok (.getfield 44, 3) := by decide +kernel
theorem dX11_isAsHeard_20 : decode cX11_isAsHeard 20 = .ok (.iload_n 2, 1) := by decide +kernel
theorem dX11_isAsHeard_21 : decode cX11_isAsHeard 21 = .ok (.iaload, 1) := by decide +kernel
theorem dX11_isAsHeard_22 : decode cX11_isAsHeard 22 = .ok (.istore_n 3, 1) := by decide +kernel
theorem dX11_isAsHeard_23 : decode cX11_isAsHeard 23 = .ok (.aload_n 0, 1) := by decide +kernel
theorem dX11_isAsHeard_24 : decode cX11_isAsHeard 24 = .ok (.getfield 40, 3) := by decide +kernel
theorem dX11_isAsHeard_27 : decode cX11_isAsHeard 27 = .ok (.iload_n 1, 1) := by decide +kernel
theorem dX11_isAsHeard_28 : decode cX11_isAsHeard 28 = .ok (.invokevirtual 213, 3) := by decide +kernel
theorem dX11_isAsHeard_31 : decode cX11_isAsHeard 31 = .ok (.iload_n 3, 1) := by decide +kernel
theorem dX11_isAsHeard_32 : decode cX11_isAsHeard 32 = .ok (.if_icmp .lt 24, 3) := by decide +kernel
theorem dX11_isAsHeard_35 : decode cX11_isAsHeard 35 = .ok (.aload_n 0, 1) := by decide +kernel
theorem dX11_isAsHeard_36 : decode cX11_isAsHeard 36 = .ok (.getfield 40, 3) := by decide +kernel
theorem dX11_isAsHeard_39 : decode cX11_isAsHeard 39 = .ok (.iload_n 1, 1) := by decide +kernel
theorem dX11_isAsHeard_40 : decode cX11_isAsHeard 40 = .ok (.iload_n 3, 1) := by decide +kernel
theorem dX11_isAsHeard_41 : decode cX11_isAsHeard 41 = .ok (.invokevirtual 256, 3) := by decide +kernel
theorem dX11_isAsHeard_44 : decode cX11_isAsHeard 44 = .ok (.invokestatic 302, 3) := by decide +kernel
theorem dX11_isAsHeard_47 : decode cX11_isAsHeard 47 = .ok (.aload_n 0, 1) := by decide +kernel
theorem dX11_isAsHeard_48 : decode cX11_isAsHeard 48 = .ok (.getfield 48, 3) := by decide +kernel
theorem dX11_isAsHeard_51 : decode cX11_isAsHeard 51 = .ok (.iload_n 2, 1) := by decide +kernel
theorem dX11_isAsHeard_52 : decode cX11_isAsHeard 52 = .ok (.iaload, 1) := by decide +kernel
theorem dX11_isAsHeard_53 : decode cX11_isAsHeard 53 = .ok (.if_icmp .eq 5, 3) := by decide +kernel
theorem dX11_isAsHeard_56 : decode cX11_isAsHeard 56 = .ok (.iconst 0, 1) := by decide +kernel
theorem dX11_isAsHeard_57 : decode cX11_isAsHeard 57 = .ok (.ireturn, 1) := by decide +kernel
theorem dX11_isAsHeard_58 : decode cX11_isAsHeard 58 = .ok (.iinc 2 1, 3) := by decide +kernel
theorem dX11_isAsHeard_61 : decode cX11_isAsHeard 61 = .ok (.goto (-59), 3) := by decide +kernel
theorem dX11_isAsHeard_64 : decode cX11_isAsHeard 64 = .ok (.iconst 1, 1) := by decide +kernel
theorem dX11_isAsHeard_65 : decode cX11_isAsHeard 65 = .ok (.ireturn, 1) := by decide +kernel
theorem dX11_isDawn_0 : decode cX11_isDawn 0 = .ok (.iload_n 0, 1) := by decide +kernel
theorem dX11_isDawn_1 : decode cX11_isDawn 1 = .ok (.iconst 1, 1) := by decide +kernel
theorem dX11_isDawn_2 : decode cX11_isDawn 2 = .ok (.if_icmp .lt 13, 3) := by decide +kernel
theorem dX11_isDawn_5 : decode cX11_isDawn 5 = .ok (.iload_n 0, 1) := by decide +kernel
theorem dX11_isDawn_6 : decode cX11_isDawn 6 = .ok (.bipush 30, 2) := by decide +kernel
theorem dX11_isDawn_8 : decode cX11_isDawn 8 = .ok (.if_icmp .gt 7, 3) := by decide +kernel
theorem dX11_isDawn_11 : decode cX11_isDawn 11 = .ok (.iconst 1, 1) := by decide +kernel
theorem dX11_isDawn_12 : decode cX11_isDawn 12 = .ok (.goto 4, 3) := by decide +kernel
theorem dX11_isDawn_15 : decode cX11_isDawn 15 = .ok (.iconst 0, 1) := by decide +kernel
theorem dX11_isDawn_16 : decode cX11_isDawn 16 = .ok (.ireturn, 1) := by decide +kernel
theorem dX11_isPairPart_0 : decode cX11_isPairPart 0 = .ok (.iload_n 0, 1) := by decide +kernel
theorem dX11_isPairPart_1 : decode cX11_isPairPart 1 = .ok (.ifCond .eq 8, 3) := by decide +kernel
end
section
theorem dX11_isPairPart_4 : decode cX11_isPairPart 4 = .ok (.iload_n 0, 1) := by decide +kernel
theorem dX11_isPairPart_5 : decode cX11_isPairPart 5 = .ok (.iconst 1, 1) := by decide +kernel
theorem dX11_isPairPart_6 : decode cX11_isPairPart 6 = .ok (.if_icmp .ne 7, 3) := by decide +kernel
theorem dX11_isPairPart_9 : decode cX11_isPairPart 9 = .ok (.iconst 1, 1) := by decide +kernel
theorem dX11_isPairPart_10 : decode cX11_isPairPart 10 = .ok (.goto 4, 3) := by decide +kernel
theorem dX11_isPairPart_13 : decode cX11_isPairPart 13 = .ok (.iconst 0, 1) := by decide +kernel
theorem dX11_isPairPart_14 : decode cX11_isPairPart 14 = .ok (.ireturn, 1) := by decide +kernel
theorem dX11_isImage_0 : decode cX11_isImage 0 = .ok (.iload_n 0, 1) := by decide +kernel
theorem dX11_isImage_1 : decode cX11_isImage 1 = .ok (.ifCond .lt 12, 3) := by decide +kernel
theorem dX11_isImage_4 : decode cX11_isImage 4 = .ok (.iload_n 0, 1) := by decide +kernel
theorem dX11_isImage_5 : decode cX11_isImage 5 = .ok (.iconst 2, 1) := by decide +kernel
theorem dX11_isImage_6 : decode cX11_isImage 6 = .ok (.if_icmp .ge 7, 3) := by decide +kernel
theorem dX11_isImage_9 : decode cX11_isImage 9 = .ok (.iconst 1, 1) := by decide +kernel
theorem dX11_isImage_10 : decode cX11_isImage 10 = .ok (.goto 4, 3) := by decide +kernel
theorem dX11_isImage_13 : decode cX11_isImage 13 = .ok (.iconst 0, 1) := by decide +kernel
theorem dX11_isImage_14 : decode cX11_isImage 14 = .ok (.ireturn, 1) := by decide +kernel
theorem dX11_firstOf_0 : decode cX11_firstOf 0 = .ok (.iconst 0, 1) := by decide +kernel
theorem dX11_firstOf_1 : decode cX11_firstOf 1 = .ok (.istore_n 1, 1) := by decide +kernel
theorem dX11_firstOf_2 : decode cX11_firstOf 2 = .ok (.iload_n 1, 1) := by decide +kernel
theorem dX11_firstOf_3 : decode cX11_firstOf 3 = .ok (.bipush 6, 2) := by decide +kernel
theorem dX11_firstOf_5 : decode cX11_firstOf 5 = .ok (.if_icmp .ge 20, 3) := by decide +kernel
theorem dX11_firstOf_8 : decode cX11_firstOf 8 = .ok (.iload_n 0, 1) := by decide +kernel
theorem dX11_firstOf_9 : decode cX11_firstOf 9 = .ok (.iload_n 1, 1) := by decide +kernel
theorem dX11_firstOf_10 : decode cX11_firstOf 10 = .ok (.ishr, 1) := by decide +kernel
theorem dX11_firstOf_11 : decode cX11_firstOf 11 = .ok (.iconst 1, 1) := by decide +kernel
theorem dX11_firstOf_12 : decode cX11_firstOf 12 = .ok (.iand, 1) := by decide +kernel
theorem dX11_firstOf_13 : decode cX11_firstOf 13 = .ok (.iconst 1, 1) := by decide +kernel
theorem dX11_firstOf_14 : decode cX11_firstOf 14 = .ok (.if_icmp .ne 5, 3) := by decide +kernel
theorem dX11_firstOf_17 : decode cX11_firstOf 17 = .ok (.iload_n 1, 1) := by decide +kernel
theorem dX11_firstOf_18 : decode cX11_firstOf 18 = .ok (.ireturn, 1) := by decide +kernel
theorem dX11_firstOf_19 : decode cX11_firstOf 19 = .ok (.iinc 1 1, 3) := by decide +kernel
theorem dX11_firstOf_22 : decode cX11_firstOf 22 = .ok (.goto (-20), 3) := by decide +kernel
theorem dX11_firstOf_25 : decode cX11_firstOf 25 = .ok (.bipush (-9), 2) := by decide +kernel
theorem dX11_firstOf_27 : decode cX11_firstOf 27 = .ok (.ireturn, 1) := by decide +kernel
theorem dX11_commonDivisor_0 : decode cX11_commonDivisor 0 = .ok (.iload_n 0, 1) := by decide +kernel
theorem dX11_commonDivisor_1 : decode cX11_commonDivisor 1 = .ok (.istore_n 2, 1) := by decide +kernel
theorem dX11_commonDivisor_2 : decode cX11_commonDivisor 2 = .ok (.iload_n 1, 1) := by decide +kernel
theorem dX11_commonDivisor_3 : decode cX11_commonDivisor 3 = .ok (.istore_n 3, 1) := by decide +kernel
theorem dX11_commonDivisor_4 : decode cX11_commonDivisor 4 = .ok (.iconst 0, 1) := by decide +kernel
theorem dX11_commonDivisor_5 : decode cX11_commonDivisor 5 = .ok (.istore 4, 2) := by decide +kernel
theorem dX11_commonDivisor_7 : decode cX11_commonDivisor 7 = .ok (.iload 4, 2) := by decide +kernel
theorem dX11_commonDivisor_9 : decode cX11_commonDivisor 9 = .ok (.bipush 32, 2) := by decide +kernel
theorem dX11_commonDivisor_11 : decode cX11_commonDivisor 11 = .ok (.if_icmp .ge 23, 3) := by decide +kernel
theorem dX11_commonDivisor_14 : decode cX11_commonDivisor 14 = .ok (.iload_n 3, 1) := by decide +kernel
theorem dX11_commonDivisor_15 : decode cX11_commonDivisor 15 = .ok (.ifCond .eq 19, 3) := by decide +kernel
theorem dX11_commonDivisor_18 : decode cX11_commonDivisor 18 = .ok (.iload_n 2, 1) := by decide +kernel
theorem dX11_commonDivisor_19 : decode cX11_commonDivisor 19 = .ok (.iload_n 3, 1) := by decide +kernel
theorem dX11_commonDivisor_20 : decode cX11_commonDivisor 20 = .ok (.irem, 1) := by decide +kernel
theorem dX11_commonDivisor_21 : decode cX11_commonDivisor 21 = .ok (.istore 5, 2) := by decide +kernel
theorem dX11_commonDivisor_23 : decode cX11_commonDivisor 23 = .ok (.iload_n 3, 1) := by decide +kernel
theorem dX11_commonDivisor_24 : decode cX11_commonDivisor 24 = .ok (.istore_n 2, 1) := by decide +kernel
theorem dX11_commonDivisor_25 : decode cX11_commonDivisor 25 = .ok (.iload 5, 2) := by decide +kernel
theorem dX11_commonDivisor_27 : decode cX11_commonDivisor 27 = .ok (.istore_n 3, 1) := by decide +kernel
theorem dX11_commonDivisor_28 : decode cX11_commonDivisor 28 = .ok (.iinc 4 1, 3) := by decide +kernel
theorem dX11_commonDivisor_31 : decode cX11_commonDivisor 31 = .ok (.goto (-24), 3) := by decide +kernel
theorem dX11_commonDivisor_34 : decode cX11_commonDivisor 34 = .ok (.iload_n 2, 1) := by decide +kernel
theorem dX11_commonDivisor_35 : decode cX11_commonDivisor 35 = .ok (.ireturn, 1) := by decide +kernel
end
section
theorem dX12_in_0 : decode cX12_in 0 = .ok (.lload_n 0, 1) := by decide +kernel
theorem dX12_in_1 : decode cX12_in 1 = .ok (.lload_n 2, 1) := by decide +kernel
theorem dX12_in_2 : decode cX12_in 2 = .ok (.lcmp, 1) := by decide +kernel
theorem dX12_in_3 : decode cX12_in 3 = .ok (.ifCond .lt 14, 3) := by decide +kernel
theorem dX12_in_6 : decode cX12_in 6 = .ok (.lload_n 0, 1) := by decide +kernel
theorem dX12_in_7 : decode cX12_in 7 = .ok (.lload 4, 2) := by decide +kernel
theorem dX12_in_9 : decode cX12_in 9 = .ok (.lcmp, 1) := by decide +kernel
theorem dX12_in_10 : decode cX12_in 10 = .ok (.ifCond .gt 7, 3) := by decide +kernel
theorem dX12_in_13 : decode cX12_in 13 = .ok (.iconst 1, 1) := by decide +kernel
theorem dX12_in_14 : decode cX12_in 14 = .ok (.goto 4, 3) := by decide +kernel
theorem dX12_in_17 : decode cX12_in 17 = .ok (.iconst 0, 1) := by decide +kernel
theorem dX12_in_18 : decode cX12_in 18 = .ok (.ireturn, 1) := by decide +kernel
theorem dX12_init_0 : decode cX12_init 0 = .ok (.aload_n 0, 1) := by decide +kernel
theorem dX12_init_1 : decode cX12_init 1 = .ok (.invokespecial 1, 3) := by decide +kernel
theorem dX12_init_4 : decode cX12_init 4 = .ok (.aload_n 0, 1) := by decide +kernel
theorem dX12_init_5 : decode cX12_init 5 = .ok (.sipush 150, 3) := by decide +kernel
theorem dX12_init_8 : decode cX12_init 8 = .ok (.newarray .int, 2) := by decide +kernel
theorem dX12_init_10 : decode cX12_init 10 = .ok (.putfield 7, 3) := by decide +kernel
theorem dX12_init_13 : decode cX12_init 13 = .ok (.aload_n 0, 1) := by decide +kernel
theorem dX12_init_14 : decode cX12_init 14 = .ok (.bipush 6, 2) := by decide +kernel
theorem dX12_init_16 : decode cX12_init 16 = .ok (.newarray .int, 2) := by decide +kernel
theorem dX12_init_18 : decode cX12_init 18 = .ok (.putfield 13, 3) := by decide +kernel
theorem dX12_init_21 : decode cX12_init 21 = .ok (.aload_n 0, 1) := by decide +kernel
theorem dX12_init_22 : decode cX12_init 22 = .ok (.bipush 6, 2) := by decide +kernel
theorem dX12_init_24 : decode cX12_init 24 = .ok (.newarray .int, 2) := by decide +kernel
theorem dX12_init_26 : decode cX12_init 26 = .ok (.putfield 16, 3) := by decide +kernel
theorem dX12_init_29 : decode cX12_init 29 = .ok (.aload_n 0, 1) := by decide +kernel
theorem dX12_init_30 : decode cX12_init 30 = .ok (.bipush 8, 2) := by decide +kernel
theorem dX12_init_32 : decode cX12_init 32 = .ok (.newarray .int, 2) := by decide +kernel
theorem dX12_init_34 : decode cX12_init 34 = .ok (.putfield 19, 3) := by decide +kernel
theorem dX12_init_37 : decode cX12_init 37 = .ok (.aload_n 0, 1) := by decide +kernel
theorem dX12_init_38 : decode cX12_init 38 = .ok (.bipush 6, 2) := by decide +kernel
theorem dX12_init_40 : decode cX12_init 40 = .ok (.newarray .int, 2) := by decide +kernel
theorem dX12_init_42 : decode cX12_init 42 = .ok (.putfield 22, 3) := by decide +kernel
theorem dX12_init_45 : decode cX12_init 45 = .ok (.aload_n 0, 1) := by decide +kernel
theorem dX12_init_46 : decode cX12_init 46 = .ok (.bipush 6, 2) := by decide +kernel
theorem dX12_init_48 : decode cX12_init 48 = .ok (.newarray .int, 2) := by decide +kernel
theorem dX12_init_50 : decode cX12_init 50 = .ok (.putfield 25, 3) := by decide +kernel
theorem dX12_init_53 : decode cX12_init 53 = .ok (.aload_n 0, 1) := by decide +kernel
theorem dX12_init_54 : decode cX12_init 54 = .ok (.bipush 8, 2) := by decide +kernel
theorem dX12_init_56 : decode cX12_init 56 = .ok (.newarray .int, 2) := by decide +kernel
theorem dX12_init_58 : decode cX12_init 58 = .ok (.putfield 28, 3) := by decide +kernel
theorem dX12_init_61 : decode cX12_init 61 = .ok (.aload_n 0, 1) := by decide +kernel
theorem dX12_init_62 : decode cX12_init 62 = .ok (.bipush 28, 2) := by decide +kernel
theorem dX12_init_64 : decode cX12_init 64 = .ok (.newarray .int, 2) := by decide +kernel
theorem dX12_init_66 : decode cX12_init 66 = .ok (.putfield 31, 3) := by decide +kernel
theorem dX12_init_69 : decode cX12_init 69 = .ok (.aload_n 0, 1) := by decide +kernel
theorem dX12_init_70 : decode cX12_init 70 = .ok (.bipush 28, 2) := by decide +kernel
theorem dX12_init_72 : decode cX12_init 72 = .ok (.newarray .int, 2) := by decide +kernel
theorem dX12_init_74 : decode cX12_init 74 = .ok (.putfield 34, 3) := by decide +kernel
theorem dX12_init_77 : decode cX12_init 77 = .ok (.aload_n 0, 1) := by decide +kernel
theorem dX12_init_78 : decode cX12_init 78 = .ok (.sipush 290, 3) := by decide +kernel
theorem dX12_init_81 : decode cX12_init 81 = .ok (.newarray .int, 2) := by decide +kernel
theorem dX12_init_83 : decode cX12_init 83 = .ok (.putfield 37, 3) := by decide +kernel
theorem dX12_init_86 : decode cX12_init 86 = .ok (.aload_n 0, 1) := by decide +kernel
theorem dX12_init_87 : decode cX12_init 87 = .ok (.bipush 6, 2) := by decide +kernel
theorem dX12_init_89 : decode cX12_init 89 = .ok (.newarray .int, 2) := by decide +kernel
theorem dX12_init_91 : decode cX12_init 91 = .ok (.putfield 40, 3) := by decide +kernel
theorem dX12_init_94 : decode cX12_init 94 = .ok (.aload_n 0, 1) := by decide +kernel
theorem dX12_init_95 : decode cX12_init 95 = .ok (.bipush 30, 2) := by decide +kernel
theorem dX12_init_97 : decode cX12_init 97 = .ok (.newarray .int, 2) := by decide +kernel
theorem dX12_init_99 : decode cX12_init 99 = .ok (.putfield 43, 3) := by decide +kernel
theorem dX12_init_102 : decode cX12_init 102 = .ok (.aload_n 0, 1) := by decide +kernel
theorem dX12_init_103 : decode cX12_init 103 = .ok (.bipush 30, 2) := by decide +kernel
theorem dX12_init_105 : decode cX12_init 105 = .ok (.newarray .int, 2) := by decide +kernel
theorem dX12_init_107 : decode cX12_init 107 = .ok (.putfield 46, 3) := by decide +kernel
theorem dX12_init_110 : decode cX12_init 110 = .ok (.aload_n 0, 1) := by decide +kernel
theorem dX12_init_111 : decode cX12_init 111 = .ok (.bipush 6, 2) := by decide +kernel
theorem dX12_init_113 : decode cX12_init 113 = .ok (.newarray .int, 2) := by decide +kernel
theorem dX12_init_115 : decode cX12_init 115 = .ok (.putfield 49, 3) := by decide +kernel
theorem dX12_init_118 : decode cX12_init 118 = .ok (.aload_n 0, 1) := by decide +kernel
theorem dX12_init_119 : decode cX12_init 119 = .ok (.bipush 6, 2) := by decide +kernel
theorem dX12_init_121 : decode cX12_init 121 = .ok (.newarray .int, 2) := by decide +kernel
theorem dX12_init_123 : decode cX12_init 123 = .ok (.putfield 52, 3) := by decide +kernel
theorem dX12_init_126 : decode cX12_init 126 = .ok (.aload_n 0, 1) := by decide +kernel
theorem dX12_init_127 : decode cX12_init 127 = .ok (.sipush 642, 3) := by decide +kernel
theorem dX12_init_130 : decode cX12_init 130 = .ok (.newarray .int, 2) := by decide +kernel
theorem dX12_init_132 : decode cX12_init 132 = .ok (.putfield 55, 3) := by decide +kernel
theorem dX12_init_135 : decode cX12_init 135 = .ok (.aload_n 0, 1) := by decide +kernel
theorem dX12_init_136 : decode cX12_init 136 = .ok (.invokevirtual 58, 3) := by decide +kernel
theorem dX12_init_139 : decode cX12_init 139 = .ok (.return_, 1) := by decide +kernel
theorem dX12_type_0 : decode cX12_type 0 = .ok (.iload_n 1, 1) := by decide +kernel
theorem dX12_type_1 : decode cX12_type 1 = .ok (.i2l, 1) := by decide +kernel
theorem dX12_type_2 : decode cX12_type 2 = .ok (.lconst 0, 1) := by decide +kernel
theorem dX12_type_3 : decode cX12_type 3 = .ok (.ldc2_w 61, 3) := by decide +kernel
theorem dX12_type_6 : decode cX12_type 6 = .ok (.invokestatic 63, 3) := by decide +kernel
theorem dX12_type_9 : decode cX12_type 9 = .ok (.ifCond .ne 5, 3) := by decide +kernel
theorem dX12_type_12 : decode cX12_type 12 = .ok (.iconst (-1), 1) := by decide +kernel
theorem dX12_type_13 : decode cX12_type 13 = .ok (.ireturn, 1) := by decide +kernel
theorem dX12_type_14 : decode cX12_type 14 = .ok (.aload_n 0, 1) := by decide +kernel
theorem dX12_type_15 : decode cX12_type 15 = .ok (.getfield 67, 3) := by decide +kernel
theorem dX12_type_18 : decode cX12_type 18 = .ok (.sipush 150, 3) := by decide +kernel
theorem dX12_type_21 : decode cX12_type 21 = .ok (.if_icmp .ne 6, 3) := by decide +kernel
theorem dX12_type_24 : decode cX12_type 24 = .ok (.bipush (-3), 2) := by decide +kernel
theorem dX12_type_26 : decode cX12_type 26 = .ok (.ireturn, 1) := by decide +kernel
theorem dX12_type_27 : decode cX12_type 27 = .ok (.aload_n 0, 1) := by decide +kernel
theorem dX12_type_28 : decode cX12_type 28 = .ok (.getfield 7, 3) := by decide +kernel
theorem dX12_type_31 : decode cX12_type 31 = .ok (.aload_n 0, 1) := by decide +kernel
theorem dX12_type_32 : decode cX12_type 32 = .ok (.getfield 67, 3) := by decide +kernel
theorem dX12_type_35 : decode cX12_type 35 = .ok (.iload_n 1, 1) := by decide +kernel
theorem dX12_type_36 : decode cX12_type 36 = .ok (.iastore, 1) := by decide +kernel
theorem dX12_type_37 : decode cX12_type 37 = .ok (.aload_n 0, 1) := by decide +kernel
theorem dX12_type_38 : decode cX12_type 38 = .ok (.dup, 1) := by decide +kernel
theorem dX12_type_39 : decode cX12_type 39 = .ok (.getfield 67, 3) := by decide +kernel
theorem dX12_type_42 : decode cX12_type 42 = .ok (.iconst 1, 1) := by decide +kernel
theorem dX12_type_43 : decode cX12_type 43 = .ok (.iadd, 1) := by decide +kernel
theorem dX12_type_44 : decode cX12_type 44 = .ok (.putfield 67, 3) := by decide +kernel
theorem dX12_type_47 : decode cX12_type 47 = .ok (.aload_n 0, 1) := by decide +kernel
theorem dX12_type_48 : decode cX12_type 48 = .ok (.getfield 67, 3) := by decide +kernel
theorem dX12_type_51 : decode cX12_type 51 = .ok (.ireturn, 1) := by decide +kernel
theorem dX12_clear_0 : decode cX12_clear 0 = .ok (.aload_n 0, 1) := by decide +kernel
theorem dX12_clear_1 : decode cX12_clear 1 = .ok (.getfield 67, 3) := by decide +kernel
theorem dX12_clear_4 : decode cX12_clear 4 = .ok (.istore_n 1, 1) := by decide +kernel
theorem dX12_clear_5 : decode cX12_clear 5 = .ok (.aload_n 0, 1) := by decide +kernel
theorem dX12_clear_6 : decode cX12_clear 6 = .ok (.iconst 0, 1) := by decide +kernel
theorem dX12_clear_7 : decode cX12_clear 7 = .ok (.putfield 67, 3) := by decide +kernel
theorem dX12_clear_10 : decode cX12_clear 10 = .ok (.iload_n 1, 1) := by decide +kernel
theorem dX12_clear_11 : decode cX12_clear 11 = .ok (.ireturn, 1) := by decide +kernel
theorem dX12_isLetter_0 : decode cX12_isLetter 0 = .ok (.iload_n 0, 1) := by decide +kernel
theorem dX12_isLetter_1 : decode cX12_isLetter 1 = .ok (.i2l, 1) := by decide +kernel
theorem dX12_isLetter_2 : decode cX12_isLetter 2 = .ok (.ldc2_w 71, 3) := by decide +kernel
theorem dX12_isLetter_5 : decode cX12_isLetter 5 = .ok (.ldc2_w 73, 3) := by decide +kernel
theorem dX12_isLetter_8 : decode cX12_isLetter 8 = .ok (.invokestatic 63, 3) := by decide +kernel
theorem dX12_isLetter_11 : decode cX12_isLetter 11 = .ok (.ireturn, 1) := by decide +kernel
theorem dX12_isFigure_0 : decode cX12_isFigure 0 = .ok (.iload_n 0, 1) := by decide +kernel
theorem dX12_isFigure_1 : decode cX12_isFigure 1 = .ok (.i2l, 1) := by decide +kernel
theorem dX12_isFigure_2 : decode cX12_isFigure 2 = .ok (.ldc2_w 75, 3) := by decide +kernel
theorem dX12_isFigure_5 : decode cX12_isFigure 5 = .ok (.ldc2_w 77, 3) := by decide +kernel
theorem dX12_isFigure_8 : decode cX12_isFigure 8 = .ok (.invokestatic 63, 3) := by decide +kernel
theorem dX12_isFigure_11 : decode cX12_isFigure 11 = .ok (.ireturn, 1) := by decide +kernel
theorem dX12_readLetters_0 : decode cX12_readLetters 0 = .ok (.aload_n 0, 1) := by decide +kernel
theorem dX12_readLetters_1 : decode cX12_readLetters 1 = .ok (.aload_n 0, 1) := by decide +kernel
theorem dX12_readLetters_2 : decode cX12_readLetters 2 = .ok (.getfield 7, 3) := by decide +kernel
theorem dX12_readLetters_5 : decode cX12_readLetters 5 = .ok (.aload_n 0, 1) := by decide +kernel
theorem dX12_readLetters_6 : decode cX12_readLetters 6 = .ok (.getfield 79, 3) := by decide +kernel
theorem dX12_readLetters_9 : decode cX12_readLetters 9 = .ok (.iaload, 1) := by decide +kernel
theorem dX12_readLetters_10 : decode cX12_readLetters 10 = .ok (.putfield 82, 3) := by decide +kernel
theorem dX12_readLetters_13 : decode cX12_readLetters 13 = .ok (.aload_n 0, 1) := by decide +kernel
theorem dX12_readLetters_14 : decode cX12_readLetters 14 = .ok (.getfield 79, 3) := by decide +kernel
theorem dX12_readLetters_17 : decode cX12_readLetters 17 = .ok (.aload_n 0, 1) := by decide +kernel
theorem dX12_readLetters_18 : decode cX12_readLetters 18 = .ok (.getfield 67, 3) := by decide +kernel
theorem dX12_readLetters_21 : decode cX12_readLetters 21 = .ok (.if_icmp .ge 31, 3) := by decide +kernel
theorem dX12_readLetters_24 : decode cX12_readLetters 24 = .ok (.aload_n 0, 1) := by decide +kernel
theorem dX12_readLetters_25 : decode cX12_readLetters 25 = .ok (.getfield 7, 3) := by decide +kernel
theorem dX12_readLetters_28 : decode cX12_readLetters 28 = .ok (.aload_n 0, 1) := by decide +kernel
theorem dX12_readLetters_29 : decode cX12_readLetters 29 = .ok (.getfield 79, 3) := by decide +kernel
theorem dX12_readLetters_32 : decode cX12_readLetters 32 = .ok (.iaload, 1) := by decide +kernel
theorem dX12_readLetters_33 : decode cX12_readLetters 33 = .ok (.invokestatic 85, 3) := by decide +kernel
theorem dX12_readLetters_36 : decode cX12_readLetters 36 = .ok (.ifCond .eq 16, 3) := by decide +kernel
theorem dX12_readLetters_39 : decode cX12_readLetters 39 = .ok (.aload_n 0, 1) := by decide +kernel
theorem dX12_readLetters_40 : decode cX12_readLetters 40 = .ok (.dup, 1) := by decide +kernel
theorem dX12_readLetters_41 : decode cX12_readLetters 41 = .ok (.getfield 79, 3) := by decide +kernel
theorem dX12_readLetters_44 : decode cX12_readLetters 44 = .ok (.iconst 1, 1) := by decide +kernel
theorem dX12_readLetters_45 : decode cX12_readLetters 45 = .ok (.iadd, 1) := by decide +kernel
theorem dX12_readLetters_46 : decode cX12_readLetters 46 = .ok (.putfield 79, 3) := by decide +kernel
theorem dX12_readLetters_49 : decode cX12_readLetters 49 = .ok (.goto (-36), 3) := by decide +kernel
theorem dX12_readLetters_52 : decode cX12_readLetters 52 = .ok (.aload_n 0, 1) := by decide +kernel
theorem dX12_readLetters_53 : decode cX12_readLetters 53 = .ok (.aload_n 0, 1) := by decide +kernel
theorem dX12_readLetters_54 : decode cX12_readLetters 54 = .ok (.getfield 79, 3) := by decide +kernel
theorem dX12_readLetters_57 : decode cX12_readLetters 57 = .ok (.aload_n 0, 1) := by decide +kernel
theorem dX12_readLetters_58 : decode cX12_readLetters 58 = .ok (.getfield 89, 3) := by decide +kernel
theorem dX12_readLetters_61 : decode cX12_readLetters 61 = .ok (.isub, 1) := by decide +kernel
theorem dX12_readLetters_62 : decode cX12_readLetters 62 = .ok (.iconst 1, 1) := by decide +kernel
theorem dX12_readLetters_63 : decode cX12_readLetters 63 = .ok (.if_icmp .ne 43, 3) := by decide +kernel
theorem dX12_readLetters_66 : decode cX12_readLetters 66 = .ok (.aload_n 0, 1) := by decide +kernel
theorem dX12_readLetters_67 : decode cX12_readLetters 67 = .ok (.getfield 82, 3) := by decide +kernel
theorem dX12_readLetters_70 : decode cX12_readLetters 70 = .ok (.bipush 116, 2) := by decide +kernel
theorem dX12_readLetters_72 : decode cX12_readLetters 72 = .ok (.if_icmp .eq 30, 3) := by decide +kernel
theorem dX12_readLetters_75 : decode cX12_readLetters 75 = .ok (.aload_n 0, 1) := by decide +kernel
theorem dX12_readLetters_76 : decode cX12_readLetters 76 = .ok (.getfield 82, 3) := by decide +kernel
theorem dX12_readLetters_79 : decode cX12_readLetters 79 = .ok (.bipush 110, 2) := by decide +kernel
theorem dX12_readLetters_81 : decode cX12_readLetters 81 = .ok (.if_icmp .eq 21, 3) := by decide +kernel
theorem dX12_readLetters_84 : decode cX12_readLetters 84 = .ok (.aload_n 0, 1) := by decide +kernel
theorem dX12_readLetters_85 : decode cX12_readLetters 85 = .ok (.getfield 82, 3) := by decide +kernel
theorem dX12_readLetters_88 : decode cX12_readLetters 88 = .ok (.bipush 109, 2) := by decide +kernel
theorem dX12_readLetters_90 : decode cX12_readLetters 90 = .ok (.if_icmp .eq 12, 3) := by decide +kernel
theorem dX12_readLetters_93 : decode cX12_readLetters 93 = .ok (.aload_n 0, 1) := by decide +kernel
theorem dX12_readLetters_94 : decode cX12_readLetters 94 = .ok (.getfield 82, 3) := by decide +kernel
theorem dX12_readLetters_97 : decode cX12_readLetters 97 = .ok (.bipush 100, 2) := by decide +kernel
theorem dX12_readLetters_99 : decode cX12_readLetters 99 = .ok (.if_icmp .ne 7, 3) := by decide +kernel
theorem dX12_readLetters_102 : decode cX12_readLetters 102 = .ok (.iconst 1, 1) := by decide +kernel
theorem dX12_readLetters_103 : decode cX12_readLetters 103 = .ok (.goto 4, 3) := by decide +kernel
theorem dX12_readLetters_106 : decode cX12_readLetters 106 = .ok (.iconst 4, 1) := by decide +kernel
theorem dX12_readLetters_107 : decode cX12_readLetters 107 = .ok (.putfield 92, 3) := by decide +kernel
theorem dX12_readLetters_110 : decode cX12_readLetters 110 = .ok (.return_, 1) := by decide +kernel
theorem dX12_readNumber_0 : decode cX12_readNumber 0 = .ok (.iconst 0, 1) := by decide +kernel
theorem dX12_readNumber_1 : decode cX12_readNumber 1 = .ok (.istore_n 1, 1) := by decide +kernel
theorem dX12_readNumber_2 : decode cX12_readNumber 2 = .ok (.aload_n 0, 1) := by decide +kernel
theorem dX12_readNumber_3 : decode cX12_readNumber 3 = .ok (.getfield 79, 3) := by decide +kernel
theorem dX12_readNumber_6 : decode cX12_readNumber 6 = .ok (.aload_n 0, 1) := by decide +kernel
theorem dX12_readNumber_7 : decode cX12_readNumber 7 = .ok (.getfield 67, 3) := by decide +kernel
theorem dX12_readNumber_10 : decode cX12_readNumber 10 = .ok (.if_icmp .ge 59, 3) := by decide +kernel
theorem dX12_readNumber_13 : decode cX12_readNumber 13 = .ok (.aload_n 0, 1) := by decide +kernel
theorem dX12_readNumber_14 : decode cX12_readNumber 14 = .ok (.getfield 7, 3) := by decide +kernel
theorem dX12_readNumber_17 : decode cX12_readNumber 17 = .ok (.aload_n 0, 1) := by decide +kernel
theorem dX12_readNumber_18 : decode cX12_readNumber 18 = .ok (.getfield 79, 3) := by decide +kernel
theorem dX12_readNumber_21 : decode cX12_readNumber 21 = .ok (.iaload, 1) := by decide +kernel
theorem dX12_readNumber_22 : decode cX12_readNumber 22 = .ok (.invokestatic 95, 3) := by decide +kernel
theorem dX12_readNumber_25 : decode cX12_readNumber 25 = .ok (.ifCond .eq 44, 3) := by decide +kernel
theorem dX12_readNumber_28 : decode cX12_readNumber 28 = .ok (.iload_n 1, 1) := by decide +kernel
theorem dX12_readNumber_29 : decode cX12_readNumber 29 = .ok (.bipush 99, 2) := by decide +kernel
theorem dX12_readNumber_31 : decode cX12_readNumber 31 = .ok (.if_icmp .le 7, 3) := by decide +kernel
theorem dX12_readNumber_34 : decode cX12_readNumber 34 = .ok (.iload_n 1, 1) := by decide +kernel
theorem dX12_readNumber_35 : decode cX12_readNumber 35 = .ok (.goto 20, 3) := by decide +kernel
theorem dX12_readNumber_38 : decode cX12_readNumber 38 = .ok (.bipush 10, 2) := by decide +kernel
theorem dX12_readNumber_40 : decode cX12_readNumber 40 = .ok (.iload_n 1, 1) := by decide +kernel
theorem dX12_readNumber_41 : decode cX12_readNumber 41 = .ok (.imul, 1) := by decide +kernel
theorem dX12_readNumber_42 : decode cX12_readNumber 42 = .ok (.aload_n 0, 1) := by decide +kernel
theorem dX12_readNumber_43 : decode cX12_readNumber 43 = .ok (.getfield 7, 3) := by decide +kernel
theorem dX12_readNumber_46 : decode cX12_readNumber 46 = .ok (.aload_n 0, 1) := by decide +kernel
theorem dX12_readNumber_47 : decode cX12_readNumber 47 = .ok (.getfield 79, 3) := by decide +kernel
theorem dX12_readNumber_50 : decode cX12_readNumber 50 = .ok (.iaload, 1) := by decide +kernel
theorem dX12_readNumber_51 : decode cX12_readNumber 51 = .ok (.iadd, 1) := by decide +kernel
theorem dX12_readNumber_52 : decode cX12_readNumber 52 = .ok (.bipush 48, 2) := by decide +kernel
theorem dX12_readNumber_54 : decode cX12_readNumber 54 = .ok (.isub, 1) := by decide +kernel
theorem dX12_readNumber_55 : decode cX12_readNumber 55 = .ok (.istore_n 1, 1) := by decide +kernel
theorem dX12_readNumber_56 : decode cX12_readNumber 56 = .ok (.aload_n 0, 1) := by decide +kernel
theorem dX12_readNumber_57 : decode cX12_readNumber 57 = .ok (.dup, 1) := by decide +kernel
theorem dX12_readNumber_58 : decode cX12_readNumber 58 = .ok (.getfield 79, 3) := by decide +kernel
theorem dX12_readNumber_61 : decode cX12_readNumber 61 = .ok (.iconst 1, 1) := by decide +kernel
theorem dX12_readNumber_62 : decode cX12_readNumber 62 = .ok (.iadd, 1) := by decide +kernel
theorem dX12_readNumber_63 : decode cX12_readNumber 63 = .ok (.putfield 79, 3) := by decide +kernel
theorem dX12_readNumber_66 : decode cX12_readNumber 66 = .ok (.goto (-64), 3) := by decide +kernel
theorem dX12_readNumber_69 : decode cX12_readNumber 69 = .ok (.aload_n 0, 1) := by decide +kernel
theorem dX12_readNumber_70 : decode cX12_readNumber 70 = .ok (.iload_n 1, 1) := by decide +kernel
theorem dX12_readNumber_71 : decode cX12_readNumber 71 = .ok (.bipush 99, 2) := by decide +kernel
theorem dX12_readNumber_73 : decode cX12_readNumber 73 = .ok (.if_icmp .gt 30, 3) := by decide +kernel
theorem dX12_readNumber_76 : decode cX12_readNumber 76 = .ok (.aload_n 0, 1) := by decide +kernel
theorem dX12_readNumber_77 : decode cX12_readNumber 77 = .ok (.getfield 79, 3) := by decide +kernel
theorem dX12_readNumber_80 : decode cX12_readNumber 80 = .ok (.aload_n 0, 1) := by decide +kernel
theorem dX12_readNumber_81 : decode cX12_readNumber 81 = .ok (.getfield 89, 3) := by decide +kernel
theorem dX12_readNumber_84 : decode cX12_readNumber 84 = .ok (.isub, 1) := by decide +kernel
theorem dX12_readNumber_85 : decode cX12_readNumber 85 = .ok (.iconst 1, 1) := by decide +kernel
theorem dX12_readNumber_86 : decode cX12_readNumber 86 = .ok (.if_icmp .le 21, 3) := by decide +kernel
theorem dX12_readNumber_89 : decode cX12_readNumber 89 = .ok (.aload_n 0, 1) := by decide +kernel
theorem dX12_readNumber_90 : decode cX12_readNumber 90 = .ok (.getfield 7, 3) := by decide +kernel
theorem dX12_readNumber_93 : decode cX12_readNumber 93 = .ok (.aload_n 0, 1) := by decide +kernel
theorem dX12_readNumber_94 : decode cX12_readNumber 94 = .ok (.getfield 89, 3) := by decide +kernel
theorem dX12_readNumber_97 : decode cX12_readNumber 97 = .ok (.iaload, 1) := by decide +kernel
theorem dX12_readNumber_98 : decode cX12_readNumber 98 = .ok (.bipush 48, 2) := by decide +kernel
theorem dX12_readNumber_100 : decode cX12_readNumber 100 = .ok (.if_icmp .ne 7, 3) := by decide +kernel
theorem dX12_readNumber_103 : decode cX12_readNumber 103 = .ok (.iconst 4, 1) := by decide +kernel
theorem dX12_readNumber_104 : decode cX12_readNumber 104 = .ok (.goto 4, 3) := by decide +kernel
theorem dX12_readNumber_107 : decode cX12_readNumber 107 = .ok (.iconst 2, 1) := by decide +kernel
theorem dX12_readNumber_108 : decode cX12_readNumber 108 = .ok (.putfield 92, 3) := by decide +kernel
theorem dX12_readNumber_111 : decode cX12_readNumber 111 = .ok (.aload_n 0, 1) := by decide +kernel
theorem dX12_readNumber_112 : decode cX12_readNumber 112 = .ok (.iload_n 1, 1) := by decide +kernel
theorem dX12_readNumber_113 : decode cX12_readNumber 113 = .ok (.putfield 82, 3) := by decide +kernel
theorem dX12_readNumber_116 : decode cX12_readNumber 116 = .ok (.return_, 1) := by decide +kernel
theorem dX12_reads_0 : decode cX12_reads 0 = .ok (.aload_n 0, 1) := by decide +kernel
theorem dX12_reads_1 : decode cX12_reads 1 = .ok (.getfield 79, 3) := by decide +kernel
theorem dX12_reads_4 : decode cX12_reads 4 = .ok (.aload_n 0, 1) := by decide +kernel
theorem dX12_reads_5 : decode cX12_reads 5 = .ok (.getfield 67, 3) := by decide +kernel
theorem dX12_reads_8 : decode cX12_reads 8 = .ok (.if_icmp .ge 30, 3) := by decide +kernel
theorem dX12_reads_11 : decode cX12_reads 11 = .ok (.aload_n 0, 1) := by decide +kernel
theorem dX12_reads_12 : decode cX12_reads 12 = .ok (.getfield 7, 3) := by decide +kernel
theorem dX12_reads_15 : decode cX12_reads 15 = .ok (.aload_n 0, 1) := by decide +kernel
theorem dX12_reads_16 : decode cX12_reads 16 = .ok (.getfield 79, 3) := by decide +kernel
theorem dX12_reads_19 : decode cX12_reads 19 = .ok (.iaload, 1) := by decide +kernel
theorem dX12_reads_20 : decode cX12_reads 20 = .ok (.bipush 32, 2) := by decide +kernel
theorem dX12_reads_22 : decode cX12_reads 22 = .ok (.if_icmp .ne 16, 3) := by decide +kernel
theorem dX12_reads_25 : decode cX12_reads 25 = .ok (.aload_n 0, 1) := by decide +kernel
theorem dX12_reads_26 : decode cX12_reads 26 = .ok (.dup, 1) := by decide +kernel
theorem dX12_reads_27 : decode cX12_reads 27 = .ok (.getfield 79, 3) := by decide +kernel
theorem dX12_reads_30 : decode cX12_reads 30 = .ok (.iconst 1, 1) := by decide +kernel
theorem dX12_reads_31 : decode cX12_reads 31 = .ok (.iadd, 1) := by decide +kernel
theorem dX12_reads_32 : decode cX12_reads 32 = .ok (.putfield 79, 3) := by decide +kernel
theorem dX12_reads_35 : decode cX12_reads 35 = .ok (.goto (-35), 3) := by decide +kernel
theorem dX12_reads_38 : decode cX12_reads 38 = .ok (.aload_n 0, 1) := by decide +kernel
theorem dX12_reads_39 : decode cX12_reads 39 = .ok (.aload_n 0, 1) := by decide +kernel
theorem dX12_reads_40 : decode cX12_reads 40 = .ok (.getfield 79, 3) := by decide +kernel
theorem dX12_reads_43 : decode cX12_reads 43 = .ok (.putfield 89, 3) := by decide +kernel
theorem dX12_reads_46 : decode cX12_reads 46 = .ok (.aload_n 0, 1) := by decide +kernel
theorem dX12_reads_47 : decode cX12_reads 47 = .ok (.getfield 79, 3) := by decide +kernel
theorem dX12_reads_50 : decode cX12_reads 50 = .ok (.aload_n 0, 1) := by decide +kernel
theorem dX12_reads_51 : decode cX12_reads 51 = .ok (.getfield 67, 3) := by decide +kernel
theorem dX12_reads_54 : decode cX12_reads 54 = .ok (.if_icmp .ne 11, 3) := by decide +kernel
theorem dX12_reads_57 : decode cX12_reads 57 = .ok (.aload_n 0, 1) := by decide +kernel
theorem dX12_reads_58 : decode cX12_reads 58 = .ok (.iconst 0, 1) := by decide +kernel
theorem dX12_reads_59 : decode cX12_reads 59 = .ok (.putfield 92, 3) := by decide +kernel
theorem dX12_reads_62 : decode cX12_reads 62 = .ok (.goto 92, 3) := by decide +kernel
theorem dX12_reads_65 : decode cX12_reads 65 = .ok (.aload_n 0, 1) := by decide +kernel
theorem dX12_reads_66 : decode cX12_reads 66 = .ok (.getfield 7, 3) := by decide +kernel
theorem dX12_reads_69 : decode cX12_reads 69 = .ok (.aload_n 0, 1) := by decide +kernel
theorem dX12_reads_70 : decode cX12_reads 70 = .ok (.getfield 79, 3) := by decide +kernel
theorem dX12_reads_73 : decode cX12_reads 73 = .ok (.iaload, 1) := by decide +kernel
theorem dX12_reads_74 : decode cX12_reads 74 = .ok (.invokestatic 85, 3) := by decide +kernel
theorem dX12_reads_77 : decode cX12_reads 77 = .ok (.ifCond .eq 10, 3) := by decide +kernel
theorem dX12_reads_80 : decode cX12_reads 80 = .ok (.aload_n 0, 1) := by decide +kernel
theorem dX12_reads_81 : decode cX12_reads 81 = .ok (.invokevirtual 98, 3) := by decide +kernel
theorem dX12_reads_84 : decode cX12_reads 84 = .ok (.goto 70, 3) := by decide +kernel
theorem dX12_reads_87 : decode cX12_reads 87 = .ok (.aload_n 0, 1) := by decide +kernel
theorem dX12_reads_88 : decode cX12_reads 88 = .ok (.getfield 7, 3) := by decide +kernel
theorem dX12_reads_91 : decode cX12_reads 91 = .ok (.aload_n 0, 1) := by decide +kernel
theorem dX12_reads_92 : decode cX12_reads 92 = .ok (.getfield 79, 3) := by decide +kernel
theorem dX12_reads_95 : decode cX12_reads 95 = .ok (.iaload, 1) := by decide +kernel
theorem dX12_reads_96 : decode cX12_reads 96 = .ok (.invokestatic 95, 3) := by decide +kernel
theorem dX12_reads_99 : decode cX12_reads 99 = .ok (.ifCond .eq 10, 3) := by decide +kernel
theorem dX12_reads_102 : decode cX12_reads 102 = .ok (.aload_n 0, 1) := by decide +kernel
theorem dX12_reads_103 : decode cX12_reads 103 = .ok (.invokevirtual 101, 3) := by decide +kernel
theorem dX12_reads_106 : decode cX12_reads 106 = .ok (.goto 48, 3) := by decide +kernel
theorem dX12_reads_109 : decode cX12_reads 109 = .ok (.aload_n 0, 1) := by decide +kernel
theorem dX12_reads_110 : decode cX12_reads 110 = .ok (.aload_n 0, 1) := by decide +kernel
theorem dX12_reads_111 : decode cX12_reads 111 = .ok (.getfield 7, 3) := by decide +kernel
theorem dX12_reads_114 : decode cX12_reads 114 = .ok (.aload_n 0, 1) := by decide +kernel
theorem dX12_reads_115 : decode cX12_reads 115 = .ok (.getfield 79, 3) := by decide +kernel
theorem dX12_reads_118 : decode cX12_reads 118 = .ok (.iaload, 1) := by decide +kernel
theorem dX12_reads_119 : decode cX12_reads 119 = .ok (.bipush 59, 2) := by decide +kernel
theorem dX12_reads_121 : decode cX12_reads 121 = .ok (.if_icmp .ne 7, 3) := by decide +kernel
theorem dX12_reads_124 : decode cX12_reads 124 = .ok (.iconst 3, 1) := by decide +kernel
theorem dX12_reads_125 : decode cX12_reads 125 = .ok (.goto 4, 3) := by decide +kernel
theorem dX12_reads_128 : decode cX12_reads 128 = .ok (.iconst 4, 1) := by decide +kernel
theorem dX12_reads_129 : decode cX12_reads 129 = .ok (.putfield 92, 3) := by decide +kernel
theorem dX12_reads_132 : decode cX12_reads 132 = .ok (.aload_n 0, 1) := by decide +kernel
theorem dX12_reads_133 : decode cX12_reads 133 = .ok (.dup, 1) := by decide +kernel
theorem dX12_reads_134 : decode cX12_reads 134 = .ok (.getfield 79, 3) := by decide +kernel
theorem dX12_reads_137 : decode cX12_reads 137 = .ok (.aload_n 0, 1) := by decide +kernel
theorem dX12_reads_138 : decode cX12_reads 138 = .ok (.getfield 92, 3) := by decide +kernel
theorem dX12_reads_141 : decode cX12_reads 141 = .ok (.iconst 3, 1) := by decide +kernel
theorem dX12_reads_142 : decode cX12_reads 142 = .ok (.if_icmp .ne 7, 3) := by decide +kernel
theorem dX12_reads_145 : decode cX12_reads 145 = .ok (.iconst 1, 1) := by decide +kernel
theorem dX12_reads_146 : decode cX12_reads 146 = .ok (.goto 4, 3) := by decide +kernel
theorem dX12_reads_149 : decode cX12_reads 149 = .ok (.iconst 0, 1) := by decide +kernel
theorem dX12_reads_150 : decode cX12_reads 150 = .ok (.iadd, 1) := by decide +kernel
theorem dX12_reads_151 : decode cX12_reads 151 = .ok (.putfield 79, 3) := by decide +kernel
theorem dX12_reads_154 : decode cX12_reads 154 = .ok (.return_, 1) := by decide +kernel
theorem dX12_number_0 : decode cX12_number 0 = .ok (.aload_n 0, 1) := by decide +kernel
theorem dX12_number_1 : decode cX12_number 1 = .ok (.invokevirtual 104, 3) := by decide +kernel
theorem dX12_number_4 : decode cX12_number 4 = .ok (.aload_n 0, 1) := by decide +kernel
theorem dX12_number_5 : decode cX12_number 5 = .ok (.getfield 92, 3) := by decide +kernel
theorem dX12_number_8 : decode cX12_number 8 = .ok (.iconst 2, 1) := by decide +kernel
theorem dX12_number_9 : decode cX12_number 9 = .ok (.if_icmp .ne 22, 3) := by decide +kernel
theorem dX12_number_12 : decode cX12_number 12 = .ok (.aload_n 0, 1) := by decide +kernel
theorem dX12_number_13 : decode cX12_number 13 = .ok (.getfield 82, 3) := by decide +kernel
theorem dX12_number_16 : decode cX12_number 16 = .ok (.i2l, 1) := by decide +kernel
theorem dX12_number_17 : decode cX12_number 17 = .ok (.iload_n 1, 1) := by decide +kernel
theorem dX12_number_18 : decode cX12_number 18 = .ok (.i2l, 1) := by decide +kernel
theorem dX12_number_19 : decode cX12_number 19 = .ok (.iload_n 2, 1) := by decide +kernel
theorem dX12_number_20 : decode cX12_number 20 = .ok (.i2l, 1) := by decide +kernel
theorem dX12_number_21 : decode cX12_number 21 = .ok (.invokestatic 63, 3) := by decide +kernel
theorem dX12_number_24 : decode cX12_number 24 = .ok (.ifCond .eq 7, 3) := by decide +kernel
theorem dX12_number_27 : decode cX12_number 27 = .ok (.iconst 1, 1) := by decide +kernel
theorem dX12_number_28 : decode cX12_number 28 = .ok (.goto 4, 3) := by decide +kernel
theorem dX12_number_31 : decode cX12_number 31 = .ok (.iconst 0, 1) := by decide +kernel
theorem dX12_number_32 : decode cX12_number 32 = .ok (.ireturn, 1) := by decide +kernel
theorem dX12_readTale_0 : decode cX12_readTale 0 = .ok (.aload_n 0, 1) := by decide +kernel
theorem dX12_readTale_1 : decode cX12_readTale 1 = .ok (.getfield 107, 3) := by decide +kernel
theorem dX12_readTale_4 : decode cX12_readTale 4 = .ok (.bipush 6, 2) := by decide +kernel
theorem dX12_readTale_6 : decode cX12_readTale 6 = .ok (.if_icmp .eq 13, 3) := by decide +kernel
theorem dX12_readTale_9 : decode cX12_readTale 9 = .ok (.aload_n 0, 1) := by decide +kernel
theorem dX12_readTale_10 : decode cX12_readTale 10 = .ok (.iconst 1, 1) := by decide +kernel
theorem dX12_readTale_11 : decode cX12_readTale 11 = .ok (.bipush 9, 2) := by decide +kernel
theorem dX12_readTale_13 : decode cX12_readTale 13 = .ok (.invokevirtual 110, 3) := by decide +kernel
theorem dX12_readTale_16 : decode cX12_readTale 16 = .ok (.ifCond .ne 5, 3) := by decide +kernel
theorem dX12_readTale_19 : decode cX12_readTale 19 = .ok (.iconst 0, 1) := by decide +kernel
theorem dX12_readTale_20 : decode cX12_readTale 20 = .ok (.ireturn, 1) := by decide +kernel
theorem dX12_readTale_21 : decode cX12_readTale 21 = .ok (.aload_n 0, 1) := by decide +kernel
theorem dX12_readTale_22 : decode cX12_readTale 22 = .ok (.getfield 13, 3) := by decide +kernel
theorem dX12_readTale_25 : decode cX12_readTale 25 = .ok (.aload_n 0, 1) := by decide +kernel
theorem dX12_readTale_26 : decode cX12_readTale 26 = .ok (.getfield 107, 3) := by decide +kernel
theorem dX12_readTale_29 : decode cX12_readTale 29 = .ok (.aload_n 0, 1) := by decide +kernel
theorem dX12_readTale_30 : decode cX12_readTale 30 = .ok (.getfield 82, 3) := by decide +kernel
theorem dX12_readTale_33 : decode cX12_readTale 33 = .ok (.iastore, 1) := by decide +kernel
theorem dX12_readTale_34 : decode cX12_readTale 34 = .ok (.aload_n 0, 1) := by decide +kernel
theorem dX12_readTale_35 : decode cX12_readTale 35 = .ok (.invokevirtual 104, 3) := by decide +kernel
theorem dX12_readTale_38 : decode cX12_readTale 38 = .ok (.aload_n 0, 1) := by decide +kernel
theorem dX12_readTale_39 : decode cX12_readTale 39 = .ok (.getfield 92, 3) := by decide +kernel
theorem dX12_readTale_42 : decode cX12_readTale 42 = .ok (.iconst 2, 1) := by decide +kernel
theorem dX12_readTale_43 : decode cX12_readTale 43 = .ok (.if_icmp .ne 23, 3) := by decide +kernel
theorem dX12_readTale_46 : decode cX12_readTale 46 = .ok (.aload_n 0, 1) := by decide +kernel
theorem dX12_readTale_47 : decode cX12_readTale 47 = .ok (.getfield 82, 3) := by decide +kernel
theorem dX12_readTale_50 : decode cX12_readTale 50 = .ok (.bipush 9, 2) := by decide +kernel
theorem dX12_readTale_52 : decode cX12_readTale 52 = .ok (.if_icmp .eq 16, 3) := by decide +kernel
theorem dX12_readTale_55 : decode cX12_readTale 55 = .ok (.aload_n 0, 1) := by decide +kernel
theorem dX12_readTale_56 : decode cX12_readTale 56 = .ok (.getfield 82, 3) := by decide +kernel
theorem dX12_readTale_59 : decode cX12_readTale 59 = .ok (.aload_n 0, 1) := by decide +kernel
theorem dX12_readTale_60 : decode cX12_readTale 60 = .ok (.getfield 107, 3) := by decide +kernel
theorem dX12_readTale_63 : decode cX12_readTale 63 = .ok (.if_icmp .lt 5, 3) := by decide +kernel
theorem dX12_readTale_66 : decode cX12_readTale 66 = .ok (.iconst 0, 1) := by decide +kernel
theorem dX12_readTale_67 : decode cX12_readTale 67 = .ok (.ireturn, 1) := by decide +kernel
theorem dX12_readTale_68 : decode cX12_readTale 68 = .ok (.aload_n 0, 1) := by decide +kernel
theorem dX12_readTale_69 : decode cX12_readTale 69 = .ok (.getfield 16, 3) := by decide +kernel
theorem dX12_readTale_72 : decode cX12_readTale 72 = .ok (.aload_n 0, 1) := by decide +kernel
theorem dX12_readTale_73 : decode cX12_readTale 73 = .ok (.getfield 107, 3) := by decide +kernel
theorem dX12_readTale_76 : decode cX12_readTale 76 = .ok (.aload_n 0, 1) := by decide +kernel
theorem dX12_readTale_77 : decode cX12_readTale 77 = .ok (.getfield 82, 3) := by decide +kernel
theorem dX12_readTale_80 : decode cX12_readTale 80 = .ok (.iastore, 1) := by decide +kernel
theorem dX12_readTale_81 : decode cX12_readTale 81 = .ok (.aload_n 0, 1) := by decide +kernel
theorem dX12_readTale_82 : decode cX12_readTale 82 = .ok (.dup, 1) := by decide +kernel
theorem dX12_readTale_83 : decode cX12_readTale 83 = .ok (.getfield 107, 3) := by decide +kernel
theorem dX12_readTale_86 : decode cX12_readTale 86 = .ok (.iconst 1, 1) := by decide +kernel
theorem dX12_readTale_87 : decode cX12_readTale 87 = .ok (.iadd, 1) := by decide +kernel
theorem dX12_readTale_88 : decode cX12_readTale 88 = .ok (.putfield 107, 3) := by decide +kernel
theorem dX12_readTale_91 : decode cX12_readTale 91 = .ok (.aload_n 0, 1) := by decide +kernel
theorem dX12_readTale_92 : decode cX12_readTale 92 = .ok (.invokevirtual 104, 3) := by decide +kernel
theorem dX12_readTale_95 : decode cX12_readTale 95 = .ok (.aload_n 0, 1) := by decide +kernel
theorem dX12_readTale_96 : decode cX12_readTale 96 = .ok (.getfield 92, 3) := by decide +kernel
theorem dX12_readTale_99 : decode cX12_readTale 99 = .ok (.iconst 3, 1) := by decide +kernel
theorem dX12_readTale_100 : decode cX12_readTale 100 = .ok (.if_icmp .ne 7, 3) := by decide +kernel
theorem dX12_readTale_103 : decode cX12_readTale 103 = .ok (.iconst 1, 1) := by decide +kernel
theorem dX12_readTale_104 : decode cX12_readTale 104 = .ok (.goto 4, 3) := by decide +kernel
theorem dX12_readTale_107 : decode cX12_readTale 107 = .ok (.iconst 0, 1) := by decide +kernel
theorem dX12_readTale_108 : decode cX12_readTale 108 = .ok (.ireturn, 1) := by decide +kernel
theorem dX12_readNights_0 : decode cX12_readNights 0 = .ok (.aload_n 0, 1) := by decide +kernel
theorem dX12_readNights_1 : decode cX12_readNights 1 = .ok (.getfield 114, 3) := by decide +kernel
theorem dX12_readNights_4 : decode cX12_readNights 4 = .ok (.ifCond .gt 13, 3) := by decide +kernel
theorem dX12_readNights_7 : decode cX12_readNights 7 = .ok (.aload_n 0, 1) := by decide +kernel
theorem dX12_readNights_8 : decode cX12_readNights 8 = .ok (.iconst 1, 1) := by decide +kernel
theorem dX12_readNights_9 : decode cX12_readNights 9 = .ok (.bipush 9, 2) := by decide +kernel
theorem dX12_readNights_11 : decode cX12_readNights 11 = .ok (.invokevirtual 110, 3) := by decide +kernel
theorem dX12_readNights_14 : decode cX12_readNights 14 = .ok (.ifCond .ne 5, 3) := by decide +kernel
theorem dX12_readNights_17 : decode cX12_readNights 17 = .ok (.iconst 0, 1) := by decide +kernel
theorem dX12_readNights_18 : decode cX12_readNights 18 = .ok (.ireturn, 1) := by decide +kernel
theorem dX12_readNights_19 : decode cX12_readNights 19 = .ok (.aload_n 0, 1) := by decide +kernel
theorem dX12_readNights_20 : decode cX12_readNights 20 = .ok (.getfield 92, 3) := by decide +kernel
theorem dX12_readNights_23 : decode cX12_readNights 23 = .ok (.iconst 2, 1) := by decide +kernel
theorem dX12_readNights_24 : decode cX12_readNights 24 = .ok (.if_icmp .ne 59, 3) := by decide +kernel
theorem dX12_readNights_27 : decode cX12_readNights 27 = .ok (.aload_n 0, 1) := by decide +kernel
theorem dX12_readNights_28 : decode cX12_readNights 28 = .ok (.getfield 114, 3) := by decide +kernel
theorem dX12_readNights_31 : decode cX12_readNights 31 = .ok (.bipush 8, 2) := by decide +kernel
theorem dX12_readNights_33 : decode cX12_readNights 33 = .ok (.if_icmp .eq 18, 3) := by decide +kernel
theorem dX12_readNights_36 : decode cX12_readNights 36 = .ok (.aload_n 0, 1) := by decide +kernel
theorem dX12_readNights_37 : decode cX12_readNights 37 = .ok (.getfield 82, 3) := by decide +kernel
theorem dX12_readNights_40 : decode cX12_readNights 40 = .ok (.i2l, 1) := by decide +kernel
theorem dX12_readNights_41 : decode cX12_readNights 41 = .ok (.lconst 1, 1) := by decide +kernel
theorem dX12_readNights_42 : decode cX12_readNights 42 = .ok (.ldc2_w 117, 3) := by decide +kernel
theorem dX12_readNights_45 : decode cX12_readNights 45 = .ok (.invokestatic 63, 3) := by decide +kernel
theorem dX12_readNights_48 : decode cX12_readNights 48 = .ok (.ifCond .ne 5, 3) := by decide +kernel
theorem dX12_readNights_51 : decode cX12_readNights 51 = .ok (.iconst 0, 1) := by decide +kernel
theorem dX12_readNights_52 : decode cX12_readNights 52 = .ok (.ireturn, 1) := by decide +kernel
theorem dX12_readNights_53 : decode cX12_readNights 53 = .ok (.aload_n 0, 1) := by decide +kernel
theorem dX12_readNights_54 : decode cX12_readNights 54 = .ok (.getfield 19, 3) := by decide +kernel
theorem dX12_readNights_57 : decode cX12_readNights 57 = .ok (.aload_n 0, 1) := by decide +kernel
theorem dX12_readNights_58 : decode cX12_readNights 58 = .ok (.getfield 114, 3) := by decide +kernel
theorem dX12_readNights_61 : decode cX12_readNights 61 = .ok (.aload_n 0, 1) := by decide +kernel
theorem dX12_readNights_62 : decode cX12_readNights 62 = .ok (.getfield 82, 3) := by decide +kernel
theorem dX12_readNights_65 : decode cX12_readNights 65 = .ok (.iastore, 1) := by decide +kernel
theorem dX12_readNights_66 : decode cX12_readNights 66 = .ok (.aload_n 0, 1) := by decide +kernel
theorem dX12_readNights_67 : decode cX12_readNights 67 = .ok (.dup, 1) := by decide +kernel
theorem dX12_readNights_68 : decode cX12_readNights 68 = .ok (.getfield 114, 3) := by decide +kernel
theorem dX12_readNights_71 : decode cX12_readNights 71 = .ok (.iconst 1, 1) := by decide +kernel
theorem dX12_readNights_72 : decode cX12_readNights 72 = .ok (.iadd, 1) := by decide +kernel
theorem dX12_readNights_73 : decode cX12_readNights 73 = .ok (.putfield 114, 3) := by decide +kernel
theorem dX12_readNights_76 : decode cX12_readNights 76 = .ok (.aload_n 0, 1) := by decide +kernel
theorem dX12_readNights_77 : decode cX12_readNights 77 = .ok (.invokevirtual 104, 3) := by decide +kernel
theorem dX12_readNights_80 : decode cX12_readNights 80 = .ok (.goto (-61), 3) := by decide +kernel
theorem dX12_readNights_83 : decode cX12_readNights 83 = .ok (.aload_n 0, 1) := by decide +kernel
theorem dX12_readNights_84 : decode cX12_readNights 84 = .ok (.getfield 92, 3) := by decide +kernel
theorem dX12_readNights_87 : decode cX12_readNights 87 = .ok (.iconst 3, 1) := by decide +kernel
theorem dX12_readNights_88 : decode cX12_readNights 88 = .ok (.if_icmp .ne 7, 3) := by decide +kernel
theorem dX12_readNights_91 : decode cX12_readNights 91 = .ok (.iconst 1, 1) := by decide +kernel
theorem dX12_readNights_92 : decode cX12_readNights 92 = .ok (.goto 4, 3) := by decide +kernel
theorem dX12_readNights_95 : decode cX12_readNights 95 = .ok (.iconst 0, 1) := by decide +kernel
theorem dX12_readNights_96 : decode cX12_readNights 96 = .ok (.ireturn, 1) := by decide +kernel
theorem dX12_readItem_0 : decode cX12_readItem 0 = .ok (.aload_n 0, 1) := by decide +kernel
theorem dX12_readItem_1 : decode cX12_readItem 1 = .ok (.getfield 82, 3) := by decide +kernel
theorem dX12_readItem_4 : decode cX12_readItem 4 = .ok (.istore_n 1, 1) := by decide +kernel
theorem dX12_readItem_5 : decode cX12_readItem 5 = .ok (.aload_n 0, 1) := by decide +kernel
theorem dX12_readItem_6 : decode cX12_readItem 6 = .ok (.getfield 92, 3) := by decide +kernel
theorem dX12_readItem_9 : decode cX12_readItem 9 = .ok (.iconst 1, 1) := by decide +kernel
theorem dX12_readItem_10 : decode cX12_readItem 10 = .ok (.if_icmp .eq 5, 3) := by decide +kernel
theorem dX12_readItem_13 : decode cX12_readItem 13 = .ok (.iconst 0, 1) := by decide +kernel
theorem dX12_readItem_14 : decode cX12_readItem 14 = .ok (.ireturn, 1) := by decide +kernel
theorem dX12_readItem_15 : decode cX12_readItem 15 = .ok (.iload_n 1, 1) := by decide +kernel
theorem dX12_readItem_16 : decode cX12_readItem 16 = .ok (.bipush 116, 2) := by decide +kernel
theorem dX12_readItem_18 : decode cX12_readItem 18 = .ok (.if_icmp .ne 8, 3) := by decide +kernel
theorem dX12_readItem_21 : decode cX12_readItem 21 = .ok (.aload_n 0, 1) := by decide +kernel
theorem dX12_readItem_22 : decode cX12_readItem 22 = .ok (.invokevirtual 119, 3) := by decide +kernel
theorem dX12_readItem_25 : decode cX12_readItem 25 = .ok (.ireturn, 1) := by decide +kernel
theorem dX12_readItem_26 : decode cX12_readItem 26 = .ok (.iload_n 1, 1) := by decide +kernel
theorem dX12_readItem_27 : decode cX12_readItem 27 = .ok (.bipush 110, 2) := by decide +kernel
theorem dX12_readItem_29 : decode cX12_readItem 29 = .ok (.if_icmp .ne 8, 3) := by decide +kernel
theorem dX12_readItem_32 : decode cX12_readItem 32 = .ok (.aload_n 0, 1) := by decide +kernel
theorem dX12_readItem_33 : decode cX12_readItem 33 = .ok (.invokevirtual 123, 3) := by decide +kernel
theorem dX12_readItem_36 : decode cX12_readItem 36 = .ok (.ireturn, 1) := by decide +kernel
theorem dX12_readItem_37 : decode cX12_readItem 37 = .ok (.iload_n 1, 1) := by decide +kernel
theorem dX12_readItem_38 : decode cX12_readItem 38 = .ok (.bipush 109, 2) := by decide +kernel
theorem dX12_readItem_40 : decode cX12_readItem 40 = .ok (.if_icmp .ne 33, 3) := by decide +kernel
theorem dX12_readItem_43 : decode cX12_readItem 43 = .ok (.aload_n 0, 1) := by decide +kernel
theorem dX12_readItem_44 : decode cX12_readItem 44 = .ok (.getfield 125, 3) := by decide +kernel
theorem dX12_readItem_47 : decode cX12_readItem 47 = .ok (.ifCond .gt 13, 3) := by decide +kernel
theorem dX12_readItem_50 : decode cX12_readItem 50 = .ok (.aload_n 0, 1) := by decide +kernel
theorem dX12_readItem_51 : decode cX12_readItem 51 = .ok (.iconst 1, 1) := by decide +kernel
theorem dX12_readItem_52 : decode cX12_readItem 52 = .ok (.bipush 9, 2) := by decide +kernel
theorem dX12_readItem_54 : decode cX12_readItem 54 = .ok (.invokevirtual 110, 3) := by decide +kernel
theorem dX12_readItem_57 : decode cX12_readItem 57 = .ok (.ifCond .ne 5, 3) := by decide +kernel
theorem dX12_readItem_60 : decode cX12_readItem 60 = .ok (.iconst 0, 1) := by decide +kernel
theorem dX12_readItem_61 : decode cX12_readItem 61 = .ok (.ireturn, 1) := by decide +kernel
theorem dX12_readItem_62 : decode cX12_readItem 62 = .ok (.aload_n 0, 1) := by decide +kernel
theorem dX12_readItem_63 : decode cX12_readItem 63 = .ok (.aload_n 0, 1) := by decide +kernel
theorem dX12_readItem_64 : decode cX12_readItem 64 = .ok (.getfield 82, 3) := by decide +kernel
theorem dX12_readItem_67 : decode cX12_readItem 67 = .ok (.putfield 125, 3) := by decide +kernel
theorem dX12_readItem_70 : decode cX12_readItem 70 = .ok (.goto 30, 3) := by decide +kernel
theorem dX12_readItem_73 : decode cX12_readItem 73 = .ok (.aload_n 0, 1) := by decide +kernel
theorem dX12_readItem_74 : decode cX12_readItem 74 = .ok (.getfield 128, 3) := by decide +kernel
theorem dX12_readItem_77 : decode cX12_readItem 77 = .ok (.ifCond .gt 13, 3) := by decide +kernel
theorem dX12_readItem_80 : decode cX12_readItem 80 = .ok (.aload_n 0, 1) := by decide +kernel
theorem dX12_readItem_81 : decode cX12_readItem 81 = .ok (.iconst 1, 1) := by decide +kernel
theorem dX12_readItem_82 : decode cX12_readItem 82 = .ok (.bipush 6, 2) := by decide +kernel
theorem dX12_readItem_84 : decode cX12_readItem 84 = .ok (.invokevirtual 110, 3) := by decide +kernel
theorem dX12_readItem_87 : decode cX12_readItem 87 = .ok (.ifCond .ne 5, 3) := by decide +kernel
theorem dX12_readItem_90 : decode cX12_readItem 90 = .ok (.iconst 0, 1) := by decide +kernel
theorem dX12_readItem_91 : decode cX12_readItem 91 = .ok (.ireturn, 1) := by decide +kernel
theorem dX12_readItem_92 : decode cX12_readItem 92 = .ok (.aload_n 0, 1) := by decide +kernel
theorem dX12_readItem_93 : decode cX12_readItem 93 = .ok (.aload_n 0, 1) := by decide +kernel
theorem dX12_readItem_94 : decode cX12_readItem 94 = .ok (.getfield 82, 3) := by decide +kernel
theorem dX12_readItem_97 : decode cX12_readItem 97 = .ok (.putfield 128, 3) := by decide +kernel
theorem dX12_readItem_100 : decode cX12_readItem 100 = .ok (.aload_n 0, 1) := by decide +kernel
theorem dX12_readItem_101 : decode cX12_readItem 101 = .ok (.invokevirtual 104, 3) := by decide +kernel
theorem dX12_readItem_104 : decode cX12_readItem 104 = .ok (.aload_n 0, 1) := by decide +kernel
theorem dX12_readItem_105 : decode cX12_readItem 105 = .ok (.getfield 92, 3) := by decide +kernel
theorem dX12_readItem_108 : decode cX12_readItem 108 = .ok (.iconst 3, 1) := by decide +kernel
theorem dX12_readItem_109 : decode cX12_readItem 109 = .ok (.if_icmp .ne 7, 3) := by decide +kernel
theorem dX12_readItem_112 : decode cX12_readItem 112 = .ok (.iconst 1, 1) := by decide +kernel
theorem dX12_readItem_113 : decode cX12_readItem 113 = .ok (.goto 4, 3) := by decide +kernel
theorem dX12_readItem_116 : decode cX12_readItem 116 = .ok (.iconst 0, 1) := by decide +kernel
theorem dX12_readItem_117 : decode cX12_readItem 117 = .ok (.ireturn, 1) := by decide +kernel
theorem dX12_tales_0 : decode cX12_tales 0 = .ok (.aload_n 0, 1) := by decide +kernel
theorem dX12_tales_1 : decode cX12_tales 1 = .ok (.iconst 0, 1) := by decide +kernel
theorem dX12_tales_2 : decode cX12_tales 2 = .ok (.putfield 79, 3) := by decide +kernel
theorem dX12_tales_5 : decode cX12_tales 5 = .ok (.aload_n 0, 1) := by decide +kernel
theorem dX12_tales_6 : decode cX12_tales 6 = .ok (.iconst 0, 1) := by decide +kernel
theorem dX12_tales_7 : decode cX12_tales 7 = .ok (.putfield 107, 3) := by decide +kernel
theorem dX12_tales_10 : decode cX12_tales 10 = .ok (.aload_n 0, 1) := by decide +kernel
theorem dX12_tales_11 : decode cX12_tales 11 = .ok (.iconst 0, 1) := by decide +kernel
theorem dX12_tales_12 : decode cX12_tales 12 = .ok (.putfield 114, 3) := by decide +kernel
theorem dX12_tales_15 : decode cX12_tales 15 = .ok (.aload_n 0, 1) := by decide +kernel
theorem dX12_tales_16 : decode cX12_tales 16 = .ok (.iconst 0, 1) := by decide +kernel
theorem dX12_tales_17 : decode cX12_tales 17 = .ok (.putfield 125, 3) := by decide +kernel
theorem dX12_tales_20 : decode cX12_tales 20 = .ok (.aload_n 0, 1) := by decide +kernel
theorem dX12_tales_21 : decode cX12_tales 21 = .ok (.iconst 0, 1) := by decide +kernel
theorem dX12_tales_22 : decode cX12_tales 22 = .ok (.putfield 128, 3) := by decide +kernel
theorem dX12_tales_25 : decode cX12_tales 25 = .ok (.iconst 0, 1) := by decide +kernel
theorem dX12_tales_26 : decode cX12_tales 26 = .ok (.istore_n 1, 1) := by decide +kernel
theorem dX12_tales_27 : decode cX12_tales 27 = .ok (.aload_n 0, 1) := by decide +kernel
theorem dX12_tales_28 : decode cX12_tales 28 = .ok (.invokevirtual 104, 3) := by decide +kernel
theorem dX12_tales_31 : decode cX12_tales 31 = .ok (.aload_n 0, 1) := by decide +kernel
theorem dX12_tales_32 : decode cX12_tales 32 = .ok (.getfield 92, 3) := by decide +kernel
theorem dX12_tales_35 : decode cX12_tales 35 = .ok (.ifCond .eq 28, 3) := by decide +kernel
theorem dX12_tales_38 : decode cX12_tales 38 = .ok (.aload_n 0, 1) := by decide +kernel
theorem dX12_tales_39 : decode cX12_tales 39 = .ok (.invokevirtual 131, 3) := by decide +kernel
theorem dX12_tales_42 : decode cX12_tales 42 = .ok (.ifCond .ne 11, 3) := by decide +kernel
theorem dX12_tales_45 : decode cX12_tales 45 = .ok (.bipush (-10), 2) := by decide +kernel
theorem dX12_tales_47 : decode cX12_tales 47 = .ok (.aload_n 0, 1) := by decide +kernel
theorem dX12_tales_48 : decode cX12_tales 48 = .ok (.getfield 89, 3) := by decide +kernel
theorem dX12_tales_51 : decode cX12_tales 51 = .ok (.isub, 1) := by decide +kernel
theorem dX12_tales_52 : decode cX12_tales 52 = .ok (.ireturn, 1) := by decide +kernel
theorem dX12_tales_53 : decode cX12_tales 53 = .ok (.iinc 1 1, 3) := by decide +kernel
theorem dX12_tales_56 : decode cX12_tales 56 = .ok (.aload_n 0, 1) := by decide +kernel
theorem dX12_tales_57 : decode cX12_tales 57 = .ok (.invokevirtual 104, 3) := by decide +kernel
theorem dX12_tales_60 : decode cX12_tales 60 = .ok (.goto (-29), 3) := by decide +kernel
theorem dX12_tales_63 : decode cX12_tales 63 = .ok (.aload_n 0, 1) := by decide +kernel
theorem dX12_tales_64 : decode cX12_tales 64 = .ok (.iconst 0, 1) := by decide +kernel
theorem dX12_tales_65 : decode cX12_tales 65 = .ok (.putfield 67, 3) := by decide +kernel
theorem dX12_tales_68 : decode cX12_tales 68 = .ok (.aload_n 0, 1) := by decide +kernel
theorem dX12_tales_69 : decode cX12_tales 69 = .ok (.invokevirtual 134, 3) := by decide +kernel
theorem dX12_tales_72 : decode cX12_tales 72 = .ok (.iload_n 1, 1) := by decide +kernel
theorem dX12_tales_73 : decode cX12_tales 73 = .ok (.ireturn, 1) := by decide +kernel
theorem dX12_takes_0 : decode cX12_takes 0 = .ok (.aload_n 0, 1) := by decide +kernel
theorem dX12_takes_1 : decode cX12_takes 1 = .ok (.aload_n 0, 1) := by decide +kernel
theorem dX12_takes_2 : decode cX12_takes 2 = .ok (.getfield 107, 3) := by decide +kernel
theorem dX12_takes_5 : decode cX12_takes 5 = .ok (.putfield 137, 3) := by decide +kernel
theorem dX12_takes_8 : decode cX12_takes 8 = .ok (.aload_n 0, 1) := by decide +kernel
theorem dX12_takes_9 : decode cX12_takes 9 = .ok (.aload_n 0, 1) := by decide +kernel
theorem dX12_takes_10 : decode cX12_takes 10 = .ok (.getfield 114, 3) := by decide +kernel
theorem dX12_takes_13 : decode cX12_takes 13 = .ok (.ifCond .ne 7, 3) := by decide +kernel
theorem dX12_takes_16 : decode cX12_takes 16 = .ok (.iconst 1, 1) := by decide +kernel
theorem dX12_takes_17 : decode cX12_takes 17 = .ok (.goto 7, 3) := by decide +kernel
theorem dX12_takes_20 : decode cX12_takes 20 = .ok (.aload_n 0, 1) := by decide +kernel
theorem dX12_takes_21 : decode cX12_takes 21 = .ok (.getfield 114, 3) := by decide +kernel
theorem dX12_takes_24 : decode cX12_takes 24 = .ok (.putfield 140, 3) := by decide +kernel
theorem dX12_takes_27 : decode cX12_takes 27 = .ok (.aload_n 0, 1) := by decide +kernel
theorem dX12_takes_28 : decode cX12_takes 28 = .ok (.aload_n 0, 1) := by decide +kernel
theorem dX12_takes_29 : decode cX12_takes 29 = .ok (.getfield 125, 3) := by decide +kernel
theorem dX12_takes_32 : decode cX12_takes 32 = .ok (.ifCond .ne 7, 3) := by decide +kernel
theorem dX12_takes_35 : decode cX12_takes 35 = .ok (.iconst 3, 1) := by decide +kernel
theorem dX12_takes_36 : decode cX12_takes 36 = .ok (.goto 7, 3) := by decide +kernel
theorem dX12_takes_39 : decode cX12_takes 39 = .ok (.aload_n 0, 1) := by decide +kernel
theorem dX12_takes_40 : decode cX12_takes 40 = .ok (.getfield 125, 3) := by decide +kernel
theorem dX12_takes_43 : decode cX12_takes 43 = .ok (.putfield 143, 3) := by decide +kernel
theorem dX12_takes_46 : decode cX12_takes 46 = .ok (.aload_n 0, 1) := by decide +kernel
theorem dX12_takes_47 : decode cX12_takes 47 = .ok (.aload_n 0, 1) := by decide +kernel
theorem dX12_takes_48 : decode cX12_takes 48 = .ok (.getfield 128, 3) := by decide +kernel
theorem dX12_takes_51 : decode cX12_takes 51 = .ok (.ifCond .ne 8, 3) := by decide +kernel
theorem dX12_takes_54 : decode cX12_takes 54 = .ok (.bipush 6, 2) := by decide +kernel
theorem dX12_takes_56 : decode cX12_takes 56 = .ok (.goto 7, 3) := by decide +kernel
theorem dX12_takes_59 : decode cX12_takes 59 = .ok (.aload_n 0, 1) := by decide +kernel
theorem dX12_takes_60 : decode cX12_takes 60 = .ok (.getfield 128, 3) := by decide +kernel
theorem dX12_takes_63 : decode cX12_takes 63 = .ok (.putfield 146, 3) := by decide +kernel
theorem dX12_takes_66 : decode cX12_takes 66 = .ok (.iconst 0, 1) := by decide +kernel
theorem dX12_takes_67 : decode cX12_takes 67 = .ok (.istore_n 1, 1) := by decide +kernel
theorem dX12_takes_68 : decode cX12_takes 68 = .ok (.iload_n 1, 1) := by decide +kernel
theorem dX12_takes_69 : decode cX12_takes 69 = .ok (.aload_n 0, 1) := by decide +kernel
theorem dX12_takes_70 : decode cX12_takes 70 = .ok (.getfield 137, 3) := by decide +kernel
theorem dX12_takes_73 : decode cX12_takes 73 = .ok (.if_icmp .ge 33, 3) := by decide +kernel
theorem dX12_takes_76 : decode cX12_takes 76 = .ok (.aload_n 0, 1) := by decide +kernel
theorem dX12_takes_77 : decode cX12_takes 77 = .ok (.getfield 22, 3) := by decide +kernel
theorem dX12_takes_80 : decode cX12_takes 80 = .ok (.iload_n 1, 1) := by decide +kernel
theorem dX12_takes_81 : decode cX12_takes 81 = .ok (.aload_n 0, 1) := by decide +kernel
theorem dX12_takes_82 : decode cX12_takes 82 = .ok (.getfield 13, 3) := by decide +kernel
theorem dX12_takes_85 : decode cX12_takes 85 = .ok (.iload_n 1, 1) := by decide +kernel
theorem dX12_takes_86 : decode cX12_takes 86 = .ok (.iaload, 1) := by decide +kernel
theorem dX12_takes_87 : decode cX12_takes 87 = .ok (.iastore, 1) := by decide +kernel
theorem dX12_takes_88 : decode cX12_takes 88 = .ok (.aload_n 0, 1) := by decide +kernel
theorem dX12_takes_89 : decode cX12_takes 89 = .ok (.getfield 25, 3) := by decide +kernel
theorem dX12_takes_92 : decode cX12_takes 92 = .ok (.iload_n 1, 1) := by decide +kernel
theorem dX12_takes_93 : decode cX12_takes 93 = .ok (.aload_n 0, 1) := by decide +kernel
theorem dX12_takes_94 : decode cX12_takes 94 = .ok (.getfield 16, 3) := by decide +kernel
theorem dX12_takes_97 : decode cX12_takes 97 = .ok (.iload_n 1, 1) := by decide +kernel
theorem dX12_takes_98 : decode cX12_takes 98 = .ok (.iaload, 1) := by decide +kernel
theorem dX12_takes_99 : decode cX12_takes 99 = .ok (.iastore, 1) := by decide +kernel
theorem dX12_takes_100 : decode cX12_takes 100 = .ok (.iinc 1 1, 3) := by decide +kernel
theorem dX12_takes_103 : decode cX12_takes 103 = .ok (.goto (-35), 3) := by decide +kernel
theorem dX12_takes_106 : decode cX12_takes 106 = .ok (.iconst 0, 1) := by decide +kernel
theorem dX12_takes_107 : decode cX12_takes 107 = .ok (.istore_n 1, 1) := by decide +kernel
theorem dX12_takes_108 : decode cX12_takes 108 = .ok (.iload_n 1, 1) := by decide +kernel
theorem dX12_takes_109 : decode cX12_takes 109 = .ok (.aload_n 0, 1) := by decide +kernel
theorem dX12_takes_110 : decode cX12_takes 110 = .ok (.getfield 140, 3) := by decide +kernel
theorem dX12_takes_113 : decode cX12_takes 113 = .ok (.if_icmp .ge 32, 3) := by decide +kernel
theorem dX12_takes_116 : decode cX12_takes 116 = .ok (.aload_n 0, 1) := by decide +kernel
theorem dX12_takes_117 : decode cX12_takes 117 = .ok (.getfield 28, 3) := by decide +kernel
theorem dX12_takes_120 : decode cX12_takes 120 = .ok (.iload_n 1, 1) := by decide +kernel
theorem dX12_takes_121 : decode cX12_takes 121 = .ok (.aload_n 0, 1) := by decide +kernel
theorem dX12_takes_122 : decode cX12_takes 122 = .ok (.getfield 114, 3) := by decide +kernel
theorem dX12_takes_125 : decode cX12_takes 125 = .ok (.ifCond .ne 7, 3) := by decide +kernel
theorem dX12_takes_128 : decode cX12_takes 128 = .ok (.iconst 5, 1) := by decide +kernel
theorem dX12_takes_129 : decode cX12_takes 129 = .ok (.goto 9, 3) := by decide +kernel
theorem dX12_takes_132 : decode cX12_takes 132 = .ok (.aload_n 0, 1) := by decide +kernel
theorem dX12_takes_133 : decode cX12_takes 133 = .ok (.getfield 19, 3) := by decide +kernel
theorem dX12_takes_136 : decode cX12_takes 136 = .ok (.iload_n 1, 1) := by decide +kernel
theorem dX12_takes_137 : decode cX12_takes 137 = .ok (.iaload, 1) := by decide +kernel
theorem dX12_takes_138 : decode cX12_takes 138 = .ok (.iastore, 1) := by decide +kernel
theorem dX12_takes_139 : decode cX12_takes 139 = .ok (.iinc 1 1, 3) := by decide +kernel
theorem dX12_takes_142 : decode cX12_takes 142 = .ok (.goto (-34), 3) := by decide +kernel
theorem dX12_takes_145 : decode cX12_takes 145 = .ok (.aload_n 0, 1) := by decide +kernel
theorem dX12_takes_146 : decode cX12_takes 146 = .ok (.invokevirtual 149, 3) := by decide +kernel
theorem dX12_takes_149 : decode cX12_takes 149 = .ok (.iconst 0, 1) := by decide +kernel
theorem dX12_takes_150 : decode cX12_takes 150 = .ok (.istore_n 1, 1) := by decide +kernel
theorem dX12_takes_151 : decode cX12_takes 151 = .ok (.iload_n 1, 1) := by decide +kernel
theorem dX12_takes_152 : decode cX12_takes 152 = .ok (.bipush 28, 2) := by decide +kernel
theorem dX12_takes_154 : decode cX12_takes 154 = .ok (.if_icmp .ge 21, 3) := by decide +kernel
theorem dX12_takes_157 : decode cX12_takes 157 = .ok (.aload_n 0, 1) := by decide +kernel
theorem dX12_takes_158 : decode cX12_takes 158 = .ok (.getfield 31, 3) := by decide +kernel
theorem dX12_takes_161 : decode cX12_takes 161 = .ok (.iload_n 1, 1) := by decide +kernel
theorem dX12_takes_162 : decode cX12_takes 162 = .ok (.aload_n 0, 1) := by decide +kernel
theorem dX12_takes_163 : decode cX12_takes 163 = .ok (.getfield 34, 3) := by decide +kernel
theorem dX12_takes_166 : decode cX12_takes 166 = .ok (.iload_n 1, 1) := by decide +kernel
theorem dX12_takes_167 : decode cX12_takes 167 = .ok (.iaload, 1) := by decide +kernel
theorem dX12_takes_168 : decode cX12_takes 168 = .ok (.iastore, 1) := by decide +kernel
theorem dX12_takes_169 : decode cX12_takes 169 = .ok (.iinc 1 1, 3) := by decide +kernel
theorem dX12_takes_172 : decode cX12_takes 172 = .ok (.goto (-21), 3) := by decide +kernel
theorem dX12_takes_175 : decode cX12_takes 175 = .ok (.aload_n 0, 1) := by decide +kernel
theorem dX12_takes_176 : decode cX12_takes 176 = .ok (.iconst 0, 1) := by decide +kernel
theorem dX12_takes_177 : decode cX12_takes 177 = .ok (.putfield 152, 3) := by decide +kernel
theorem dX12_takes_180 : decode cX12_takes 180 = .ok (.aload_n 0, 1) := by decide +kernel
theorem dX12_takes_181 : decode cX12_takes 181 = .ok (.iconst 0, 1) := by decide +kernel
theorem dX12_takes_182 : decode cX12_takes 182 = .ok (.putfield 155, 3) := by decide +kernel
theorem dX12_takes_185 : decode cX12_takes 185 = .ok (.aload_n 0, 1) := by decide +kernel
theorem dX12_takes_186 : decode cX12_takes 186 = .ok (.iconst 0, 1) := by decide +kernel
theorem dX12_takes_187 : decode cX12_takes 187 = .ok (.putfield 158, 3) := by decide +kernel
theorem dX12_takes_190 : decode cX12_takes 190 = .ok (.aload_n 0, 1) := by decide +kernel
theorem dX12_takes_191 : decode cX12_takes 191 = .ok (.getfield 55, 3) := by decide +kernel
theorem dX12_takes_194 : decode cX12_takes 194 = .ok (.iconst 0, 1) := by decide +kernel
theorem dX12_takes_195 : decode cX12_takes 195 = .ok (.iconst 0, 1) := by decide +kernel
theorem dX12_takes_196 : decode cX12_takes 196 = .ok (.iastore, 1) := by decide +kernel
theorem dX12_takes_197 : decode cX12_takes 197 = .ok (.aload_n 0, 1) := by decide +kernel
theorem dX12_takes_198 : decode cX12_takes 198 = .ok (.getfield 55, 3) := by decide +kernel
theorem dX12_takes_201 : decode cX12_takes 201 = .ok (.sipush 321, 3) := by decide +kernel
theorem dX12_takes_204 : decode cX12_takes 204 = .ok (.iconst 0, 1) := by decide +kernel
theorem dX12_takes_205 : decode cX12_takes 205 = .ok (.iastore, 1) := by decide +kernel
theorem dX12_takes_206 : decode cX12_takes 206 = .ok (.return_, 1) := by decide +kernel
theorem dX12_plain_0 : decode cX12_plain 0 = .ok (.aload_n 0, 1) := by decide +kernel
theorem dX12_plain_1 : decode cX12_plain 1 = .ok (.iconst 0, 1) := by decide +kernel
theorem dX12_plain_2 : decode cX12_plain 2 = .ok (.putfield 107, 3) := by decide +kernel
theorem dX12_plain_5 : decode cX12_plain 5 = .ok (.aload_n 0, 1) := by decide +kernel
theorem dX12_plain_6 : decode cX12_plain 6 = .ok (.iconst 0, 1) := by decide +kernel
theorem dX12_plain_7 : decode cX12_plain 7 = .ok (.putfield 114, 3) := by decide +kernel
theorem dX12_plain_10 : decode cX12_plain 10 = .ok (.aload_n 0, 1) := by decide +kernel
theorem dX12_plain_11 : decode cX12_plain 11 = .ok (.iconst 0, 1) := by decide +kernel
theorem dX12_plain_12 : decode cX12_plain 12 = .ok (.putfield 125, 3) := by decide +kernel
theorem dX12_plain_15 : decode cX12_plain 15 = .ok (.aload_n 0, 1) := by decide +kernel
theorem dX12_plain_16 : decode cX12_plain 16 = .ok (.iconst 0, 1) := by decide +kernel
theorem dX12_plain_17 : decode cX12_plain 17 = .ok (.putfield 128, 3) := by decide +kernel
theorem dX12_plain_20 : decode cX12_plain 20 = .ok (.aload_n 0, 1) := by decide +kernel
theorem dX12_plain_21 : decode cX12_plain 21 = .ok (.invokevirtual 134, 3) := by decide +kernel
theorem dX12_plain_24 : decode cX12_plain 24 = .ok (.return_, 1) := by decide +kernel
theorem dX12_isTale_0 : decode cX12_isTale 0 = .ok (.iload_n 1, 1) := by decide +kernel
theorem dX12_isTale_1 : decode cX12_isTale 1 = .ok (.i2l, 1) := by decide +kernel
theorem dX12_isTale_2 : decode cX12_isTale 2 = .ok (.lconst 0, 1) := by decide +kernel
theorem dX12_isTale_3 : decode cX12_isTale 3 = .ok (.aload_n 0, 1) := by decide +kernel
theorem dX12_isTale_4 : decode cX12_isTale 4 = .ok (.getfield 137, 3) := by decide +kernel
theorem dX12_isTale_7 : decode cX12_isTale 7 = .ok (.iconst 1, 1) := by decide +kernel
theorem dX12_isTale_8 : decode cX12_isTale 8 = .ok (.isub, 1) := by decide +kernel
theorem dX12_isTale_9 : decode cX12_isTale 9 = .ok (.i2l, 1) := by decide +kernel
theorem dX12_isTale_10 : decode cX12_isTale 10 = .ok (.invokestatic 63, 3) := by decide +kernel
theorem dX12_isTale_13 : decode cX12_isTale 13 = .ok (.ireturn, 1) := by decide +kernel
theorem dX12_hoursOf_0 : decode cX12_hoursOf 0 = .ok (.aload_n 0, 1) := by decide +kernel
theorem dX12_hoursOf_1 : decode cX12_hoursOf 1 = .ok (.getfield 28, 3) := by decide +kernel
theorem dX12_hoursOf_4 : decode cX12_hoursOf 4 = .ok (.iload_n 1, 1) := by decide +kernel
theorem dX12_hoursOf_5 : decode cX12_hoursOf 5 = .ok (.aload_n 0, 1) := by decide +kernel
theorem dX12_hoursOf_6 : decode cX12_hoursOf 6 = .ok (.getfield 140, 3) := by decide +kernel
theorem dX12_hoursOf_9 : decode cX12_hoursOf 9 = .ok (.irem, 1) := by decide +kernel
theorem dX12_hoursOf_10 : decode cX12_hoursOf 10 = .ok (.iaload, 1) := by decide +kernel
theorem dX12_hoursOf_11 : decode cX12_hoursOf 11 = .ok (.aload_n 0, 1) := by decide +kernel
theorem dX12_hoursOf_12 : decode cX12_hoursOf 12 = .ok (.getfield 161, 3) := by decide +kernel
theorem dX12_hoursOf_15 : decode cX12_hoursOf 15 = .ok (.iadd, 1) := by decide +kernel
theorem dX12_hoursOf_16 : decode cX12_hoursOf 16 = .ok (.ireturn, 1) := by decide +kernel
theorem dX12_beginsAnew_0 : decode cX12_beginsAnew 0 = .ok (.aload_n 0, 1) := by decide +kernel
theorem dX12_beginsAnew_1 : decode cX12_beginsAnew 1 = .ok (.getfield 34, 3) := by decide +kernel
theorem dX12_beginsAnew_4 : decode cX12_beginsAnew 4 = .ok (.iconst 0, 1) := by decide +kernel
theorem dX12_beginsAnew_5 : decode cX12_beginsAnew 5 = .ok (.iconst 0, 1) := by decide +kernel
theorem dX12_beginsAnew_6 : decode cX12_beginsAnew 6 = .ok (.iastore, 1) := by decide +kernel
theorem dX12_beginsAnew_7 : decode cX12_beginsAnew 7 = .ok (.aload_n 0, 1) := by decide +kernel
theorem dX12_beginsAnew_8 : decode cX12_beginsAnew 8 = .ok (.getfield 34, 3) := by decide +kernel
theorem dX12_beginsAnew_11 : decode cX12_beginsAnew 11 = .ok (.iconst 1, 1) := by decide +kernel
theorem dX12_beginsAnew_12 : decode cX12_beginsAnew 12 = .ok (.aload_n 0, 1) := by decide +kernel
theorem dX12_beginsAnew_13 : decode cX12_beginsAnew 13 = .ok (.iconst 0, 1) := by decide +kernel
theorem dX12_beginsAnew_14 : decode cX12_beginsAnew 14 = .ok (.invokevirtual 164, 3) := by decide +kernel
theorem dX12_beginsAnew_17 : decode cX12_beginsAnew 17 = .ok (.iastore, 1) := by decide +kernel
theorem dX12_beginsAnew_18 : decode cX12_beginsAnew 18 = .ok (.aload_n 0, 1) := by decide +kernel
theorem dX12_beginsAnew_19 : decode cX12_beginsAnew 19 = .ok (.getfield 34, 3) := by decide +kernel
theorem dX12_beginsAnew_22 : decode cX12_beginsAnew 22 = .ok (.iconst 2, 1) := by decide +kernel
theorem dX12_beginsAnew_23 : decode cX12_beginsAnew 23 = .ok (.iconst 0, 1) := by decide +kernel
theorem dX12_beginsAnew_24 : decode cX12_beginsAnew 24 = .ok (.iastore, 1) := by decide +kernel
theorem dX12_beginsAnew_25 : decode cX12_beginsAnew 25 = .ok (.aload_n 0, 1) := by decide +kernel
theorem dX12_beginsAnew_26 : decode cX12_beginsAnew 26 = .ok (.getfield 34, 3) := by decide +kernel
theorem dX12_beginsAnew_29 : decode cX12_beginsAnew 29 = .ok (.iconst 3, 1) := by decide +kernel
theorem dX12_beginsAnew_30 : decode cX12_beginsAnew 30 = .ok (.iconst 1, 1) := by decide +kernel
theorem dX12_beginsAnew_31 : decode cX12_beginsAnew 31 = .ok (.iastore, 1) := by decide +kernel
theorem dX12_beginsAnew_32 : decode cX12_beginsAnew 32 = .ok (.iconst 0, 1) := by decide +kernel
theorem dX12_beginsAnew_33 : decode cX12_beginsAnew 33 = .ok (.istore_n 1, 1) := by decide +kernel
theorem dX12_beginsAnew_34 : decode cX12_beginsAnew 34 = .ok (.iload_n 1, 1) := by decide +kernel
theorem dX12_beginsAnew_35 : decode cX12_beginsAnew 35 = .ok (.bipush 6, 2) := by decide +kernel
theorem dX12_beginsAnew_37 : decode cX12_beginsAnew 37 = .ok (.if_icmp .ge 67, 3) := by decide +kernel
theorem dX12_beginsAnew_40 : decode cX12_beginsAnew 40 = .ok (.aload_n 0, 1) := by decide +kernel
theorem dX12_beginsAnew_41 : decode cX12_beginsAnew 41 = .ok (.getfield 34, 3) := by decide +kernel
theorem dX12_beginsAnew_44 : decode cX12_beginsAnew 44 = .ok (.iconst 4, 1) := by decide +kernel
theorem dX12_beginsAnew_45 : decode cX12_beginsAnew 45 = .ok (.iload_n 1, 1) := by decide +kernel
theorem dX12_beginsAnew_46 : decode cX12_beginsAnew 46 = .ok (.iadd, 1) := by decide +kernel
theorem dX12_beginsAnew_47 : decode cX12_beginsAnew 47 = .ok (.bipush (-9), 2) := by decide +kernel
theorem dX12_beginsAnew_49 : decode cX12_beginsAnew 49 = .ok (.iastore, 1) := by decide +kernel
theorem dX12_beginsAnew_50 : decode cX12_beginsAnew 50 = .ok (.aload_n 0, 1) := by decide +kernel
theorem dX12_beginsAnew_51 : decode cX12_beginsAnew 51 = .ok (.getfield 34, 3) := by decide +kernel
theorem dX12_beginsAnew_54 : decode cX12_beginsAnew 54 = .ok (.bipush 10, 2) := by decide +kernel
theorem dX12_beginsAnew_56 : decode cX12_beginsAnew 56 = .ok (.iload_n 1, 1) := by decide +kernel
theorem dX12_beginsAnew_57 : decode cX12_beginsAnew 57 = .ok (.iadd, 1) := by decide +kernel
theorem dX12_beginsAnew_58 : decode cX12_beginsAnew 58 = .ok (.iload_n 1, 1) := by decide +kernel
theorem dX12_beginsAnew_59 : decode cX12_beginsAnew 59 = .ok (.aload_n 0, 1) := by decide +kernel
theorem dX12_beginsAnew_60 : decode cX12_beginsAnew 60 = .ok (.getfield 137, 3) := by decide +kernel
theorem dX12_beginsAnew_63 : decode cX12_beginsAnew 63 = .ok (.if_icmp .ge 12, 3) := by decide +kernel
theorem dX12_beginsAnew_66 : decode cX12_beginsAnew 66 = .ok (.aload_n 0, 1) := by decide +kernel
theorem dX12_beginsAnew_67 : decode cX12_beginsAnew 67 = .ok (.getfield 22, 3) := by decide +kernel
theorem dX12_beginsAnew_70 : decode cX12_beginsAnew 70 = .ok (.iload_n 1, 1) := by decide +kernel
theorem dX12_beginsAnew_71 : decode cX12_beginsAnew 71 = .ok (.iaload, 1) := by decide +kernel
theorem dX12_beginsAnew_72 : decode cX12_beginsAnew 72 = .ok (.goto 4, 3) := by decide +kernel
theorem dX12_beginsAnew_75 : decode cX12_beginsAnew 75 = .ok (.iconst 0, 1) := by decide +kernel
theorem dX12_beginsAnew_76 : decode cX12_beginsAnew 76 = .ok (.iastore, 1) := by decide +kernel
theorem dX12_beginsAnew_77 : decode cX12_beginsAnew 77 = .ok (.aload_n 0, 1) := by decide +kernel
theorem dX12_beginsAnew_78 : decode cX12_beginsAnew 78 = .ok (.getfield 34, 3) := by decide +kernel
theorem dX12_beginsAnew_81 : decode cX12_beginsAnew 81 = .ok (.bipush 16, 2) := by decide +kernel
theorem dX12_beginsAnew_83 : decode cX12_beginsAnew 83 = .ok (.iload_n 1, 1) := by decide +kernel
theorem dX12_beginsAnew_84 : decode cX12_beginsAnew 84 = .ok (.iadd, 1) := by decide +kernel
theorem dX12_beginsAnew_85 : decode cX12_beginsAnew 85 = .ok (.iconst 0, 1) := by decide +kernel
theorem dX12_beginsAnew_86 : decode cX12_beginsAnew 86 = .ok (.iastore, 1) := by decide +kernel
theorem dX12_beginsAnew_87 : decode cX12_beginsAnew 87 = .ok (.aload_n 0, 1) := by decide +kernel
theorem dX12_beginsAnew_88 : decode cX12_beginsAnew 88 = .ok (.getfield 34, 3) := by decide +kernel
theorem dX12_beginsAnew_91 : decode cX12_beginsAnew 91 = .ok (.bipush 22, 2) := by decide +kernel
theorem dX12_beginsAnew_93 : decode cX12_beginsAnew 93 = .ok (.iload_n 1, 1) := by decide +kernel
theorem dX12_beginsAnew_94 : decode cX12_beginsAnew 94 = .ok (.iadd, 1) := by decide +kernel
theorem dX12_beginsAnew_95 : decode cX12_beginsAnew 95 = .ok (.bipush (-9), 2) := by decide +kernel
theorem dX12_beginsAnew_97 : decode cX12_beginsAnew 97 = .ok (.iastore, 1) := by decide +kernel
theorem dX12_beginsAnew_98 : decode cX12_beginsAnew 98 = .ok (.iinc 1 1, 3) := by decide +kernel
theorem dX12_beginsAnew_101 : decode cX12_beginsAnew 101 = .ok (.goto (-67), 3) := by decide +kernel
theorem dX12_beginsAnew_104 : decode cX12_beginsAnew 104 = .ok (.return_, 1) := by decide +kernel
theorem dX12_inner_0 : decode cX12_inner 0 = .ok (.aload_n 0, 1) := by decide +kernel
theorem dX12_inner_1 : decode cX12_inner 1 = .ok (.iconst 2, 1) := by decide +kernel
theorem dX12_inner_2 : decode cX12_inner 2 = .ok (.iaload, 1) := by decide +kernel
theorem dX12_inner_3 : decode cX12_inner 3 = .ok (.ifCond .ne 8, 3) := by decide +kernel
theorem dX12_inner_6 : decode cX12_inner 6 = .ok (.bipush (-9), 2) := by decide +kernel
theorem dX12_inner_8 : decode cX12_inner 8 = .ok (.goto 10, 3) := by decide +kernel
theorem dX12_inner_11 : decode cX12_inner 11 = .ok (.aload_n 0, 1) := by decide +kernel
theorem dX12_inner_12 : decode cX12_inner 12 = .ok (.iconst 3, 1) := by decide +kernel
theorem dX12_inner_13 : decode cX12_inner 13 = .ok (.aload_n 0, 1) := by decide +kernel
theorem dX12_inner_14 : decode cX12_inner 14 = .ok (.iconst 2, 1) := by decide +kernel
theorem dX12_inner_15 : decode cX12_inner 15 = .ok (.iaload, 1) := by decide +kernel
theorem dX12_inner_16 : decode cX12_inner 16 = .ok (.iadd, 1) := by decide +kernel
theorem dX12_inner_17 : decode cX12_inner 17 = .ok (.iaload, 1) := by decide +kernel
theorem dX12_inner_18 : decode cX12_inner 18 = .ok (.ireturn, 1) := by decide +kernel
theorem dX12_mayBegin_0 : decode cX12_mayBegin 0 = .ok (.aload_n 1, 1) := by decide +kernel
theorem dX12_mayBegin_1 : decode cX12_mayBegin 1 = .ok (.bipush 16, 2) := by decide +kernel
theorem dX12_mayBegin_3 : decode cX12_mayBegin 3 = .ok (.iload_n 2, 1) := by decide +kernel
theorem dX12_mayBegin_4 : decode cX12_mayBegin 4 = .ok (.iadd, 1) := by decide +kernel
theorem dX12_mayBegin_5 : decode cX12_mayBegin 5 = .ok (.iaload, 1) := by decide +kernel
theorem dX12_mayBegin_6 : decode cX12_mayBegin 6 = .ok (.ifCond .ne 41, 3) := by decide +kernel
theorem dX12_mayBegin_9 : decode cX12_mayBegin 9 = .ok (.aload_n 1, 1) := by decide +kernel
theorem dX12_mayBegin_10 : decode cX12_mayBegin 10 = .ok (.iconst 2, 1) := by decide +kernel
theorem dX12_mayBegin_11 : decode cX12_mayBegin 11 = .ok (.iaload, 1) := by decide +kernel
theorem dX12_mayBegin_12 : decode cX12_mayBegin 12 = .ok (.aload_n 0, 1) := by decide +kernel
theorem dX12_mayBegin_13 : decode cX12_mayBegin 13 = .ok (.getfield 146, 3) := by decide +kernel
theorem dX12_mayBegin_16 : decode cX12_mayBegin 16 = .ok (.if_icmp .ge 31, 3) := by decide +kernel
theorem dX12_mayBegin_19 : decode cX12_mayBegin 19 = .ok (.aload_n 0, 1) := by decide +kernel
theorem dX12_mayBegin_20 : decode cX12_mayBegin 20 = .ok (.getfield 25, 3) := by decide +kernel
theorem dX12_mayBegin_23 : decode cX12_mayBegin 23 = .ok (.iload_n 2, 1) := by decide +kernel
theorem dX12_mayBegin_24 : decode cX12_mayBegin 24 = .ok (.iaload, 1) := by decide +kernel
theorem dX12_mayBegin_25 : decode cX12_mayBegin 25 = .ok (.bipush 9, 2) := by decide +kernel
theorem dX12_mayBegin_27 : decode cX12_mayBegin 27 = .ok (.if_icmp .eq 16, 3) := by decide +kernel
theorem dX12_mayBegin_30 : decode cX12_mayBegin 30 = .ok (.aload_n 0, 1) := by decide +kernel
theorem dX12_mayBegin_31 : decode cX12_mayBegin 31 = .ok (.getfield 25, 3) := by decide +kernel
theorem dX12_mayBegin_34 : decode cX12_mayBegin 34 = .ok (.iload_n 2, 1) := by decide +kernel
theorem dX12_mayBegin_35 : decode cX12_mayBegin 35 = .ok (.iaload, 1) := by decide +kernel
theorem dX12_mayBegin_36 : decode cX12_mayBegin 36 = .ok (.aload_n 1, 1) := by decide +kernel
theorem dX12_mayBegin_37 : decode cX12_mayBegin 37 = .ok (.invokestatic 168, 3) := by decide +kernel
theorem dX12_mayBegin_40 : decode cX12_mayBegin 40 = .ok (.if_icmp .ne 7, 3) := by decide +kernel
theorem dX12_mayBegin_43 : decode cX12_mayBegin 43 = .ok (.iconst 1, 1) := by decide +kernel
theorem dX12_mayBegin_44 : decode cX12_mayBegin 44 = .ok (.goto 4, 3) := by decide +kernel
theorem dX12_mayBegin_47 : decode cX12_mayBegin 47 = .ok (.iconst 0, 1) := by decide +kernel
theorem dX12_mayBegin_48 : decode cX12_mayBegin 48 = .ok (.ireturn, 1) := by decide +kernel
theorem dX12_goesOn_0 : decode cX12_goesOn 0 = .ok (.aload_n 0, 1) := by decide +kernel
theorem dX12_goesOn_1 : decode cX12_goesOn 1 = .ok (.invokestatic 168, 3) := by decide +kernel
theorem dX12_goesOn_4 : decode cX12_goesOn 4 = .ok (.istore_n 1, 1) := by decide +kernel
theorem dX12_goesOn_5 : decode cX12_goesOn 5 = .ok (.aload_n 0, 1) := by decide +kernel
theorem dX12_goesOn_6 : decode cX12_goesOn 6 = .ok (.bipush 10, 2) := by decide +kernel
theorem dX12_goesOn_8 : decode cX12_goesOn 8 = .ok (.iload_n 1, 1) := by decide +kernel
theorem dX12_goesOn_9 : decode cX12_goesOn 9 = .ok (.iadd, 1) := by decide +kernel
theorem dX12_goesOn_10 : decode cX12_goesOn 10 = .ok (.dup2, 1) := by decide +kernel
theorem dX12_goesOn_11 : decode cX12_goesOn 11 = .ok (.iaload, 1) := by decide +kernel
theorem dX12_goesOn_12 : decode cX12_goesOn 12 = .ok (.iconst 1, 1) := by decide +kernel
theorem dX12_goesOn_13 : decode cX12_goesOn 13 = .ok (.isub, 1) := by decide +kernel
theorem dX12_goesOn_14 : decode cX12_goesOn 14 = .ok (.iastore, 1) := by decide +kernel
theorem dX12_goesOn_15 : decode cX12_goesOn 15 = .ok (.aload_n 0, 1) := by decide +kernel
theorem dX12_goesOn_16 : decode cX12_goesOn 16 = .ok (.bipush 22, 2) := by decide +kernel
theorem dX12_goesOn_18 : decode cX12_goesOn 18 = .ok (.iload_n 1, 1) := by decide +kernel
theorem dX12_goesOn_19 : decode cX12_goesOn 19 = .ok (.iadd, 1) := by decide +kernel
theorem dX12_goesOn_20 : decode cX12_goesOn 20 = .ok (.aload_n 0, 1) := by decide +kernel
theorem dX12_goesOn_21 : decode cX12_goesOn 21 = .ok (.iconst 0, 1) := by decide +kernel
theorem dX12_goesOn_22 : decode cX12_goesOn 22 = .ok (.iaload, 1) := by decide +kernel
theorem dX12_goesOn_23 : decode cX12_goesOn 23 = .ok (.iastore, 1) := by decide +kernel
theorem dX12_goesOn_24 : decode cX12_goesOn 24 = .ok (.aload_n 0, 1) := by decide +kernel
theorem dX12_goesOn_25 : decode cX12_goesOn 25 = .ok (.iconst 1, 1) := by decide +kernel
theorem dX12_goesOn_26 : decode cX12_goesOn 26 = .ok (.dup2, 1) := by decide +kernel
theorem dX12_goesOn_27 : decode cX12_goesOn 27 = .ok (.iaload, 1) := by decide +kernel
theorem dX12_goesOn_28 : decode cX12_goesOn 28 = .ok (.iconst 1, 1) := by decide +kernel
theorem dX12_goesOn_29 : decode cX12_goesOn 29 = .ok (.isub, 1) := by decide +kernel
theorem dX12_goesOn_30 : decode cX12_goesOn 30 = .ok (.iastore, 1) := by decide +kernel
theorem dX12_goesOn_31 : decode cX12_goesOn 31 = .ok (.aload_n 0, 1) := by decide +kernel
theorem dX12_goesOn_32 : decode cX12_goesOn 32 = .ok (.bipush 10, 2) := by decide +kernel
theorem dX12_goesOn_34 : decode cX12_goesOn 34 = .ok (.iload_n 1, 1) := by decide +kernel
theorem dX12_goesOn_35 : decode cX12_goesOn 35 = .ok (.iadd, 1) := by decide +kernel
theorem dX12_goesOn_36 : decode cX12_goesOn 36 = .ok (.iaload, 1) := by decide +kernel
theorem dX12_goesOn_37 : decode cX12_goesOn 37 = .ok (.ifCond .ne 19, 3) := by decide +kernel
theorem dX12_goesOn_40 : decode cX12_goesOn 40 = .ok (.aload_n 0, 1) := by decide +kernel
theorem dX12_goesOn_41 : decode cX12_goesOn 41 = .ok (.iconst 3, 1) := by decide +kernel
theorem dX12_goesOn_42 : decode cX12_goesOn 42 = .ok (.aload_n 0, 1) := by decide +kernel
theorem dX12_goesOn_43 : decode cX12_goesOn 43 = .ok (.iconst 2, 1) := by decide +kernel
theorem dX12_goesOn_44 : decode cX12_goesOn 44 = .ok (.iaload, 1) := by decide +kernel
theorem dX12_goesOn_45 : decode cX12_goesOn 45 = .ok (.iadd, 1) := by decide +kernel
theorem dX12_goesOn_46 : decode cX12_goesOn 46 = .ok (.bipush (-9), 2) := by decide +kernel
theorem dX12_goesOn_48 : decode cX12_goesOn 48 = .ok (.iastore, 1) := by decide +kernel
theorem dX12_goesOn_49 : decode cX12_goesOn 49 = .ok (.aload_n 0, 1) := by decide +kernel
theorem dX12_goesOn_50 : decode cX12_goesOn 50 = .ok (.iconst 2, 1) := by decide +kernel
theorem dX12_goesOn_51 : decode cX12_goesOn 51 = .ok (.dup2, 1) := by decide +kernel
theorem dX12_goesOn_52 : decode cX12_goesOn 52 = .ok (.iaload, 1) := by decide +kernel
theorem dX12_goesOn_53 : decode cX12_goesOn 53 = .ok (.iconst 1, 1) := by decide +kernel
theorem dX12_goesOn_54 : decode cX12_goesOn 54 = .ok (.isub, 1) := by decide +kernel
theorem dX12_goesOn_55 : decode cX12_goesOn 55 = .ok (.iastore, 1) := by decide +kernel
theorem dX12_goesOn_56 : decode cX12_goesOn 56 = .ok (.return_, 1) := by decide +kernel
theorem dX12_goesIn_0 : decode cX12_goesIn 0 = .ok (.aload_n 0, 1) := by decide +kernel
theorem dX12_goesIn_1 : decode cX12_goesIn 1 = .ok (.bipush 16, 2) := by decide +kernel
theorem dX12_goesIn_3 : decode cX12_goesIn 3 = .ok (.iload_n 1, 1) := by decide +kernel
theorem dX12_goesIn_4 : decode cX12_goesIn 4 = .ok (.iadd, 1) := by decide +kernel
theorem dX12_goesIn_5 : decode cX12_goesIn 5 = .ok (.iconst 1, 1) := by decide +kernel
theorem dX12_goesIn_6 : decode cX12_goesIn 6 = .ok (.iastore, 1) := by decide +kernel
theorem dX12_goesIn_7 : decode cX12_goesIn 7 = .ok (.aload_n 0, 1) := by decide +kernel
theorem dX12_goesIn_8 : decode cX12_goesIn 8 = .ok (.iconst 2, 1) := by decide +kernel
theorem dX12_goesIn_9 : decode cX12_goesIn 9 = .ok (.dup2, 1) := by decide +kernel
theorem dX12_goesIn_10 : decode cX12_goesIn 10 = .ok (.iaload, 1) := by decide +kernel
theorem dX12_goesIn_11 : decode cX12_goesIn 11 = .ok (.iconst 1, 1) := by decide +kernel
theorem dX12_goesIn_12 : decode cX12_goesIn 12 = .ok (.iadd, 1) := by decide +kernel
theorem dX12_goesIn_13 : decode cX12_goesIn 13 = .ok (.iastore, 1) := by decide +kernel
theorem dX12_goesIn_14 : decode cX12_goesIn 14 = .ok (.aload_n 0, 1) := by decide +kernel
theorem dX12_goesIn_15 : decode cX12_goesIn 15 = .ok (.iconst 3, 1) := by decide +kernel
theorem dX12_goesIn_16 : decode cX12_goesIn 16 = .ok (.aload_n 0, 1) := by decide +kernel
theorem dX12_goesIn_17 : decode cX12_goesIn 17 = .ok (.iconst 2, 1) := by decide +kernel
theorem dX12_goesIn_18 : decode cX12_goesIn 18 = .ok (.iaload, 1) := by decide +kernel
theorem dX12_goesIn_19 : decode cX12_goesIn 19 = .ok (.iadd, 1) := by decide +kernel
theorem dX12_goesIn_20 : decode cX12_goesIn 20 = .ok (.iload_n 1, 1) := by decide +kernel
theorem dX12_goesIn_21 : decode cX12_goesIn 21 = .ok (.iastore, 1) := by decide +kernel
theorem dX12_goesIn_22 : decode cX12_goesIn 22 = .ok (.aload_n 0, 1) := by decide +kernel
theorem dX12_goesIn_23 : decode cX12_goesIn 23 = .ok (.invokestatic 172, 3) := by decide +kernel
theorem dX12_goesIn_26 : decode cX12_goesIn 26 = .ok (.return_, 1) := by decide +kernel
theorem dX12_dawns_0 : decode cX12_dawns 0 = .ok (.aload_n 1, 1) := by decide +kernel
theorem dX12_dawns_1 : decode cX12_dawns 1 = .ok (.iconst 2, 1) := by decide +kernel
theorem dX12_dawns_2 : decode cX12_dawns 2 = .ok (.iaload, 1) := by decide +kernel
theorem dX12_dawns_3 : decode cX12_dawns 3 = .ok (.ifCond .le 7, 3) := by decide +kernel
theorem dX12_dawns_6 : decode cX12_dawns 6 = .ok (.iconst 1, 1) := by decide +kernel
theorem dX12_dawns_7 : decode cX12_dawns 7 = .ok (.goto 4, 3) := by decide +kernel
theorem dX12_dawns_10 : decode cX12_dawns 10 = .ok (.iconst 0, 1) := by decide +kernel
theorem dX12_dawns_11 : decode cX12_dawns 11 = .ok (.istore_n 2, 1) := by decide +kernel
theorem dX12_dawns_12 : decode cX12_dawns 12 = .ok (.iconst 0, 1) := by decide +kernel
theorem dX12_dawns_13 : decode cX12_dawns 13 = .ok (.istore_n 3, 1) := by decide +kernel
end
section
theorem dX12_dawns_14 : decode cX12_dawns 14 = .ok (.iload_n 3, 1) := by decide +kernel
theorem dX12_dawns_15 : decode cX12_dawns 15 = .ok (.aload_n 1, 1) := by decide +kernel
theorem dX12_dawns_16 : decode cX12_dawns 16 = .ok (.iconst 2, 1) := by decide +kernel
theorem dX12_dawns_17 : decode cX12_dawns 17 = .ok (.iaload, 1) := by decide +kernel
theorem dX12_dawns_18 : decode cX12_dawns 18 = .ok (.if_icmp .ge 40, 3) := by decide +kernel
theorem dX12_dawns_21 : decode cX12_dawns 21 = .ok (.iload_n 2, 1) := by decide +kernel
theorem dX12_dawns_22 : decode cX12_dawns 22 = .ok (.ifCond .eq 28, 3) := by decide +kernel
theorem dX12_dawns_25 : decode cX12_dawns 25 = .ok (.aload_n 1, 1) := by decide +kernel
theorem dX12_dawns_26 : decode cX12_dawns 26 = .ok (.iconst 0, 1) := by decide +kernel
theorem dX12_dawns_27 : decode cX12_dawns 27 = .ok (.iaload, 1) := by decide +kernel
theorem dX12_dawns_28 : decode cX12_dawns 28 = .ok (.aload_n 1, 1) := by decide +kernel
theorem dX12_dawns_29 : decode cX12_dawns 29 = .ok (.bipush 22, 2) := by decide +kernel
theorem dX12_dawns_31 : decode cX12_dawns 31 = .ok (.aload_n 1, 1) := by decide +kernel
theorem dX12_dawns_32 : decode cX12_dawns 32 = .ok (.iconst 4, 1) := by decide +kernel
theorem dX12_dawns_33 : decode cX12_dawns 33 = .ok (.iload_n 3, 1) := by decide +kernel
theorem dX12_dawns_34 : decode cX12_dawns 34 = .ok (.iadd, 1) := by decide +kernel
theorem dX12_dawns_35 : decode cX12_dawns 35 = .ok (.iaload, 1) := by decide +kernel
theorem dX12_dawns_36 : decode cX12_dawns 36 = .ok (.iadd, 1) := by decide +kernel
theorem dX12_dawns_37 : decode cX12_dawns 37 = .ok (.iaload, 1) := by decide +kernel
theorem dX12_dawns_38 : decode cX12_dawns 38 = .ok (.isub, 1) := by decide +kernel
theorem dX12_dawns_39 : decode cX12_dawns 39 = .ok (.aload_n 0, 1) := by decide +kernel
theorem dX12_dawns_40 : decode cX12_dawns 40 = .ok (.getfield 143, 3) := by decide +kernel
theorem dX12_dawns_43 : decode cX12_dawns 43 = .ok (.if_icmp .ge 7, 3) := by decide +kernel
theorem dX12_dawns_46 : decode cX12_dawns 46 = .ok (.iconst 1, 1) := by decide +kernel
theorem dX12_dawns_47 : decode cX12_dawns 47 = .ok (.goto 4, 3) := by decide +kernel
theorem dX12_dawns_50 : decode cX12_dawns 50 = .ok (.iconst 0, 1) := by decide +kernel
theorem dX12_dawns_51 : decode cX12_dawns 51 = .ok (.istore_n 2, 1) := by decide +kernel
theorem dX12_dawns_52 : decode cX12_dawns 52 = .ok (.iinc 3 1, 3) := by decide +kernel
theorem dX12_dawns_55 : decode cX12_dawns 55 = .ok (.goto (-41), 3) := by decide +kernel
theorem dX12_dawns_58 : decode cX12_dawns 58 = .ok (.aload_n 1, 1) := by decide +kernel
theorem dX12_dawns_59 : decode cX12_dawns 59 = .ok (.iconst 3, 1) := by decide +kernel
theorem dX12_dawns_60 : decode cX12_dawns 60 = .ok (.iload_n 2, 1) := by decide +kernel
theorem dX12_dawns_61 : decode cX12_dawns 61 = .ok (.ifCond .eq 7, 3) := by decide +kernel
theorem dX12_dawns_64 : decode cX12_dawns 64 = .ok (.iconst 1, 1) := by decide +kernel
theorem dX12_dawns_65 : decode cX12_dawns 65 = .ok (.goto 4, 3) := by decide +kernel
theorem dX12_dawns_68 : decode cX12_dawns 68 = .ok (.iconst 0, 1) := by decide +kernel
theorem dX12_dawns_69 : decode cX12_dawns 69 = .ok (.iastore, 1) := by decide +kernel
theorem dX12_dawns_70 : decode cX12_dawns 70 = .ok (.iload_n 2, 1) := by decide +kernel
theorem dX12_dawns_71 : decode cX12_dawns 71 = .ok (.ifCond .eq 20, 3) := by decide +kernel
theorem dX12_dawns_74 : decode cX12_dawns 74 = .ok (.aload_n 1, 1) := by decide +kernel
theorem dX12_dawns_75 : decode cX12_dawns 75 = .ok (.iconst 0, 1) := by decide +kernel
theorem dX12_dawns_76 : decode cX12_dawns 76 = .ok (.dup2, 1) := by decide +kernel
theorem dX12_dawns_77 : decode cX12_dawns 77 = .ok (.iaload, 1) := by decide +kernel
theorem dX12_dawns_78 : decode cX12_dawns 78 = .ok (.iconst 1, 1) := by decide +kernel
theorem dX12_dawns_79 : decode cX12_dawns 79 = .ok (.iadd, 1) := by decide +kernel
theorem dX12_dawns_80 : decode cX12_dawns 80 = .ok (.iastore, 1) := by decide +kernel
theorem dX12_dawns_81 : decode cX12_dawns 81 = .ok (.aload_n 1, 1) := by decide +kernel
theorem dX12_dawns_82 : decode cX12_dawns 82 = .ok (.iconst 1, 1) := by decide +kernel
theorem dX12_dawns_83 : decode cX12_dawns 83 = .ok (.aload_n 0, 1) := by decide +kernel
theorem dX12_dawns_84 : decode cX12_dawns 84 = .ok (.aload_n 1, 1) := by decide +kernel
theorem dX12_dawns_85 : decode cX12_dawns 85 = .ok (.iconst 0, 1) := by decide +kernel
theorem dX12_dawns_86 : decode cX12_dawns 86 = .ok (.iaload, 1) := by decide +kernel
theorem dX12_dawns_87 : decode cX12_dawns 87 = .ok (.invokevirtual 164, 3) := by decide +kernel
theorem dX12_dawns_90 : decode cX12_dawns 90 = .ok (.iastore, 1) := by decide +kernel
theorem dX12_dawns_91 : decode cX12_dawns 91 = .ok (.iload_n 2, 1) := by decide +kernel
theorem dX12_dawns_92 : decode cX12_dawns 92 = .ok (.ireturn, 1) := by decide +kernel
theorem dX12_tale_0 : decode cX12_tale 0 = .ok (.aload_n 0, 1) := by decide +kernel
theorem dX12_tale_1 : decode cX12_tale 1 = .ok (.iload_n 1, 1) := by decide +kernel
theorem dX12_tale_2 : decode cX12_tale 2 = .ok (.invokevirtual 176, 3) := by decide +kernel
theorem dX12_tale_5 : decode cX12_tale 5 = .ok (.ifCond .ne 5, 3) := by decide +kernel
theorem dX12_tale_8 : decode cX12_tale 8 = .ok (.iconst (-1), 1) := by decide +kernel
theorem dX12_tale_9 : decode cX12_tale 9 = .ok (.ireturn, 1) := by decide +kernel
theorem dX12_tale_10 : decode cX12_tale 10 = .ok (.bipush (-9), 2) := by decide +kernel
theorem dX12_tale_12 : decode cX12_tale 12 = .ok (.istore_n 3, 1) := by decide +kernel
theorem dX12_tale_13 : decode cX12_tale 13 = .ok (.iconst 0, 1) := by decide +kernel
theorem dX12_tale_14 : decode cX12_tale 14 = .ok (.istore 4, 2) := by decide +kernel
theorem dX12_tale_16 : decode cX12_tale 16 = .ok (.iload 4, 2) := by decide +kernel
theorem dX12_tale_18 : decode cX12_tale 18 = .ok (.aload_n 0, 1) := by decide +kernel
theorem dX12_tale_19 : decode cX12_tale 19 = .ok (.getfield 31, 3) := by decide +kernel
theorem dX12_tale_22 : decode cX12_tale 22 = .ok (.iconst 2, 1) := by decide +kernel
theorem dX12_tale_23 : decode cX12_tale 23 = .ok (.iaload, 1) := by decide +kernel
theorem dX12_tale_24 : decode cX12_tale 24 = .ok (.if_icmp .ge 29, 3) := by decide +kernel
theorem dX12_tale_27 : decode cX12_tale 27 = .ok (.aload_n 0, 1) := by decide +kernel
theorem dX12_tale_28 : decode cX12_tale 28 = .ok (.getfield 31, 3) := by decide +kernel
theorem dX12_tale_31 : decode cX12_tale 31 = .ok (.iconst 4, 1) := by decide +kernel
theorem dX12_tale_32 : decode cX12_tale 32 = .ok (.iload 4, 2) := by decide +kernel
theorem dX12_tale_34 : decode cX12_tale 34 = .ok (.iadd, 1) := by decide +kernel
theorem dX12_tale_35 : decode cX12_tale 35 = .ok (.iaload, 1) := by decide +kernel
theorem dX12_tale_36 : decode cX12_tale 36 = .ok (.iload_n 1, 1) := by decide +kernel
theorem dX12_tale_37 : decode cX12_tale 37 = .ok (.if_icmp .ne 8, 3) := by decide +kernel
theorem dX12_tale_40 : decode cX12_tale 40 = .ok (.iload 4, 2) := by decide +kernel
theorem dX12_tale_42 : decode cX12_tale 42 = .ok (.goto 4, 3) := by decide +kernel
theorem dX12_tale_45 : decode cX12_tale 45 = .ok (.iload_n 3, 1) := by decide +kernel
theorem dX12_tale_46 : decode cX12_tale 46 = .ok (.istore_n 3, 1) := by decide +kernel
theorem dX12_tale_47 : decode cX12_tale 47 = .ok (.iinc 4 1, 3) := by decide +kernel
theorem dX12_tale_50 : decode cX12_tale 50 = .ok (.goto (-34), 3) := by decide +kernel
theorem dX12_tale_53 : decode cX12_tale 53 = .ok (.iload_n 2, 1) := by decide +kernel
theorem dX12_tale_54 : decode cX12_tale 54 = .ok (.tableswitch 84 0 5 #[38, 45, 52, 62, 72, 74], 38) := by decide +kernel
theorem dX12_tale_92 : decode cX12_tale 92 = .ok (.aload_n 0, 1) := by decide +kernel
theorem dX12_tale_93 : decode cX12_tale 93 = .ok (.getfield 22, 3) := by decide +kernel
theorem dX12_tale_96 : decode cX12_tale 96 = .ok (.iload_n 1, 1) := by decide +kernel
theorem dX12_tale_97 : decode cX12_tale 97 = .ok (.iaload, 1) := by decide +kernel
theorem dX12_tale_98 : decode cX12_tale 98 = .ok (.ireturn, 1) := by decide +kernel
theorem dX12_tale_99 : decode cX12_tale 99 = .ok (.aload_n 0, 1) := by decide +kernel
theorem dX12_tale_100 : decode cX12_tale 100 = .ok (.getfield 25, 3) := by decide +kernel
theorem dX12_tale_103 : decode cX12_tale 103 = .ok (.iload_n 1, 1) := by decide +kernel
theorem dX12_tale_104 : decode cX12_tale 104 = .ok (.iaload, 1) := by decide +kernel
theorem dX12_tale_105 : decode cX12_tale 105 = .ok (.ireturn, 1) := by decide +kernel
theorem dX12_tale_106 : decode cX12_tale 106 = .ok (.aload_n 0, 1) := by decide +kernel
theorem dX12_tale_107 : decode cX12_tale 107 = .ok (.getfield 31, 3) := by decide +kernel
theorem dX12_tale_110 : decode cX12_tale 110 = .ok (.bipush 10, 2) := by decide +kernel
theorem dX12_tale_112 : decode cX12_tale 112 = .ok (.iload_n 1, 1) := by decide +kernel
theorem dX12_tale_113 : decode cX12_tale 113 = .ok (.iadd, 1) := by decide +kernel
theorem dX12_tale_114 : decode cX12_tale 114 = .ok (.iaload, 1) := by decide +kernel
theorem dX12_tale_115 : decode cX12_tale 115 = .ok (.ireturn, 1) := by decide +kernel
theorem dX12_tale_116 : decode cX12_tale 116 = .ok (.aload_n 0, 1) := by decide +kernel
theorem dX12_tale_117 : decode cX12_tale 117 = .ok (.getfield 31, 3) := by decide +kernel
theorem dX12_tale_120 : decode cX12_tale 120 = .ok (.bipush 16, 2) := by decide +kernel
theorem dX12_tale_122 : decode cX12_tale 122 = .ok (.iload_n 1, 1) := by decide +kernel
theorem dX12_tale_123 : decode cX12_tale 123 = .ok (.iadd, 1) := by decide +kernel
theorem dX12_tale_124 : decode cX12_tale 124 = .ok (.iaload, 1) := by decide +kernel
theorem dX12_tale_125 : decode cX12_tale 125 = .ok (.ireturn, 1) := by decide +kernel
theorem dX12_tale_126 : decode cX12_tale 126 = .ok (.iload_n 3, 1) := by decide +kernel
theorem dX12_tale_127 : decode cX12_tale 127 = .ok (.ireturn, 1) := by decide +kernel
theorem dX12_tale_128 : decode cX12_tale 128 = .ok (.aload_n 0, 1) := by decide +kernel
theorem dX12_tale_129 : decode cX12_tale 129 = .ok (.getfield 31, 3) := by decide +kernel
theorem dX12_tale_132 : decode cX12_tale 132 = .ok (.bipush 22, 2) := by decide +kernel
theorem dX12_tale_134 : decode cX12_tale 134 = .ok (.iload_n 1, 1) := by decide +kernel
theorem dX12_tale_135 : decode cX12_tale 135 = .ok (.iadd, 1) := by decide +kernel
theorem dX12_tale_136 : decode cX12_tale 136 = .ok (.iaload, 1) := by decide +kernel
theorem dX12_tale_137 : decode cX12_tale 137 = .ok (.ireturn, 1) := by decide +kernel
theorem dX12_tale_138 : decode cX12_tale 138 = .ok (.iconst (-1), 1) := by decide +kernel
theorem dX12_tale_139 : decode cX12_tale 139 = .ok (.ireturn, 1) := by decide +kernel
theorem dX12_hours_0 : decode cX12_hours 0 = .ok (.iload_n 1, 1) := by decide +kernel
theorem dX12_hours_1 : decode cX12_hours 1 = .ok (.i2l, 1) := by decide +kernel
theorem dX12_hours_2 : decode cX12_hours 2 = .ok (.lconst 0, 1) := by decide +kernel
theorem dX12_hours_3 : decode cX12_hours 3 = .ok (.ldc2_w 179, 3) := by decide +kernel
theorem dX12_hours_6 : decode cX12_hours 6 = .ok (.invokestatic 63, 3) := by decide +kernel
theorem dX12_hours_9 : decode cX12_hours 9 = .ok (.ifCond .eq 11, 3) := by decide +kernel
theorem dX12_hours_12 : decode cX12_hours 12 = .ok (.aload_n 0, 1) := by decide +kernel
theorem dX12_hours_13 : decode cX12_hours 13 = .ok (.iload_n 1, 1) := by decide +kernel
theorem dX12_hours_14 : decode cX12_hours 14 = .ok (.invokevirtual 164, 3) := by decide +kernel
theorem dX12_hours_17 : decode cX12_hours 17 = .ok (.goto 4, 3) := by decide +kernel
theorem dX12_hours_20 : decode cX12_hours 20 = .ok (.iconst (-1), 1) := by decide +kernel
theorem dX12_hours_21 : decode cX12_hours 21 = .ok (.ireturn, 1) := by decide +kernel
theorem dX12_notes_0 : decode cX12_notes 0 = .ok (.aload_n 0, 1) := by decide +kernel
theorem dX12_notes_1 : decode cX12_notes 1 = .ok (.getfield 155, 3) := by decide +kernel
theorem dX12_notes_4 : decode cX12_notes 4 = .ok (.bipush 10, 2) := by decide +kernel
theorem dX12_notes_6 : decode cX12_notes 6 = .ok (.if_icmp .ne 40, 3) := by decide +kernel
theorem dX12_notes_9 : decode cX12_notes 9 = .ok (.bipush 29, 2) := by decide +kernel
theorem dX12_notes_11 : decode cX12_notes 11 = .ok (.istore_n 1, 1) := by decide +kernel
theorem dX12_notes_12 : decode cX12_notes 12 = .ok (.iload_n 1, 1) := by decide +kernel
theorem dX12_notes_13 : decode cX12_notes 13 = .ok (.sipush 290, 3) := by decide +kernel
theorem dX12_notes_16 : decode cX12_notes 16 = .ok (.if_icmp .ge 24, 3) := by decide +kernel
theorem dX12_notes_19 : decode cX12_notes 19 = .ok (.aload_n 0, 1) := by decide +kernel
theorem dX12_notes_20 : decode cX12_notes 20 = .ok (.getfield 37, 3) := by decide +kernel
theorem dX12_notes_23 : decode cX12_notes 23 = .ok (.iload_n 1, 1) := by decide +kernel
theorem dX12_notes_24 : decode cX12_notes 24 = .ok (.bipush 29, 2) := by decide +kernel
theorem dX12_notes_26 : decode cX12_notes 26 = .ok (.isub, 1) := by decide +kernel
theorem dX12_notes_27 : decode cX12_notes 27 = .ok (.aload_n 0, 1) := by decide +kernel
theorem dX12_notes_28 : decode cX12_notes 28 = .ok (.getfield 37, 3) := by decide +kernel
theorem dX12_notes_31 : decode cX12_notes 31 = .ok (.iload_n 1, 1) := by decide +kernel
theorem dX12_notes_32 : decode cX12_notes 32 = .ok (.iaload, 1) := by decide +kernel
theorem dX12_notes_33 : decode cX12_notes 33 = .ok (.iastore, 1) := by decide +kernel
theorem dX12_notes_34 : decode cX12_notes 34 = .ok (.iinc 1 1, 3) := by decide +kernel
theorem dX12_notes_37 : decode cX12_notes 37 = .ok (.goto (-25), 3) := by decide +kernel
theorem dX12_notes_40 : decode cX12_notes 40 = .ok (.aload_n 0, 1) := by decide +kernel
theorem dX12_notes_41 : decode cX12_notes 41 = .ok (.bipush 9, 2) := by decide +kernel
theorem dX12_notes_43 : decode cX12_notes 43 = .ok (.putfield 155, 3) := by decide +kernel
theorem dX12_notes_46 : decode cX12_notes 46 = .ok (.iconst 0, 1) := by decide +kernel
theorem dX12_notes_47 : decode cX12_notes 47 = .ok (.istore_n 1, 1) := by decide +kernel
theorem dX12_notes_48 : decode cX12_notes 48 = .ok (.iload_n 1, 1) := by decide +kernel
theorem dX12_notes_49 : decode cX12_notes 49 = .ok (.bipush 28, 2) := by decide +kernel
theorem dX12_notes_51 : decode cX12_notes 51 = .ok (.if_icmp .ge 29, 3) := by decide +kernel
theorem dX12_notes_54 : decode cX12_notes 54 = .ok (.aload_n 0, 1) := by decide +kernel
theorem dX12_notes_55 : decode cX12_notes 55 = .ok (.getfield 37, 3) := by decide +kernel
theorem dX12_notes_58 : decode cX12_notes 58 = .ok (.bipush 29, 2) := by decide +kernel
theorem dX12_notes_60 : decode cX12_notes 60 = .ok (.aload_n 0, 1) := by decide +kernel
theorem dX12_notes_61 : decode cX12_notes 61 = .ok (.getfield 155, 3) := by decide +kernel
theorem dX12_notes_64 : decode cX12_notes 64 = .ok (.imul, 1) := by decide +kernel
theorem dX12_notes_65 : decode cX12_notes 65 = .ok (.iload_n 1, 1) := by decide +kernel
theorem dX12_notes_66 : decode cX12_notes 66 = .ok (.iadd, 1) := by decide +kernel
theorem dX12_notes_67 : decode cX12_notes 67 = .ok (.aload_n 0, 1) := by decide +kernel
theorem dX12_notes_68 : decode cX12_notes 68 = .ok (.getfield 31, 3) := by decide +kernel
theorem dX12_notes_71 : decode cX12_notes 71 = .ok (.iload_n 1, 1) := by decide +kernel
theorem dX12_notes_72 : decode cX12_notes 72 = .ok (.iaload, 1) := by decide +kernel
theorem dX12_notes_73 : decode cX12_notes 73 = .ok (.iastore, 1) := by decide +kernel
theorem dX12_notes_74 : decode cX12_notes 74 = .ok (.iinc 1 1, 3) := by decide +kernel
theorem dX12_notes_77 : decode cX12_notes 77 = .ok (.goto (-29), 3) := by decide +kernel
theorem dX12_notes_80 : decode cX12_notes 80 = .ok (.aload_n 0, 1) := by decide +kernel
theorem dX12_notes_81 : decode cX12_notes 81 = .ok (.getfield 37, 3) := by decide +kernel
theorem dX12_notes_84 : decode cX12_notes 84 = .ok (.bipush 29, 2) := by decide +kernel
theorem dX12_notes_86 : decode cX12_notes 86 = .ok (.aload_n 0, 1) := by decide +kernel
theorem dX12_notes_87 : decode cX12_notes 87 = .ok (.getfield 155, 3) := by decide +kernel
theorem dX12_notes_90 : decode cX12_notes 90 = .ok (.imul, 1) := by decide +kernel
theorem dX12_notes_91 : decode cX12_notes 91 = .ok (.bipush 28, 2) := by decide +kernel
theorem dX12_notes_93 : decode cX12_notes 93 = .ok (.iadd, 1) := by decide +kernel
theorem dX12_notes_94 : decode cX12_notes 94 = .ok (.aload_n 0, 1) := by decide +kernel
theorem dX12_notes_95 : decode cX12_notes 95 = .ok (.getfield 152, 3) := by decide +kernel
theorem dX12_notes_98 : decode cX12_notes 98 = .ok (.iastore, 1) := by decide +kernel
theorem dX12_notes_99 : decode cX12_notes 99 = .ok (.aload_n 0, 1) := by decide +kernel
theorem dX12_notes_100 : decode cX12_notes 100 = .ok (.dup, 1) := by decide +kernel
theorem dX12_notes_101 : decode cX12_notes 101 = .ok (.getfield 155, 3) := by decide +kernel
theorem dX12_notes_104 : decode cX12_notes 104 = .ok (.iconst 1, 1) := by decide +kernel
theorem dX12_notes_105 : decode cX12_notes 105 = .ok (.iadd, 1) := by decide +kernel
theorem dX12_notes_106 : decode cX12_notes 106 = .ok (.putfield 155, 3) := by decide +kernel
theorem dX12_notes_109 : decode cX12_notes 109 = .ok (.return_, 1) := by decide +kernel
theorem dX12_has_0 : decode cX12_has 0 = .ok (.aload_n 0, 1) := by decide +kernel
theorem dX12_has_1 : decode cX12_has 1 = .ok (.getfield 31, 3) := by decide +kernel
theorem dX12_has_4 : decode cX12_has 4 = .ok (.iconst 3, 1) := by decide +kernel
theorem dX12_has_5 : decode cX12_has 5 = .ok (.iaload, 1) := by decide +kernel
theorem dX12_has_6 : decode cX12_has 6 = .ok (.iconst 1, 1) := by decide +kernel
theorem dX12_has_7 : decode cX12_has 7 = .ok (.if_icmp .ne 16, 3) := by decide +kernel
theorem dX12_has_10 : decode cX12_has 10 = .ok (.aload_n 0, 1) := by decide +kernel
theorem dX12_has_11 : decode cX12_has 11 = .ok (.getfield 31, 3) := by decide +kernel
theorem dX12_has_14 : decode cX12_has 14 = .ok (.iconst 1, 1) := by decide +kernel
theorem dX12_has_15 : decode cX12_has 15 = .ok (.iaload, 1) := by decide +kernel
theorem dX12_has_16 : decode cX12_has 16 = .ok (.ifCond .le 7, 3) := by decide +kernel
theorem dX12_has_19 : decode cX12_has 19 = .ok (.iconst 1, 1) := by decide +kernel
theorem dX12_has_20 : decode cX12_has 20 = .ok (.goto 4, 3) := by decide +kernel
theorem dX12_has_23 : decode cX12_has 23 = .ok (.iconst 0, 1) := by decide +kernel
theorem dX12_has_24 : decode cX12_has 24 = .ok (.ireturn, 1) := by decide +kernel
theorem dX12_begins_0 : decode cX12_begins 0 = .ok (.aload_n 0, 1) := by decide +kernel
theorem dX12_begins_1 : decode cX12_begins 1 = .ok (.iload_n 1, 1) := by decide +kernel
theorem dX12_begins_2 : decode cX12_begins 2 = .ok (.invokevirtual 176, 3) := by decide +kernel
theorem dX12_begins_5 : decode cX12_begins 5 = .ok (.ifCond .ne 5, 3) := by decide +kernel
theorem dX12_begins_8 : decode cX12_begins 8 = .ok (.iconst (-1), 1) := by decide +kernel
theorem dX12_begins_9 : decode cX12_begins 9 = .ok (.ireturn, 1) := by decide +kernel
theorem dX12_begins_10 : decode cX12_begins 10 = .ok (.aload_n 0, 1) := by decide +kernel
theorem dX12_begins_11 : decode cX12_begins 11 = .ok (.invokevirtual 181, 3) := by decide +kernel
theorem dX12_begins_14 : decode cX12_begins 14 = .ok (.ifCond .eq 15, 3) := by decide +kernel
theorem dX12_begins_17 : decode cX12_begins 17 = .ok (.aload_n 0, 1) := by decide +kernel
theorem dX12_begins_18 : decode cX12_begins 18 = .ok (.aload_n 0, 1) := by decide +kernel
theorem dX12_begins_19 : decode cX12_begins 19 = .ok (.getfield 31, 3) := by decide +kernel
theorem dX12_begins_22 : decode cX12_begins 22 = .ok (.iload_n 1, 1) := by decide +kernel
theorem dX12_begins_23 : decode cX12_begins 23 = .ok (.invokevirtual 184, 3) := by decide +kernel
theorem dX12_begins_26 : decode cX12_begins 26 = .ok (.ifCond .ne 6, 3) := by decide +kernel
theorem dX12_begins_29 : decode cX12_begins 29 = .ok (.bipush (-2), 2) := by decide +kernel
theorem dX12_begins_31 : decode cX12_begins 31 = .ok (.ireturn, 1) := by decide +kernel
theorem dX12_begins_32 : decode cX12_begins 32 = .ok (.aload_n 0, 1) := by decide +kernel
theorem dX12_begins_33 : decode cX12_begins 33 = .ok (.invokevirtual 188, 3) := by decide +kernel
theorem dX12_begins_36 : decode cX12_begins 36 = .ok (.aload_n 0, 1) := by decide +kernel
theorem dX12_begins_37 : decode cX12_begins 37 = .ok (.getfield 31, 3) := by decide +kernel
theorem dX12_begins_40 : decode cX12_begins 40 = .ok (.iload_n 1, 1) := by decide +kernel
theorem dX12_begins_41 : decode cX12_begins 41 = .ok (.invokestatic 191, 3) := by decide +kernel
theorem dX12_begins_44 : decode cX12_begins 44 = .ok (.aload_n 0, 1) := by decide +kernel
theorem dX12_begins_45 : decode cX12_begins 45 = .ok (.getfield 31, 3) := by decide +kernel
theorem dX12_begins_48 : decode cX12_begins 48 = .ok (.iconst 1, 1) := by decide +kernel
theorem dX12_begins_49 : decode cX12_begins 49 = .ok (.iaload, 1) := by decide +kernel
theorem dX12_begins_50 : decode cX12_begins 50 = .ok (.ireturn, 1) := by decide +kernel
theorem dX12_tells_0 : decode cX12_tells 0 = .ok (.aload_n 0, 1) := by decide +kernel
theorem dX12_tells_1 : decode cX12_tells 1 = .ok (.invokevirtual 181, 3) := by decide +kernel
theorem dX12_tells_4 : decode cX12_tells 4 = .ok (.ifCond .eq 12, 3) := by decide +kernel
theorem dX12_tells_7 : decode cX12_tells 7 = .ok (.aload_n 0, 1) := by decide +kernel
theorem dX12_tells_8 : decode cX12_tells 8 = .ok (.getfield 31, 3) := by decide +kernel
theorem dX12_tells_11 : decode cX12_tells 11 = .ok (.iconst 2, 1) := by decide +kernel
theorem dX12_tells_12 : decode cX12_tells 12 = .ok (.iaload, 1) := by decide +kernel
theorem dX12_tells_13 : decode cX12_tells 13 = .ok (.ifCond .ne 6, 3) := by decide +kernel
theorem dX12_tells_16 : decode cX12_tells 16 = .ok (.bipush (-2), 2) := by decide +kernel
theorem dX12_tells_18 : decode cX12_tells 18 = .ok (.ireturn, 1) := by decide +kernel
theorem dX12_tells_19 : decode cX12_tells 19 = .ok (.aload_n 0, 1) := by decide +kernel
theorem dX12_tells_20 : decode cX12_tells 20 = .ok (.invokevirtual 188, 3) := by decide +kernel
theorem dX12_tells_23 : decode cX12_tells 23 = .ok (.aload_n 0, 1) := by decide +kernel
theorem dX12_tells_24 : decode cX12_tells 24 = .ok (.getfield 31, 3) := by decide +kernel
theorem dX12_tells_27 : decode cX12_tells 27 = .ok (.invokestatic 172, 3) := by decide +kernel
theorem dX12_tells_30 : decode cX12_tells 30 = .ok (.aload_n 0, 1) := by decide +kernel
theorem dX12_tells_31 : decode cX12_tells 31 = .ok (.getfield 31, 3) := by decide +kernel
theorem dX12_tells_34 : decode cX12_tells 34 = .ok (.iconst 1, 1) := by decide +kernel
theorem dX12_tells_35 : decode cX12_tells 35 = .ok (.iaload, 1) := by decide +kernel
theorem dX12_tells_36 : decode cX12_tells 36 = .ok (.ireturn, 1) := by decide +kernel
theorem dX12_silent_0 : decode cX12_silent 0 = .ok (.aload_n 0, 1) := by decide +kernel
theorem dX12_silent_1 : decode cX12_silent 1 = .ok (.invokevirtual 181, 3) := by decide +kernel
theorem dX12_silent_4 : decode cX12_silent 4 = .ok (.ifCond .ne 6, 3) := by decide +kernel
theorem dX12_silent_7 : decode cX12_silent 7 = .ok (.bipush (-2), 2) := by decide +kernel
theorem dX12_silent_9 : decode cX12_silent 9 = .ok (.ireturn, 1) := by decide +kernel
theorem dX12_silent_10 : decode cX12_silent 10 = .ok (.aload_n 0, 1) := by decide +kernel
theorem dX12_silent_11 : decode cX12_silent 11 = .ok (.invokevirtual 188, 3) := by decide +kernel
theorem dX12_silent_14 : decode cX12_silent 14 = .ok (.aload_n 0, 1) := by decide +kernel
theorem dX12_silent_15 : decode cX12_silent 15 = .ok (.getfield 31, 3) := by decide +kernel
theorem dX12_silent_18 : decode cX12_silent 18 = .ok (.iconst 1, 1) := by decide +kernel
theorem dX12_silent_19 : decode cX12_silent 19 = .ok (.dup2, 1) := by decide +kernel
theorem dX12_silent_20 : decode cX12_silent 20 = .ok (.iaload, 1) := by decide +kernel
theorem dX12_silent_21 : decode cX12_silent 21 = .ok (.iconst 1, 1) := by decide +kernel
theorem dX12_silent_22 : decode cX12_silent 22 = .ok (.isub, 1) := by decide +kernel
theorem dX12_silent_23 : decode cX12_silent 23 = .ok (.iastore, 1) := by decide +kernel
theorem dX12_silent_24 : decode cX12_silent 24 = .ok (.aload_n 0, 1) := by decide +kernel
theorem dX12_silent_25 : decode cX12_silent 25 = .ok (.getfield 31, 3) := by decide +kernel
theorem dX12_silent_28 : decode cX12_silent 28 = .ok (.iconst 1, 1) := by decide +kernel
theorem dX12_silent_29 : decode cX12_silent 29 = .ok (.iaload, 1) := by decide +kernel
theorem dX12_silent_30 : decode cX12_silent 30 = .ok (.ireturn, 1) := by decide +kernel
theorem dX12_dawn_0 : decode cX12_dawn 0 = .ok (.aload_n 0, 1) := by decide +kernel
theorem dX12_dawn_1 : decode cX12_dawn 1 = .ok (.getfield 31, 3) := by decide +kernel
theorem dX12_dawn_4 : decode cX12_dawn 4 = .ok (.iconst 3, 1) := by decide +kernel
theorem dX12_dawn_5 : decode cX12_dawn 5 = .ok (.iaload, 1) := by decide +kernel
theorem dX12_dawn_6 : decode cX12_dawn 6 = .ok (.ifCond .eq 23, 3) := by decide +kernel
theorem dX12_dawn_9 : decode cX12_dawn 9 = .ok (.aload_n 0, 1) := by decide +kernel
theorem dX12_dawn_10 : decode cX12_dawn 10 = .ok (.getfield 31, 3) := by decide +kernel
theorem dX12_dawn_13 : decode cX12_dawn 13 = .ok (.iconst 1, 1) := by decide +kernel
theorem dX12_dawn_14 : decode cX12_dawn 14 = .ok (.iaload, 1) := by decide +kernel
theorem dX12_dawn_15 : decode cX12_dawn 15 = .ok (.ifCond .gt 14, 3) := by decide +kernel
theorem dX12_dawn_18 : decode cX12_dawn 18 = .ok (.aload_n 0, 1) := by decide +kernel
theorem dX12_dawn_19 : decode cX12_dawn 19 = .ok (.getfield 31, 3) := by decide +kernel
theorem dX12_dawn_22 : decode cX12_dawn 22 = .ok (.iconst 0, 1) := by decide +kernel
theorem dX12_dawn_23 : decode cX12_dawn 23 = .ok (.iaload, 1) := by decide +kernel
theorem dX12_dawn_24 : decode cX12_dawn 24 = .ok (.bipush 99, 2) := by decide +kernel
theorem dX12_dawn_26 : decode cX12_dawn 26 = .ok (.if_icmp .ne 6, 3) := by decide +kernel
theorem dX12_dawn_29 : decode cX12_dawn 29 = .ok (.bipush (-2), 2) := by decide +kernel
theorem dX12_dawn_31 : decode cX12_dawn 31 = .ok (.ireturn, 1) := by decide +kernel
theorem dX12_dawn_32 : decode cX12_dawn 32 = .ok (.aload_n 0, 1) := by decide +kernel
theorem dX12_dawn_33 : decode cX12_dawn 33 = .ok (.invokevirtual 188, 3) := by decide +kernel
theorem dX12_dawn_36 : decode cX12_dawn 36 = .ok (.aload_n 0, 1) := by decide +kernel
theorem dX12_dawn_37 : decode cX12_dawn 37 = .ok (.aload_n 0, 1) := by decide +kernel
theorem dX12_dawn_38 : decode cX12_dawn 38 = .ok (.getfield 31, 3) := by decide +kernel
theorem dX12_dawn_41 : decode cX12_dawn 41 = .ok (.invokevirtual 195, 3) := by decide +kernel
theorem dX12_dawn_44 : decode cX12_dawn 44 = .ok (.istore_n 1, 1) := by decide +kernel
theorem dX12_dawn_45 : decode cX12_dawn 45 = .ok (.aload_n 0, 1) := by decide +kernel
theorem dX12_dawn_46 : decode cX12_dawn 46 = .ok (.dup, 1) := by decide +kernel
theorem dX12_dawn_47 : decode cX12_dawn 47 = .ok (.getfield 152, 3) := by decide +kernel
theorem dX12_dawn_50 : decode cX12_dawn 50 = .ok (.iload_n 1, 1) := by decide +kernel
theorem dX12_dawn_51 : decode cX12_dawn 51 = .ok (.ifCond .eq 7, 3) := by decide +kernel
theorem dX12_dawn_54 : decode cX12_dawn 54 = .ok (.iconst 1, 1) := by decide +kernel
theorem dX12_dawn_55 : decode cX12_dawn 55 = .ok (.goto 4, 3) := by decide +kernel
theorem dX12_dawn_58 : decode cX12_dawn 58 = .ok (.iconst 0, 1) := by decide +kernel
theorem dX12_dawn_59 : decode cX12_dawn 59 = .ok (.iadd, 1) := by decide +kernel
theorem dX12_dawn_60 : decode cX12_dawn 60 = .ok (.putfield 152, 3) := by decide +kernel
theorem dX12_dawn_63 : decode cX12_dawn 63 = .ok (.iload_n 1, 1) := by decide +kernel
theorem dX12_dawn_64 : decode cX12_dawn 64 = .ok (.ifCond .eq 7, 3) := by decide +kernel
theorem dX12_dawn_67 : decode cX12_dawn 67 = .ok (.iconst 1, 1) := by decide +kernel
theorem dX12_dawn_68 : decode cX12_dawn 68 = .ok (.goto 4, 3) := by decide +kernel
theorem dX12_dawn_71 : decode cX12_dawn 71 = .ok (.iconst 0, 1) := by decide +kernel
theorem dX12_dawn_72 : decode cX12_dawn 72 = .ok (.ireturn, 1) := by decide +kernel
theorem dX12_undo_0 : decode cX12_undo 0 = .ok (.aload_n 0, 1) := by decide +kernel
theorem dX12_undo_1 : decode cX12_undo 1 = .ok (.getfield 155, 3) := by decide +kernel
theorem dX12_undo_4 : decode cX12_undo 4 = .ok (.ifCond .ne 6, 3) := by decide +kernel
theorem dX12_undo_7 : decode cX12_undo 7 = .ok (.bipush (-2), 2) := by decide +kernel
theorem dX12_undo_9 : decode cX12_undo 9 = .ok (.ireturn, 1) := by decide +kernel
theorem dX12_undo_10 : decode cX12_undo 10 = .ok (.aload_n 0, 1) := by decide +kernel
theorem dX12_undo_11 : decode cX12_undo 11 = .ok (.dup, 1) := by decide +kernel
theorem dX12_undo_12 : decode cX12_undo 12 = .ok (.getfield 155, 3) := by decide +kernel
theorem dX12_undo_15 : decode cX12_undo 15 = .ok (.iconst 1, 1) := by decide +kernel
theorem dX12_undo_16 : decode cX12_undo 16 = .ok (.isub, 1) := by decide +kernel
theorem dX12_undo_17 : decode cX12_undo 17 = .ok (.putfield 155, 3) := by decide +kernel
theorem dX12_undo_20 : decode cX12_undo 20 = .ok (.iconst 0, 1) := by decide +kernel
theorem dX12_undo_21 : decode cX12_undo 21 = .ok (.istore_n 1, 1) := by decide +kernel
theorem dX12_undo_22 : decode cX12_undo 22 = .ok (.iload_n 1, 1) := by decide +kernel
theorem dX12_undo_23 : decode cX12_undo 23 = .ok (.bipush 28, 2) := by decide +kernel
theorem dX12_undo_25 : decode cX12_undo 25 = .ok (.if_icmp .ge 29, 3) := by decide +kernel
theorem dX12_undo_28 : decode cX12_undo 28 = .ok (.aload_n 0, 1) := by decide +kernel
theorem dX12_undo_29 : decode cX12_undo 29 = .ok (.getfield 31, 3) := by decide +kernel
theorem dX12_undo_32 : decode cX12_undo 32 = .ok (.iload_n 1, 1) := by decide +kernel
theorem dX12_undo_33 : decode cX12_undo 33 = .ok (.aload_n 0, 1) := by decide +kernel
theorem dX12_undo_34 : decode cX12_undo 34 = .ok (.getfield 37, 3) := by decide +kernel
theorem dX12_undo_37 : decode cX12_undo 37 = .ok (.bipush 29, 2) := by decide +kernel
theorem dX12_undo_39 : decode cX12_undo 39 = .ok (.aload_n 0, 1) := by decide +kernel
theorem dX12_undo_40 : decode cX12_undo 40 = .ok (.getfield 155, 3) := by decide +kernel
theorem dX12_undo_43 : decode cX12_undo 43 = .ok (.imul, 1) := by decide +kernel
theorem dX12_undo_44 : decode cX12_undo 44 = .ok (.iload_n 1, 1) := by decide +kernel
theorem dX12_undo_45 : decode cX12_undo 45 = .ok (.iadd, 1) := by decide +kernel
theorem dX12_undo_46 : decode cX12_undo 46 = .ok (.iaload, 1) := by decide +kernel
theorem dX12_undo_47 : decode cX12_undo 47 = .ok (.iastore, 1) := by decide +kernel
theorem dX12_undo_48 : decode cX12_undo 48 = .ok (.iinc 1 1, 3) := by decide +kernel
theorem dX12_undo_51 : decode cX12_undo 51 = .ok (.goto (-29), 3) := by decide +kernel
theorem dX12_undo_54 : decode cX12_undo 54 = .ok (.aload_n 0, 1) := by decide +kernel
theorem dX12_undo_55 : decode cX12_undo 55 = .ok (.aload_n 0, 1) := by decide +kernel
theorem dX12_undo_56 : decode cX12_undo 56 = .ok (.getfield 37, 3) := by decide +kernel
theorem dX12_undo_59 : decode cX12_undo 59 = .ok (.bipush 29, 2) := by decide +kernel
theorem dX12_undo_61 : decode cX12_undo 61 = .ok (.aload_n 0, 1) := by decide +kernel
theorem dX12_undo_62 : decode cX12_undo 62 = .ok (.getfield 155, 3) := by decide +kernel
theorem dX12_undo_65 : decode cX12_undo 65 = .ok (.imul, 1) := by decide +kernel
theorem dX12_undo_66 : decode cX12_undo 66 = .ok (.bipush 28, 2) := by decide +kernel
theorem dX12_undo_68 : decode cX12_undo 68 = .ok (.iadd, 1) := by decide +kernel
theorem dX12_undo_69 : decode cX12_undo 69 = .ok (.iaload, 1) := by decide +kernel
theorem dX12_undo_70 : decode cX12_undo 70 = .ok (.putfield 152, 3) := by decide +kernel
theorem dX12_undo_73 : decode cX12_undo 73 = .ok (.aload_n 0, 1) := by decide +kernel
theorem dX12_undo_74 : decode cX12_undo 74 = .ok (.getfield 155, 3) := by decide +kernel
theorem dX12_undo_77 : decode cX12_undo 77 = .ok (.ireturn, 1) := by decide +kernel
theorem dX12_now_0 : decode cX12_now 0 = .ok (.iconst 0, 1) := by decide +kernel
theorem dX12_now_1 : decode cX12_now 1 = .ok (.istore_n 2, 1) := by decide +kernel
theorem dX12_now_2 : decode cX12_now 2 = .ok (.iconst 0, 1) := by decide +kernel
theorem dX12_now_3 : decode cX12_now 3 = .ok (.istore_n 3, 1) := by decide +kernel
theorem dX12_now_4 : decode cX12_now 4 = .ok (.iconst 0, 1) := by decide +kernel
theorem dX12_now_5 : decode cX12_now 5 = .ok (.istore 4, 2) := by decide +kernel
theorem dX12_now_7 : decode cX12_now 7 = .ok (.iload 4, 2) := by decide +kernel
theorem dX12_now_9 : decode cX12_now 9 = .ok (.aload_n 0, 1) := by decide +kernel
theorem dX12_now_10 : decode cX12_now 10 = .ok (.getfield 137, 3) := by decide +kernel
theorem dX12_now_13 : decode cX12_now 13 = .ok (.if_icmp .ge 78, 3) := by decide +kernel
theorem dX12_now_16 : decode cX12_now 16 = .ok (.iload_n 2, 1) := by decide +kernel
theorem dX12_now_17 : decode cX12_now 17 = .ok (.aload_n 0, 1) := by decide +kernel
theorem dX12_now_18 : decode cX12_now 18 = .ok (.getfield 31, 3) := by decide +kernel
theorem dX12_now_21 : decode cX12_now 21 = .ok (.bipush 16, 2) := by decide +kernel
theorem dX12_now_23 : decode cX12_now 23 = .ok (.iload 4, 2) := by decide +kernel
theorem dX12_now_25 : decode cX12_now 25 = .ok (.iadd, 1) := by decide +kernel
theorem dX12_now_26 : decode cX12_now 26 = .ok (.iaload, 1) := by decide +kernel
theorem dX12_now_27 : decode cX12_now 27 = .ok (.iconst 1, 1) := by decide +kernel
theorem dX12_now_28 : decode cX12_now 28 = .ok (.if_icmp .ne 23, 3) := by decide +kernel
theorem dX12_now_31 : decode cX12_now 31 = .ok (.aload_n 0, 1) := by decide +kernel
theorem dX12_now_32 : decode cX12_now 32 = .ok (.getfield 31, 3) := by decide +kernel
theorem dX12_now_35 : decode cX12_now 35 = .ok (.bipush 10, 2) := by decide +kernel
theorem dX12_now_37 : decode cX12_now 37 = .ok (.iload 4, 2) := by decide +kernel
theorem dX12_now_39 : decode cX12_now 39 = .ok (.iadd, 1) := by decide +kernel
theorem dX12_now_40 : decode cX12_now 40 = .ok (.iaload, 1) := by decide +kernel
theorem dX12_now_41 : decode cX12_now 41 = .ok (.ifCond .ne 10, 3) := by decide +kernel
theorem dX12_now_44 : decode cX12_now 44 = .ok (.iconst 1, 1) := by decide +kernel
theorem dX12_now_45 : decode cX12_now 45 = .ok (.iload 4, 2) := by decide +kernel
theorem dX12_now_47 : decode cX12_now 47 = .ok (.ishl, 1) := by decide +kernel
theorem dX12_now_48 : decode cX12_now 48 = .ok (.goto 4, 3) := by decide +kernel
theorem dX12_now_51 : decode cX12_now 51 = .ok (.iconst 0, 1) := by decide +kernel
theorem dX12_now_52 : decode cX12_now 52 = .ok (.ior, 1) := by decide +kernel
theorem dX12_now_53 : decode cX12_now 53 = .ok (.istore_n 2, 1) := by decide +kernel
theorem dX12_now_54 : decode cX12_now 54 = .ok (.iload_n 3, 1) := by decide +kernel
theorem dX12_now_55 : decode cX12_now 55 = .ok (.aload_n 0, 1) := by decide +kernel
theorem dX12_now_56 : decode cX12_now 56 = .ok (.invokevirtual 181, 3) := by decide +kernel
theorem dX12_now_59 : decode cX12_now 59 = .ok (.ifCond .eq 23, 3) := by decide +kernel
theorem dX12_now_62 : decode cX12_now 62 = .ok (.aload_n 0, 1) := by decide +kernel
theorem dX12_now_63 : decode cX12_now 63 = .ok (.aload_n 0, 1) := by decide +kernel
theorem dX12_now_64 : decode cX12_now 64 = .ok (.getfield 31, 3) := by decide +kernel
theorem dX12_now_67 : decode cX12_now 67 = .ok (.iload 4, 2) := by decide +kernel
theorem dX12_now_69 : decode cX12_now 69 = .ok (.invokevirtual 184, 3) := by decide +kernel
theorem dX12_now_72 : decode cX12_now 72 = .ok (.ifCond .eq 10, 3) := by decide +kernel
theorem dX12_now_75 : decode cX12_now 75 = .ok (.iconst 1, 1) := by decide +kernel
theorem dX12_now_76 : decode cX12_now 76 = .ok (.iload 4, 2) := by decide +kernel
theorem dX12_now_78 : decode cX12_now 78 = .ok (.ishl, 1) := by decide +kernel
theorem dX12_now_79 : decode cX12_now 79 = .ok (.goto 4, 3) := by decide +kernel
theorem dX12_now_82 : decode cX12_now 82 = .ok (.iconst 0, 1) := by decide +kernel
theorem dX12_now_83 : decode cX12_now 83 = .ok (.ior, 1) := by decide +kernel
theorem dX12_now_84 : decode cX12_now 84 = .ok (.istore_n 3, 1) := by decide +kernel
theorem dX12_now_85 : decode cX12_now 85 = .ok (.iinc 4 1, 3) := by decide +kernel
theorem dX12_now_88 : decode cX12_now 88 = .ok (.goto (-81), 3) := by decide +kernel
theorem dX12_now_91 : decode cX12_now 91 = .ok (.iload_n 1, 1) := by decide +kernel
theorem dX12_now_92 : decode cX12_now 92 = .ok (.tableswitch 93 0 7 #[48, 55, 62, 69, 77, 84, 89, 91], 48) := by decide +kernel
theorem dX12_now_140 : decode cX12_now 140 = .ok (.aload_n 0, 1) := by decide +kernel
theorem dX12_now_141 : decode cX12_now 141 = .ok (.getfield 31, 3) := by decide +kernel
theorem dX12_now_144 : decode cX12_now 144 = .ok (.iconst 0, 1) := by decide +kernel
theorem dX12_now_145 : decode cX12_now 145 = .ok (.iaload, 1) := by decide +kernel
theorem dX12_now_146 : decode cX12_now 146 = .ok (.ireturn, 1) := by decide +kernel
theorem dX12_now_147 : decode cX12_now 147 = .ok (.aload_n 0, 1) := by decide +kernel
theorem dX12_now_148 : decode cX12_now 148 = .ok (.getfield 31, 3) := by decide +kernel
theorem dX12_now_151 : decode cX12_now 151 = .ok (.iconst 1, 1) := by decide +kernel
theorem dX12_now_152 : decode cX12_now 152 = .ok (.iaload, 1) := by decide +kernel
theorem dX12_now_153 : decode cX12_now 153 = .ok (.ireturn, 1) := by decide +kernel
theorem dX12_now_154 : decode cX12_now 154 = .ok (.aload_n 0, 1) := by decide +kernel
theorem dX12_now_155 : decode cX12_now 155 = .ok (.getfield 31, 3) := by decide +kernel
theorem dX12_now_158 : decode cX12_now 158 = .ok (.iconst 2, 1) := by decide +kernel
theorem dX12_now_159 : decode cX12_now 159 = .ok (.iaload, 1) := by decide +kernel
theorem dX12_now_160 : decode cX12_now 160 = .ok (.ireturn, 1) := by decide +kernel
theorem dX12_now_161 : decode cX12_now 161 = .ok (.aload_n 0, 1) := by decide +kernel
theorem dX12_now_162 : decode cX12_now 162 = .ok (.getfield 31, 3) := by decide +kernel
theorem dX12_now_165 : decode cX12_now 165 = .ok (.invokestatic 168, 3) := by decide +kernel
theorem dX12_now_168 : decode cX12_now 168 = .ok (.ireturn, 1) := by decide +kernel
theorem dX12_now_169 : decode cX12_now 169 = .ok (.aload_n 0, 1) := by decide +kernel
theorem dX12_now_170 : decode cX12_now 170 = .ok (.getfield 31, 3) := by decide +kernel
theorem dX12_now_173 : decode cX12_now 173 = .ok (.iconst 3, 1) := by decide +kernel
theorem dX12_now_174 : decode cX12_now 174 = .ok (.iaload, 1) := by decide +kernel
theorem dX12_now_175 : decode cX12_now 175 = .ok (.ireturn, 1) := by decide +kernel
theorem dX12_now_176 : decode cX12_now 176 = .ok (.aload_n 0, 1) := by decide +kernel
theorem dX12_now_177 : decode cX12_now 177 = .ok (.getfield 152, 3) := by decide +kernel
theorem dX12_now_180 : decode cX12_now 180 = .ok (.ireturn, 1) := by decide +kernel
theorem dX12_now_181 : decode cX12_now 181 = .ok (.iload_n 2, 1) := by decide +kernel
theorem dX12_now_182 : decode cX12_now 182 = .ok (.ireturn, 1) := by decide +kernel
theorem dX12_now_183 : decode cX12_now 183 = .ok (.iload_n 3, 1) := by decide +kernel
theorem dX12_now_184 : decode cX12_now 184 = .ok (.ireturn, 1) := by decide +kernel
theorem dX12_now_185 : decode cX12_now 185 = .ok (.iconst (-1), 1) := by decide +kernel
theorem dX12_now_186 : decode cX12_now 186 = .ok (.ireturn, 1) := by decide +kernel
theorem dX12_on_0 : decode cX12_on 0 = .ok (.iconst 0, 1) := by decide +kernel
theorem dX12_on_1 : decode cX12_on 1 = .ok (.istore_n 1, 1) := by decide +kernel
theorem dX12_on_2 : decode cX12_on 2 = .ok (.iload_n 1, 1) := by decide +kernel
theorem dX12_on_3 : decode cX12_on 3 = .ok (.bipush 28, 2) := by decide +kernel
theorem dX12_on_5 : decode cX12_on 5 = .ok (.if_icmp .ge 21, 3) := by decide +kernel
theorem dX12_on_8 : decode cX12_on 8 = .ok (.aload_n 0, 1) := by decide +kernel
theorem dX12_on_9 : decode cX12_on 9 = .ok (.getfield 34, 3) := by decide +kernel
theorem dX12_on_12 : decode cX12_on 12 = .ok (.iload_n 1, 1) := by decide +kernel
theorem dX12_on_13 : decode cX12_on 13 = .ok (.aload_n 0, 1) := by decide +kernel
theorem dX12_on_14 : decode cX12_on 14 = .ok (.getfield 31, 3) := by decide +kernel
theorem dX12_on_17 : decode cX12_on 17 = .ok (.iload_n 1, 1) := by decide +kernel
theorem dX12_on_18 : decode cX12_on 18 = .ok (.iaload, 1) := by decide +kernel
theorem dX12_on_19 : decode cX12_on 19 = .ok (.iastore, 1) := by decide +kernel
theorem dX12_on_20 : decode cX12_on 20 = .ok (.iinc 1 1, 3) := by decide +kernel
theorem dX12_on_23 : decode cX12_on 23 = .ok (.goto (-21), 3) := by decide +kernel
theorem dX12_on_26 : decode cX12_on 26 = .ok (.iconst 0, 1) := by decide +kernel
theorem dX12_on_27 : decode cX12_on 27 = .ok (.istore_n 1, 1) := by decide +kernel
theorem dX12_on_28 : decode cX12_on 28 = .ok (.iload_n 1, 1) := by decide +kernel
theorem dX12_on_29 : decode cX12_on 29 = .ok (.bipush 30, 2) := by decide +kernel
theorem dX12_on_31 : decode cX12_on 31 = .ok (.if_icmp .ge 76, 3) := by decide +kernel
theorem dX12_on_34 : decode cX12_on 34 = .ok (.aload_n 0, 1) := by decide +kernel
theorem dX12_on_35 : decode cX12_on 35 = .ok (.getfield 34, 3) := by decide +kernel
theorem dX12_on_38 : decode cX12_on 38 = .ok (.iconst 3, 1) := by decide +kernel
theorem dX12_on_39 : decode cX12_on 39 = .ok (.iaload, 1) := by decide +kernel
theorem dX12_on_40 : decode cX12_on 40 = .ok (.iconst 1, 1) := by decide +kernel
theorem dX12_on_41 : decode cX12_on 41 = .ok (.if_icmp .ne 66, 3) := by decide +kernel
theorem dX12_on_44 : decode cX12_on 44 = .ok (.aload_n 0, 1) := by decide +kernel
theorem dX12_on_45 : decode cX12_on 45 = .ok (.getfield 34, 3) := by decide +kernel
theorem dX12_on_48 : decode cX12_on 48 = .ok (.iconst 1, 1) := by decide +kernel
theorem dX12_on_49 : decode cX12_on 49 = .ok (.iaload, 1) := by decide +kernel
theorem dX12_on_50 : decode cX12_on 50 = .ok (.ifCond .le 35, 3) := by decide +kernel
theorem dX12_on_53 : decode cX12_on 53 = .ok (.aload_n 0, 1) := by decide +kernel
theorem dX12_on_54 : decode cX12_on 54 = .ok (.getfield 34, 3) := by decide +kernel
theorem dX12_on_57 : decode cX12_on 57 = .ok (.iconst 2, 1) := by decide +kernel
theorem dX12_on_58 : decode cX12_on 58 = .ok (.iaload, 1) := by decide +kernel
theorem dX12_on_59 : decode cX12_on 59 = .ok (.ifCond .le 13, 3) := by decide +kernel
theorem dX12_on_62 : decode cX12_on 62 = .ok (.aload_n 0, 1) := by decide +kernel
theorem dX12_on_63 : decode cX12_on 63 = .ok (.getfield 34, 3) := by decide +kernel
theorem dX12_on_66 : decode cX12_on 66 = .ok (.invokestatic 172, 3) := by decide +kernel
theorem dX12_on_69 : decode cX12_on 69 = .ok (.goto (-25), 3) := by decide +kernel
theorem dX12_on_72 : decode cX12_on 72 = .ok (.aload_n 0, 1) := by decide +kernel
theorem dX12_on_73 : decode cX12_on 73 = .ok (.getfield 34, 3) := by decide +kernel
theorem dX12_on_76 : decode cX12_on 76 = .ok (.iconst 1, 1) := by decide +kernel
theorem dX12_on_77 : decode cX12_on 77 = .ok (.dup2, 1) := by decide +kernel
theorem dX12_on_78 : decode cX12_on 78 = .ok (.iaload, 1) := by decide +kernel
theorem dX12_on_79 : decode cX12_on 79 = .ok (.iconst 1, 1) := by decide +kernel
theorem dX12_on_80 : decode cX12_on 80 = .ok (.isub, 1) := by decide +kernel
theorem dX12_on_81 : decode cX12_on 81 = .ok (.iastore, 1) := by decide +kernel
theorem dX12_on_82 : decode cX12_on 82 = .ok (.goto (-38), 3) := by decide +kernel
theorem dX12_on_85 : decode cX12_on 85 = .ok (.iload_n 1, 1) := by decide +kernel
theorem dX12_on_86 : decode cX12_on 86 = .ok (.aload_n 0, 1) := by decide +kernel
theorem dX12_on_87 : decode cX12_on 87 = .ok (.aload_n 0, 1) := by decide +kernel
theorem dX12_on_88 : decode cX12_on 88 = .ok (.getfield 34, 3) := by decide +kernel
theorem dX12_on_91 : decode cX12_on 91 = .ok (.invokevirtual 195, 3) := by decide +kernel
theorem dX12_on_94 : decode cX12_on 94 = .ok (.ifCond .eq 7, 3) := by decide +kernel
theorem dX12_on_97 : decode cX12_on 97 = .ok (.iconst 1, 1) := by decide +kernel
theorem dX12_on_98 : decode cX12_on 98 = .ok (.goto 4, 3) := by decide +kernel
theorem dX12_on_101 : decode cX12_on 101 = .ok (.iconst 0, 1) := by decide +kernel
theorem dX12_on_102 : decode cX12_on 102 = .ok (.iadd, 1) := by decide +kernel
theorem dX12_on_103 : decode cX12_on 103 = .ok (.istore_n 1, 1) := by decide +kernel
theorem dX12_on_104 : decode cX12_on 104 = .ok (.goto (-76), 3) := by decide +kernel
theorem dX12_on_107 : decode cX12_on 107 = .ok (.iload_n 1, 1) := by decide +kernel
theorem dX12_on_108 : decode cX12_on 108 = .ok (.ireturn, 1) := by decide +kernel
theorem dX12_saves_0 : decode cX12_saves 0 = .ok (.aload_n 0, 1) := by decide +kernel
theorem dX12_saves_1 : decode cX12_saves 1 = .ok (.invokevirtual 149, 3) := by decide +kernel
theorem dX12_saves_4 : decode cX12_saves 4 = .ok (.iconst 0, 1) := by decide +kernel
theorem dX12_saves_5 : decode cX12_saves 5 = .ok (.istore_n 1, 1) := by decide +kernel
theorem dX12_saves_6 : decode cX12_saves 6 = .ok (.iconst 0, 1) := by decide +kernel
theorem dX12_saves_7 : decode cX12_saves 7 = .ok (.istore_n 2, 1) := by decide +kernel
theorem dX12_saves_8 : decode cX12_saves 8 = .ok (.iload_n 2, 1) := by decide +kernel
theorem dX12_saves_9 : decode cX12_saves 9 = .ok (.bipush 30, 2) := by decide +kernel
theorem dX12_saves_11 : decode cX12_saves 11 = .ok (.if_icmp .ge 214, 3) := by decide +kernel
theorem dX12_saves_14 : decode cX12_saves 14 = .ok (.aload_n 0, 1) := by decide +kernel
theorem dX12_saves_15 : decode cX12_saves 15 = .ok (.getfield 34, 3) := by decide +kernel
theorem dX12_saves_18 : decode cX12_saves 18 = .ok (.iconst 3, 1) := by decide +kernel
theorem dX12_saves_19 : decode cX12_saves 19 = .ok (.iaload, 1) := by decide +kernel
theorem dX12_saves_20 : decode cX12_saves 20 = .ok (.iconst 1, 1) := by decide +kernel
theorem dX12_saves_21 : decode cX12_saves 21 = .ok (.if_icmp .ne 204, 3) := by decide +kernel
theorem dX12_saves_24 : decode cX12_saves 24 = .ok (.aload_n 0, 1) := by decide +kernel
theorem dX12_saves_25 : decode cX12_saves 25 = .ok (.getfield 34, 3) := by decide +kernel
theorem dX12_saves_28 : decode cX12_saves 28 = .ok (.iconst 1, 1) := by decide +kernel
theorem dX12_saves_29 : decode cX12_saves 29 = .ok (.iaload, 1) := by decide +kernel
theorem dX12_saves_30 : decode cX12_saves 30 = .ok (.ifCond .le 117, 3) := by decide +kernel
theorem dX12_saves_33 : decode cX12_saves 33 = .ok (.iload_n 1, 1) := by decide +kernel
theorem dX12_saves_34 : decode cX12_saves 34 = .ok (.aload_n 0, 1) := by decide +kernel
theorem dX12_saves_35 : decode cX12_saves 35 = .ok (.getfield 199, 3) := by decide +kernel
theorem dX12_saves_38 : decode cX12_saves 38 = .ok (.if_icmp .ge 52, 3) := by decide +kernel
theorem dX12_saves_41 : decode cX12_saves 41 = .ok (.aload_n 0, 1) := by decide +kernel
theorem dX12_saves_42 : decode cX12_saves 42 = .ok (.getfield 34, 3) := by decide +kernel
theorem dX12_saves_45 : decode cX12_saves 45 = .ok (.iconst 2, 1) := by decide +kernel
theorem dX12_saves_46 : decode cX12_saves 46 = .ok (.iaload, 1) := by decide +kernel
theorem dX12_saves_47 : decode cX12_saves 47 = .ok (.ifCond .eq 22, 3) := by decide +kernel
theorem dX12_saves_50 : decode cX12_saves 50 = .ok (.aload_n 0, 1) := by decide +kernel
theorem dX12_saves_51 : decode cX12_saves 51 = .ok (.getfield 34, 3) := by decide +kernel
theorem dX12_saves_54 : decode cX12_saves 54 = .ok (.bipush 10, 2) := by decide +kernel
theorem dX12_saves_56 : decode cX12_saves 56 = .ok (.aload_n 0, 1) := by decide +kernel
theorem dX12_saves_57 : decode cX12_saves 57 = .ok (.getfield 34, 3) := by decide +kernel
theorem dX12_saves_60 : decode cX12_saves 60 = .ok (.invokestatic 168, 3) := by decide +kernel
theorem dX12_saves_63 : decode cX12_saves 63 = .ok (.iadd, 1) := by decide +kernel
theorem dX12_saves_64 : decode cX12_saves 64 = .ok (.iaload, 1) := by decide +kernel
theorem dX12_saves_65 : decode cX12_saves 65 = .ok (.iconst 1, 1) := by decide +kernel
theorem dX12_saves_66 : decode cX12_saves 66 = .ok (.if_icmp .ne 24, 3) := by decide +kernel
theorem dX12_saves_69 : decode cX12_saves 69 = .ok (.aload_n 0, 1) := by decide +kernel
theorem dX12_saves_70 : decode cX12_saves 70 = .ok (.aload_n 0, 1) := by decide +kernel
theorem dX12_saves_71 : decode cX12_saves 71 = .ok (.getfield 34, 3) := by decide +kernel
theorem dX12_saves_74 : decode cX12_saves 74 = .ok (.aload_n 0, 1) := by decide +kernel
theorem dX12_saves_75 : decode cX12_saves 75 = .ok (.getfield 40, 3) := by decide +kernel
theorem dX12_saves_78 : decode cX12_saves 78 = .ok (.iload_n 1, 1) := by decide +kernel
theorem dX12_saves_79 : decode cX12_saves 79 = .ok (.iaload, 1) := by decide +kernel
theorem dX12_saves_80 : decode cX12_saves 80 = .ok (.invokevirtual 184, 3) := by decide +kernel
theorem dX12_saves_83 : decode cX12_saves 83 = .ok (.ifCond .eq 7, 3) := by decide +kernel
theorem dX12_saves_86 : decode cX12_saves 86 = .ok (.iconst 1, 1) := by decide +kernel
theorem dX12_saves_87 : decode cX12_saves 87 = .ok (.goto 4, 3) := by decide +kernel
theorem dX12_saves_90 : decode cX12_saves 90 = .ok (.iconst 0, 1) := by decide +kernel
theorem dX12_saves_91 : decode cX12_saves 91 = .ok (.istore_n 3, 1) := by decide +kernel
theorem dX12_saves_92 : decode cX12_saves 92 = .ok (.iload_n 3, 1) := by decide +kernel
theorem dX12_saves_93 : decode cX12_saves 93 = .ok (.ifCond .eq 22, 3) := by decide +kernel
theorem dX12_saves_96 : decode cX12_saves 96 = .ok (.aload_n 0, 1) := by decide +kernel
theorem dX12_saves_97 : decode cX12_saves 97 = .ok (.getfield 34, 3) := by decide +kernel
theorem dX12_saves_100 : decode cX12_saves 100 = .ok (.aload_n 0, 1) := by decide +kernel
theorem dX12_saves_101 : decode cX12_saves 101 = .ok (.getfield 40, 3) := by decide +kernel
theorem dX12_saves_104 : decode cX12_saves 104 = .ok (.iload_n 1, 1) := by decide +kernel
theorem dX12_saves_105 : decode cX12_saves 105 = .ok (.iaload, 1) := by decide +kernel
theorem dX12_saves_106 : decode cX12_saves 106 = .ok (.invokestatic 191, 3) := by decide +kernel
theorem dX12_saves_109 : decode cX12_saves 109 = .ok (.iinc 1 1, 3) := by decide +kernel
theorem dX12_saves_112 : decode cX12_saves 112 = .ok (.goto 32, 3) := by decide +kernel
theorem dX12_saves_115 : decode cX12_saves 115 = .ok (.aload_n 0, 1) := by decide +kernel
theorem dX12_saves_116 : decode cX12_saves 116 = .ok (.getfield 34, 3) := by decide +kernel
theorem dX12_saves_119 : decode cX12_saves 119 = .ok (.iconst 2, 1) := by decide +kernel
theorem dX12_saves_120 : decode cX12_saves 120 = .ok (.iaload, 1) := by decide +kernel
theorem dX12_saves_121 : decode cX12_saves 121 = .ok (.ifCond .le 13, 3) := by decide +kernel
theorem dX12_saves_124 : decode cX12_saves 124 = .ok (.aload_n 0, 1) := by decide +kernel
theorem dX12_saves_125 : decode cX12_saves 125 = .ok (.getfield 34, 3) := by decide +kernel
theorem dX12_saves_128 : decode cX12_saves 128 = .ok (.invokestatic 172, 3) := by decide +kernel
theorem dX12_saves_131 : decode cX12_saves 131 = .ok (.goto 13, 3) := by decide +kernel
theorem dX12_saves_134 : decode cX12_saves 134 = .ok (.aload_n 0, 1) := by decide +kernel
theorem dX12_saves_135 : decode cX12_saves 135 = .ok (.getfield 34, 3) := by decide +kernel
theorem dX12_saves_138 : decode cX12_saves 138 = .ok (.iconst 1, 1) := by decide +kernel
theorem dX12_saves_139 : decode cX12_saves 139 = .ok (.dup2, 1) := by decide +kernel
theorem dX12_saves_140 : decode cX12_saves 140 = .ok (.iaload, 1) := by decide +kernel
theorem dX12_saves_141 : decode cX12_saves 141 = .ok (.iconst 1, 1) := by decide +kernel
theorem dX12_saves_142 : decode cX12_saves 142 = .ok (.isub, 1) := by decide +kernel
theorem dX12_saves_143 : decode cX12_saves 143 = .ok (.iastore, 1) := by decide +kernel
theorem dX12_saves_144 : decode cX12_saves 144 = .ok (.goto (-120), 3) := by decide +kernel
theorem dX12_saves_147 : decode cX12_saves 147 = .ok (.aload_n 0, 1) := by decide +kernel
theorem dX12_saves_148 : decode cX12_saves 148 = .ok (.getfield 43, 3) := by decide +kernel
theorem dX12_saves_151 : decode cX12_saves 151 = .ok (.iload_n 2, 1) := by decide +kernel
theorem dX12_saves_152 : decode cX12_saves 152 = .ok (.aload_n 0, 1) := by decide +kernel
theorem dX12_saves_153 : decode cX12_saves 153 = .ok (.getfield 34, 3) := by decide +kernel
theorem dX12_saves_156 : decode cX12_saves 156 = .ok (.iconst 2, 1) := by decide +kernel
theorem dX12_saves_157 : decode cX12_saves 157 = .ok (.iaload, 1) := by decide +kernel
theorem dX12_saves_158 : decode cX12_saves 158 = .ok (.iastore, 1) := by decide +kernel
theorem dX12_saves_159 : decode cX12_saves 159 = .ok (.aload_n 0, 1) := by decide +kernel
theorem dX12_saves_160 : decode cX12_saves 160 = .ok (.getfield 46, 3) := by decide +kernel
theorem dX12_saves_163 : decode cX12_saves 163 = .ok (.iload_n 2, 1) := by decide +kernel
theorem dX12_saves_164 : decode cX12_saves 164 = .ok (.iconst 0, 1) := by decide +kernel
theorem dX12_saves_165 : decode cX12_saves 165 = .ok (.iastore, 1) := by decide +kernel
theorem dX12_saves_166 : decode cX12_saves 166 = .ok (.iconst 0, 1) := by decide +kernel
theorem dX12_saves_167 : decode cX12_saves 167 = .ok (.istore_n 3, 1) := by decide +kernel
theorem dX12_saves_168 : decode cX12_saves 168 = .ok (.iload_n 3, 1) := by decide +kernel
theorem dX12_saves_169 : decode cX12_saves 169 = .ok (.aload_n 0, 1) := by decide +kernel
theorem dX12_saves_170 : decode cX12_saves 170 = .ok (.getfield 34, 3) := by decide +kernel
theorem dX12_saves_173 : decode cX12_saves 173 = .ok (.iconst 2, 1) := by decide +kernel
theorem dX12_saves_174 : decode cX12_saves 174 = .ok (.iaload, 1) := by decide +kernel
theorem dX12_saves_175 : decode cX12_saves 175 = .ok (.if_icmp .ge 28, 3) := by decide +kernel
theorem dX12_saves_178 : decode cX12_saves 178 = .ok (.aload_n 0, 1) := by decide +kernel
theorem dX12_saves_179 : decode cX12_saves 179 = .ok (.getfield 46, 3) := by decide +kernel
theorem dX12_saves_182 : decode cX12_saves 182 = .ok (.iload_n 2, 1) := by decide +kernel
theorem dX12_saves_183 : decode cX12_saves 183 = .ok (.dup2, 1) := by decide +kernel
theorem dX12_saves_184 : decode cX12_saves 184 = .ok (.iaload, 1) := by decide +kernel
theorem dX12_saves_185 : decode cX12_saves 185 = .ok (.iconst 1, 1) := by decide +kernel
theorem dX12_saves_186 : decode cX12_saves 186 = .ok (.aload_n 0, 1) := by decide +kernel
theorem dX12_saves_187 : decode cX12_saves 187 = .ok (.getfield 34, 3) := by decide +kernel
theorem dX12_saves_190 : decode cX12_saves 190 = .ok (.iconst 4, 1) := by decide +kernel
theorem dX12_saves_191 : decode cX12_saves 191 = .ok (.iload_n 3, 1) := by decide +kernel
theorem dX12_saves_192 : decode cX12_saves 192 = .ok (.iadd, 1) := by decide +kernel
theorem dX12_saves_193 : decode cX12_saves 193 = .ok (.iaload, 1) := by decide +kernel
theorem dX12_saves_194 : decode cX12_saves 194 = .ok (.ishl, 1) := by decide +kernel
theorem dX12_saves_195 : decode cX12_saves 195 = .ok (.ior, 1) := by decide +kernel
theorem dX12_saves_196 : decode cX12_saves 196 = .ok (.iastore, 1) := by decide +kernel
theorem dX12_saves_197 : decode cX12_saves 197 = .ok (.iinc 3 1, 3) := by decide +kernel
theorem dX12_saves_200 : decode cX12_saves 200 = .ok (.goto (-32), 3) := by decide +kernel
theorem dX12_saves_203 : decode cX12_saves 203 = .ok (.iload_n 2, 1) := by decide +kernel
theorem dX12_saves_204 : decode cX12_saves 204 = .ok (.aload_n 0, 1) := by decide +kernel
theorem dX12_saves_205 : decode cX12_saves 205 = .ok (.aload_n 0, 1) := by decide +kernel
theorem dX12_saves_206 : decode cX12_saves 206 = .ok (.getfield 34, 3) := by decide +kernel
theorem dX12_saves_209 : decode cX12_saves 209 = .ok (.invokevirtual 195, 3) := by decide +kernel
theorem dX12_saves_212 : decode cX12_saves 212 = .ok (.ifCond .eq 7, 3) := by decide +kernel
theorem dX12_saves_215 : decode cX12_saves 215 = .ok (.iconst 1, 1) := by decide +kernel
theorem dX12_saves_216 : decode cX12_saves 216 = .ok (.goto 4, 3) := by decide +kernel
theorem dX12_saves_219 : decode cX12_saves 219 = .ok (.iconst 0, 1) := by decide +kernel
theorem dX12_saves_220 : decode cX12_saves 220 = .ok (.iadd, 1) := by decide +kernel
theorem dX12_saves_221 : decode cX12_saves 221 = .ok (.istore_n 2, 1) := by decide +kernel
theorem dX12_saves_222 : decode cX12_saves 222 = .ok (.goto (-214), 3) := by decide +kernel
theorem dX12_saves_225 : decode cX12_saves 225 = .ok (.iload_n 2, 1) := by decide +kernel
theorem dX12_saves_226 : decode cX12_saves 226 = .ok (.ireturn, 1) := by decide +kernel
theorem dX12_by_0 : decode cX12_by 0 = .ok (.iload_n 1, 1) := by decide +kernel
theorem dX12_by_1 : decode cX12_by 1 = .ok (.istore_n 2, 1) := by decide +kernel
theorem dX12_by_2 : decode cX12_by 2 = .ok (.aload_n 0, 1) := by decide +kernel
theorem dX12_by_3 : decode cX12_by 3 = .ok (.iconst 0, 1) := by decide +kernel
theorem dX12_by_4 : decode cX12_by 4 = .ok (.putfield 199, 3) := by decide +kernel
theorem dX12_by_7 : decode cX12_by 7 = .ok (.iconst 0, 1) := by decide +kernel
theorem dX12_by_8 : decode cX12_by 8 = .ok (.istore_n 3, 1) := by decide +kernel
theorem dX12_by_9 : decode cX12_by 9 = .ok (.iload_n 1, 1) := by decide +kernel
theorem dX12_by_10 : decode cX12_by 10 = .ok (.ifCond .lt 13, 3) := by decide +kernel
theorem dX12_by_13 : decode cX12_by 13 = .ok (.iload_n 1, 1) := by decide +kernel
theorem dX12_by_14 : decode cX12_by 14 = .ok (.ldc 202, 2) := by decide +kernel
theorem dX12_by_16 : decode cX12_by 16 = .ok (.if_icmp .ge 7, 3) := by decide +kernel
theorem dX12_by_19 : decode cX12_by 19 = .ok (.iconst 1, 1) := by decide +kernel
theorem dX12_by_20 : decode cX12_by 20 = .ok (.goto 4, 3) := by decide +kernel
theorem dX12_by_23 : decode cX12_by 23 = .ok (.iconst 0, 1) := by decide +kernel
theorem dX12_by_24 : decode cX12_by 24 = .ok (.istore 4, 2) := by decide +kernel
theorem dX12_by_26 : decode cX12_by 26 = .ok (.iload_n 2, 1) := by decide +kernel
theorem dX12_by_27 : decode cX12_by 27 = .ok (.ifCond .le 75, 3) := by decide +kernel
theorem dX12_by_30 : decode cX12_by 30 = .ok (.iload 4, 2) := by decide +kernel
theorem dX12_by_32 : decode cX12_by 32 = .ok (.ifCond .eq 70, 3) := by decide +kernel
theorem dX12_by_35 : decode cX12_by 35 = .ok (.iload_n 2, 1) := by decide +kernel
theorem dX12_by_36 : decode cX12_by 36 = .ok (.bipush 10, 2) := by decide +kernel
theorem dX12_by_38 : decode cX12_by 38 = .ok (.irem, 1) := by decide +kernel
theorem dX12_by_39 : decode cX12_by 39 = .ok (.iconst 1, 1) := by decide +kernel
theorem dX12_by_40 : decode cX12_by 40 = .ok (.isub, 1) := by decide +kernel
theorem dX12_by_41 : decode cX12_by 41 = .ok (.istore 5, 2) := by decide +kernel
theorem dX12_by_43 : decode cX12_by 43 = .ok (.aload_n 0, 1) := by decide +kernel
theorem dX12_by_44 : decode cX12_by 44 = .ok (.iload 5, 2) := by decide +kernel
theorem dX12_by_46 : decode cX12_by 46 = .ok (.invokevirtual 176, 3) := by decide +kernel
theorem dX12_by_49 : decode cX12_by 49 = .ok (.ifCond .eq 16, 3) := by decide +kernel
theorem dX12_by_52 : decode cX12_by 52 = .ok (.iload_n 3, 1) := by decide +kernel
theorem dX12_by_53 : decode cX12_by 53 = .ok (.iload 5, 2) := by decide +kernel
theorem dX12_by_55 : decode cX12_by 55 = .ok (.ishr, 1) := by decide +kernel
theorem dX12_by_56 : decode cX12_by 56 = .ok (.iconst 1, 1) := by decide +kernel
theorem dX12_by_57 : decode cX12_by 57 = .ok (.iand, 1) := by decide +kernel
theorem dX12_by_58 : decode cX12_by 58 = .ok (.ifCond .ne 7, 3) := by decide +kernel
theorem dX12_by_61 : decode cX12_by 61 = .ok (.iconst 1, 1) := by decide +kernel
theorem dX12_by_62 : decode cX12_by 62 = .ok (.goto 4, 3) := by decide +kernel
theorem dX12_by_65 : decode cX12_by 65 = .ok (.iconst 0, 1) := by decide +kernel
theorem dX12_by_66 : decode cX12_by 66 = .ok (.istore 4, 2) := by decide +kernel
theorem dX12_by_68 : decode cX12_by 68 = .ok (.iload_n 3, 1) := by decide +kernel
theorem dX12_by_69 : decode cX12_by 69 = .ok (.iload 4, 2) := by decide +kernel
theorem dX12_by_71 : decode cX12_by 71 = .ok (.ifCond .eq 10, 3) := by decide +kernel
theorem dX12_by_74 : decode cX12_by 74 = .ok (.iconst 1, 1) := by decide +kernel
theorem dX12_by_75 : decode cX12_by 75 = .ok (.iload 5, 2) := by decide +kernel
theorem dX12_by_77 : decode cX12_by 77 = .ok (.ishl, 1) := by decide +kernel
theorem dX12_by_78 : decode cX12_by 78 = .ok (.goto 4, 3) := by decide +kernel
theorem dX12_by_81 : decode cX12_by 81 = .ok (.iconst 0, 1) := by decide +kernel
theorem dX12_by_82 : decode cX12_by 82 = .ok (.ior, 1) := by decide +kernel
theorem dX12_by_83 : decode cX12_by 83 = .ok (.istore_n 3, 1) := by decide +kernel
theorem dX12_by_84 : decode cX12_by 84 = .ok (.aload_n 0, 1) := by decide +kernel
theorem dX12_by_85 : decode cX12_by 85 = .ok (.dup, 1) := by decide +kernel
theorem dX12_by_86 : decode cX12_by 86 = .ok (.getfield 199, 3) := by decide +kernel
theorem dX12_by_89 : decode cX12_by 89 = .ok (.iconst 1, 1) := by decide +kernel
theorem dX12_by_90 : decode cX12_by 90 = .ok (.iadd, 1) := by decide +kernel
theorem dX12_by_91 : decode cX12_by 91 = .ok (.putfield 199, 3) := by decide +kernel
theorem dX12_by_94 : decode cX12_by 94 = .ok (.iload_n 2, 1) := by decide +kernel
theorem dX12_by_95 : decode cX12_by 95 = .ok (.bipush 10, 2) := by decide +kernel
theorem dX12_by_97 : decode cX12_by 97 = .ok (.idiv, 1) := by decide +kernel
theorem dX12_by_98 : decode cX12_by 98 = .ok (.istore_n 2, 1) := by decide +kernel
theorem dX12_by_99 : decode cX12_by 99 = .ok (.goto (-73), 3) := by decide +kernel
theorem dX12_by_102 : decode cX12_by 102 = .ok (.iload 4, 2) := by decide +kernel
theorem dX12_by_104 : decode cX12_by 104 = .ok (.ifCond .ne 5, 3) := by decide +kernel
theorem dX12_by_107 : decode cX12_by 107 = .ok (.iconst (-1), 1) := by decide +kernel
theorem dX12_by_108 : decode cX12_by 108 = .ok (.ireturn, 1) := by decide +kernel
theorem dX12_by_109 : decode cX12_by 109 = .ok (.iload_n 1, 1) := by decide +kernel
theorem dX12_by_110 : decode cX12_by 110 = .ok (.istore_n 2, 1) := by decide +kernel
theorem dX12_by_111 : decode cX12_by 111 = .ok (.aload_n 0, 1) := by decide +kernel
theorem dX12_by_112 : decode cX12_by 112 = .ok (.getfield 199, 3) := by decide +kernel
theorem dX12_by_115 : decode cX12_by 115 = .ok (.iconst 1, 1) := by decide +kernel
theorem dX12_by_116 : decode cX12_by 116 = .ok (.isub, 1) := by decide +kernel
theorem dX12_by_117 : decode cX12_by 117 = .ok (.istore 5, 2) := by decide +kernel
theorem dX12_by_119 : decode cX12_by 119 = .ok (.iload 5, 2) := by decide +kernel
theorem dX12_by_121 : decode cX12_by 121 = .ok (.ifCond .lt 27, 3) := by decide +kernel
theorem dX12_by_124 : decode cX12_by 124 = .ok (.aload_n 0, 1) := by decide +kernel
theorem dX12_by_125 : decode cX12_by 125 = .ok (.getfield 40, 3) := by decide +kernel
theorem dX12_by_128 : decode cX12_by 128 = .ok (.iload 5, 2) := by decide +kernel
theorem dX12_by_130 : decode cX12_by 130 = .ok (.iload_n 2, 1) := by decide +kernel
theorem dX12_by_131 : decode cX12_by 131 = .ok (.bipush 10, 2) := by decide +kernel
theorem dX12_by_133 : decode cX12_by 133 = .ok (.irem, 1) := by decide +kernel
theorem dX12_by_134 : decode cX12_by 134 = .ok (.iconst 1, 1) := by decide +kernel
theorem dX12_by_135 : decode cX12_by 135 = .ok (.isub, 1) := by decide +kernel
theorem dX12_by_136 : decode cX12_by 136 = .ok (.iastore, 1) := by decide +kernel
theorem dX12_by_137 : decode cX12_by 137 = .ok (.iload_n 2, 1) := by decide +kernel
theorem dX12_by_138 : decode cX12_by 138 = .ok (.bipush 10, 2) := by decide +kernel
theorem dX12_by_140 : decode cX12_by 140 = .ok (.idiv, 1) := by decide +kernel
theorem dX12_by_141 : decode cX12_by 141 = .ok (.istore_n 2, 1) := by decide +kernel
theorem dX12_by_142 : decode cX12_by 142 = .ok (.iinc 5 (-1), 3) := by decide +kernel
theorem dX12_by_145 : decode cX12_by 145 = .ok (.goto (-26), 3) := by decide +kernel
theorem dX12_by_148 : decode cX12_by 148 = .ok (.aload_n 0, 1) := by decide +kernel
theorem dX12_by_149 : decode cX12_by 149 = .ok (.invokevirtual 203, 3) := by decide +kernel
theorem dX12_by_152 : decode cX12_by 152 = .ok (.ireturn, 1) := by decide +kernel
theorem dX12_code_0 : decode cX12_code 0 = .ok (.iconst 0, 1) := by decide +kernel
theorem dX12_code_1 : decode cX12_code 1 = .ok (.istore_n 1, 1) := by decide +kernel
theorem dX12_code_2 : decode cX12_code 2 = .ok (.iconst 0, 1) := by decide +kernel
theorem dX12_code_3 : decode cX12_code 3 = .ok (.istore_n 2, 1) := by decide +kernel
theorem dX12_code_4 : decode cX12_code 4 = .ok (.iload_n 2, 1) := by decide +kernel
theorem dX12_code_5 : decode cX12_code 5 = .ok (.aload_n 0, 1) := by decide +kernel
theorem dX12_code_6 : decode cX12_code 6 = .ok (.getfield 199, 3) := by decide +kernel
theorem dX12_code_9 : decode cX12_code 9 = .ok (.if_icmp .ge 23, 3) := by decide +kernel
theorem dX12_code_12 : decode cX12_code 12 = .ok (.bipush 10, 2) := by decide +kernel
theorem dX12_code_14 : decode cX12_code 14 = .ok (.iload_n 1, 1) := by decide +kernel
theorem dX12_code_15 : decode cX12_code 15 = .ok (.imul, 1) := by decide +kernel
theorem dX12_code_16 : decode cX12_code 16 = .ok (.aload_n 0, 1) := by decide +kernel
theorem dX12_code_17 : decode cX12_code 17 = .ok (.getfield 40, 3) := by decide +kernel
theorem dX12_code_20 : decode cX12_code 20 = .ok (.iload_n 2, 1) := by decide +kernel
theorem dX12_code_21 : decode cX12_code 21 = .ok (.iaload, 1) := by decide +kernel
theorem dX12_code_22 : decode cX12_code 22 = .ok (.iadd, 1) := by decide +kernel
theorem dX12_code_23 : decode cX12_code 23 = .ok (.iconst 1, 1) := by decide +kernel
theorem dX12_code_24 : decode cX12_code 24 = .ok (.iadd, 1) := by decide +kernel
theorem dX12_code_25 : decode cX12_code 25 = .ok (.istore_n 1, 1) := by decide +kernel
theorem dX12_code_26 : decode cX12_code 26 = .ok (.iinc 2 1, 3) := by decide +kernel
theorem dX12_code_29 : decode cX12_code 29 = .ok (.goto (-25), 3) := by decide +kernel
theorem dX12_code_32 : decode cX12_code 32 = .ok (.iload_n 1, 1) := by decide +kernel
theorem dX12_code_33 : decode cX12_code 33 = .ok (.ireturn, 1) := by decide +kernel
theorem dX12_turns_0 : decode cX12_turns 0 = .ok (.aload_n 0, 1) := by decide +kernel
theorem dX12_turns_1 : decode cX12_turns 1 = .ok (.getfield 199, 3) := by decide +kernel
theorem dX12_turns_4 : decode cX12_turns 4 = .ok (.iconst 1, 1) := by decide +kernel
theorem dX12_turns_5 : decode cX12_turns 5 = .ok (.isub, 1) := by decide +kernel
theorem dX12_turns_6 : decode cX12_turns 6 = .ok (.istore_n 1, 1) := by decide +kernel
theorem dX12_turns_7 : decode cX12_turns 7 = .ok (.iload_n 1, 1) := by decide +kernel
theorem dX12_turns_8 : decode cX12_turns 8 = .ok (.ifCond .lt 74, 3) := by decide +kernel
theorem dX12_turns_11 : decode cX12_turns 11 = .ok (.aload_n 0, 1) := by decide +kernel
theorem dX12_turns_12 : decode cX12_turns 12 = .ok (.getfield 40, 3) := by decide +kernel
theorem dX12_turns_15 : decode cX12_turns 15 = .ok (.iload_n 1, 1) := by decide +kernel
theorem dX12_turns_16 : decode cX12_turns 16 = .ok (.dup2, 1) := by decide +kernel
theorem dX12_turns_17 : decode cX12_turns 17 = .ok (.iaload, 1) := by decide +kernel
theorem dX12_turns_18 : decode cX12_turns 18 = .ok (.iconst 1, 1) := by decide +kernel
theorem dX12_turns_19 : decode cX12_turns 19 = .ok (.iadd, 1) := by decide +kernel
theorem dX12_turns_20 : decode cX12_turns 20 = .ok (.iastore, 1) := by decide +kernel
theorem dX12_turns_21 : decode cX12_turns 21 = .ok (.aload_n 0, 1) := by decide +kernel
theorem dX12_turns_22 : decode cX12_turns 22 = .ok (.getfield 40, 3) := by decide +kernel
theorem dX12_turns_25 : decode cX12_turns 25 = .ok (.iload_n 1, 1) := by decide +kernel
theorem dX12_turns_26 : decode cX12_turns 26 = .ok (.iaload, 1) := by decide +kernel
theorem dX12_turns_27 : decode cX12_turns 27 = .ok (.aload_n 0, 1) := by decide +kernel
theorem dX12_turns_28 : decode cX12_turns 28 = .ok (.getfield 137, 3) := by decide +kernel
theorem dX12_turns_31 : decode cX12_turns 31 = .ok (.if_icmp .ge 24, 3) := by decide +kernel
theorem dX12_turns_34 : decode cX12_turns 34 = .ok (.aload_n 0, 1) := by decide +kernel
theorem dX12_turns_35 : decode cX12_turns 35 = .ok (.iload_n 1, 1) := by decide +kernel
theorem dX12_turns_36 : decode cX12_turns 36 = .ok (.invokevirtual 207, 3) := by decide +kernel
theorem dX12_turns_39 : decode cX12_turns 39 = .ok (.ifCond .eq 16, 3) := by decide +kernel
theorem dX12_turns_42 : decode cX12_turns 42 = .ok (.aload_n 0, 1) := by decide +kernel
theorem dX12_turns_43 : decode cX12_turns 43 = .ok (.getfield 40, 3) := by decide +kernel
theorem dX12_turns_46 : decode cX12_turns 46 = .ok (.iload_n 1, 1) := by decide +kernel
theorem dX12_turns_47 : decode cX12_turns 47 = .ok (.dup2, 1) := by decide +kernel
theorem dX12_turns_48 : decode cX12_turns 48 = .ok (.iaload, 1) := by decide +kernel
theorem dX12_turns_49 : decode cX12_turns 49 = .ok (.iconst 1, 1) := by decide +kernel
theorem dX12_turns_50 : decode cX12_turns 50 = .ok (.iadd, 1) := by decide +kernel
theorem dX12_turns_51 : decode cX12_turns 51 = .ok (.iastore, 1) := by decide +kernel
theorem dX12_turns_52 : decode cX12_turns 52 = .ok (.goto (-31), 3) := by decide +kernel
theorem dX12_turns_55 : decode cX12_turns 55 = .ok (.aload_n 0, 1) := by decide +kernel
theorem dX12_turns_56 : decode cX12_turns 56 = .ok (.getfield 40, 3) := by decide +kernel
theorem dX12_turns_59 : decode cX12_turns 59 = .ok (.iload_n 1, 1) := by decide +kernel
theorem dX12_turns_60 : decode cX12_turns 60 = .ok (.iaload, 1) := by decide +kernel
theorem dX12_turns_61 : decode cX12_turns 61 = .ok (.aload_n 0, 1) := by decide +kernel
theorem dX12_turns_62 : decode cX12_turns 62 = .ok (.getfield 137, 3) := by decide +kernel
theorem dX12_turns_65 : decode cX12_turns 65 = .ok (.if_icmp .ge 11, 3) := by decide +kernel
theorem dX12_turns_68 : decode cX12_turns 68 = .ok (.aload_n 0, 1) := by decide +kernel
theorem dX12_turns_69 : decode cX12_turns 69 = .ok (.iload_n 1, 1) := by decide +kernel
theorem dX12_turns_70 : decode cX12_turns 70 = .ok (.iconst 1, 1) := by decide +kernel
theorem dX12_turns_71 : decode cX12_turns 71 = .ok (.iadd, 1) := by decide +kernel
theorem dX12_turns_72 : decode cX12_turns 72 = .ok (.invokevirtual 210, 3) := by decide +kernel
theorem dX12_turns_75 : decode cX12_turns 75 = .ok (.ireturn, 1) := by decide +kernel
theorem dX12_turns_76 : decode cX12_turns 76 = .ok (.iinc 1 (-1), 3) := by decide +kernel
theorem dX12_turns_79 : decode cX12_turns 79 = .ok (.goto (-72), 3) := by decide +kernel
theorem dX12_turns_82 : decode cX12_turns 82 = .ok (.iconst 0, 1) := by decide +kernel
theorem dX12_turns_83 : decode cX12_turns 83 = .ok (.ireturn, 1) := by decide +kernel
theorem dX12_isMet_0 : decode cX12_isMet 0 = .ok (.iconst 0, 1) := by decide +kernel
theorem dX12_isMet_1 : decode cX12_isMet 1 = .ok (.istore_n 2, 1) := by decide +kernel
theorem dX12_isMet_2 : decode cX12_isMet 2 = .ok (.iconst 0, 1) := by decide +kernel
theorem dX12_isMet_3 : decode cX12_isMet 3 = .ok (.istore_n 3, 1) := by decide +kernel
theorem dX12_isMet_4 : decode cX12_isMet 4 = .ok (.iload_n 3, 1) := by decide +kernel
theorem dX12_isMet_5 : decode cX12_isMet 5 = .ok (.iload_n 1, 1) := by decide +kernel
theorem dX12_isMet_6 : decode cX12_isMet 6 = .ok (.if_icmp .ge 34, 3) := by decide +kernel
theorem dX12_isMet_9 : decode cX12_isMet 9 = .ok (.iload_n 2, 1) := by decide +kernel
theorem dX12_isMet_10 : decode cX12_isMet 10 = .ok (.ifCond .ne 18, 3) := by decide +kernel
theorem dX12_isMet_13 : decode cX12_isMet 13 = .ok (.aload_n 0, 1) := by decide +kernel
theorem dX12_isMet_14 : decode cX12_isMet 14 = .ok (.getfield 40, 3) := by decide +kernel
theorem dX12_isMet_17 : decode cX12_isMet 17 = .ok (.iload_n 3, 1) := by decide +kernel
theorem dX12_isMet_18 : decode cX12_isMet 18 = .ok (.iaload, 1) := by decide +kernel
theorem dX12_isMet_19 : decode cX12_isMet 19 = .ok (.aload_n 0, 1) := by decide +kernel
theorem dX12_isMet_20 : decode cX12_isMet 20 = .ok (.getfield 40, 3) := by decide +kernel
theorem dX12_isMet_23 : decode cX12_isMet 23 = .ok (.iload_n 1, 1) := by decide +kernel
theorem dX12_isMet_24 : decode cX12_isMet 24 = .ok (.iaload, 1) := by decide +kernel
theorem dX12_isMet_25 : decode cX12_isMet 25 = .ok (.if_icmp .ne 7, 3) := by decide +kernel
theorem dX12_isMet_28 : decode cX12_isMet 28 = .ok (.iconst 1, 1) := by decide +kernel
theorem dX12_isMet_29 : decode cX12_isMet 29 = .ok (.goto 4, 3) := by decide +kernel
theorem dX12_isMet_32 : decode cX12_isMet 32 = .ok (.iconst 0, 1) := by decide +kernel
theorem dX12_isMet_33 : decode cX12_isMet 33 = .ok (.istore_n 2, 1) := by decide +kernel
theorem dX12_isMet_34 : decode cX12_isMet 34 = .ok (.iinc 3 1, 3) := by decide +kernel
theorem dX12_isMet_37 : decode cX12_isMet 37 = .ok (.goto (-33), 3) := by decide +kernel
theorem dX12_isMet_40 : decode cX12_isMet 40 = .ok (.iload_n 2, 1) := by decide +kernel
theorem dX12_isMet_41 : decode cX12_isMet 41 = .ok (.ireturn, 1) := by decide +kernel
theorem dX12_fills_0 : decode cX12_fills 0 = .ok (.iload_n 1, 1) := by decide +kernel
theorem dX12_fills_1 : decode cX12_fills 1 = .ok (.istore_n 2, 1) := by decide +kernel
theorem dX12_fills_2 : decode cX12_fills 2 = .ok (.iload_n 2, 1) := by decide +kernel
theorem dX12_fills_3 : decode cX12_fills 3 = .ok (.aload_n 0, 1) := by decide +kernel
theorem dX12_fills_4 : decode cX12_fills 4 = .ok (.getfield 199, 3) := by decide +kernel
theorem dX12_fills_7 : decode cX12_fills 7 = .ok (.if_icmp .ge 37, 3) := by decide +kernel
theorem dX12_fills_10 : decode cX12_fills 10 = .ok (.aload_n 0, 1) := by decide +kernel
theorem dX12_fills_11 : decode cX12_fills 11 = .ok (.getfield 40, 3) := by decide +kernel
theorem dX12_fills_14 : decode cX12_fills 14 = .ok (.iload_n 2, 1) := by decide +kernel
theorem dX12_fills_15 : decode cX12_fills 15 = .ok (.iconst 0, 1) := by decide +kernel
theorem dX12_fills_16 : decode cX12_fills 16 = .ok (.iastore, 1) := by decide +kernel
theorem dX12_fills_17 : decode cX12_fills 17 = .ok (.aload_n 0, 1) := by decide +kernel
theorem dX12_fills_18 : decode cX12_fills 18 = .ok (.iload_n 2, 1) := by decide +kernel
theorem dX12_fills_19 : decode cX12_fills 19 = .ok (.invokevirtual 207, 3) := by decide +kernel
theorem dX12_fills_22 : decode cX12_fills 22 = .ok (.ifCond .eq 16, 3) := by decide +kernel
theorem dX12_fills_25 : decode cX12_fills 25 = .ok (.aload_n 0, 1) := by decide +kernel
theorem dX12_fills_26 : decode cX12_fills 26 = .ok (.getfield 40, 3) := by decide +kernel
theorem dX12_fills_29 : decode cX12_fills 29 = .ok (.iload_n 2, 1) := by decide +kernel
theorem dX12_fills_30 : decode cX12_fills 30 = .ok (.dup2, 1) := by decide +kernel
theorem dX12_fills_31 : decode cX12_fills 31 = .ok (.iaload, 1) := by decide +kernel
theorem dX12_fills_32 : decode cX12_fills 32 = .ok (.iconst 1, 1) := by decide +kernel
theorem dX12_fills_33 : decode cX12_fills 33 = .ok (.iadd, 1) := by decide +kernel
theorem dX12_fills_34 : decode cX12_fills 34 = .ok (.iastore, 1) := by decide +kernel
theorem dX12_fills_35 : decode cX12_fills 35 = .ok (.goto (-18), 3) := by decide +kernel
theorem dX12_fills_38 : decode cX12_fills 38 = .ok (.iinc 2 1, 3) := by decide +kernel
theorem dX12_fills_41 : decode cX12_fills 41 = .ok (.goto (-39), 3) := by decide +kernel
theorem dX12_fills_44 : decode cX12_fills 44 = .ok (.iconst 1, 1) := by decide +kernel
theorem dX12_fills_45 : decode cX12_fills 45 = .ok (.ireturn, 1) := by decide +kernel
theorem dX12_starts_0 : decode cX12_starts 0 = .ok (.aload_n 0, 1) := by decide +kernel
theorem dX12_starts_1 : decode cX12_starts 1 = .ok (.iload_n 1, 1) := by decide +kernel
theorem dX12_starts_2 : decode cX12_starts 2 = .ok (.putfield 199, 3) := by decide +kernel
theorem dX12_starts_5 : decode cX12_starts 5 = .ok (.iload_n 1, 1) := by decide +kernel
theorem dX12_starts_6 : decode cX12_starts 6 = .ok (.aload_n 0, 1) := by decide +kernel
theorem dX12_starts_7 : decode cX12_starts 7 = .ok (.getfield 137, 3) := by decide +kernel
theorem dX12_starts_10 : decode cX12_starts 10 = .ok (.if_icmp .gt 15, 3) := by decide +kernel
theorem dX12_starts_13 : decode cX12_starts 13 = .ok (.aload_n 0, 1) := by decide +kernel
theorem dX12_starts_14 : decode cX12_starts 14 = .ok (.iconst 0, 1) := by decide +kernel
theorem dX12_starts_15 : decode cX12_starts 15 = .ok (.invokevirtual 210, 3) := by decide +kernel
theorem dX12_starts_18 : decode cX12_starts 18 = .ok (.ifCond .eq 7, 3) := by decide +kernel
theorem dX12_starts_21 : decode cX12_starts 21 = .ok (.iconst 1, 1) := by decide +kernel
theorem dX12_starts_22 : decode cX12_starts 22 = .ok (.goto 4, 3) := by decide +kernel
theorem dX12_starts_25 : decode cX12_starts 25 = .ok (.iconst 0, 1) := by decide +kernel
theorem dX12_starts_26 : decode cX12_starts 26 = .ok (.ireturn, 1) := by decide +kernel
theorem dX12_finds_0 : decode cX12_finds 0 = .ok (.aload_n 0, 1) := by decide +kernel
theorem dX12_finds_1 : decode cX12_finds 1 = .ok (.iconst (-1), 1) := by decide +kernel
theorem dX12_finds_2 : decode cX12_finds 2 = .ok (.putfield 213, 3) := by decide +kernel
theorem dX12_finds_5 : decode cX12_finds 5 = .ok (.aload_n 0, 1) := by decide +kernel
theorem dX12_finds_6 : decode cX12_finds 6 = .ok (.iconst 0, 1) := by decide +kernel
theorem dX12_finds_7 : decode cX12_finds 7 = .ok (.putfield 216, 3) := by decide +kernel
theorem dX12_finds_10 : decode cX12_finds 10 = .ok (.iconst 0, 1) := by decide +kernel
theorem dX12_finds_11 : decode cX12_finds 11 = .ok (.istore_n 1, 1) := by decide +kernel
theorem dX12_finds_12 : decode cX12_finds 12 = .ok (.iload_n 1, 1) := by decide +kernel
theorem dX12_finds_13 : decode cX12_finds 13 = .ok (.aload_n 0, 1) := by decide +kernel
theorem dX12_finds_14 : decode cX12_finds 14 = .ok (.getfield 137, 3) := by decide +kernel
theorem dX12_finds_17 : decode cX12_finds 17 = .ok (.if_icmp .gt 75, 3) := by decide +kernel
theorem dX12_finds_20 : decode cX12_finds 20 = .ok (.aload_n 0, 1) := by decide +kernel
theorem dX12_finds_21 : decode cX12_finds 21 = .ok (.iload_n 1, 1) := by decide +kernel
theorem dX12_finds_22 : decode cX12_finds 22 = .ok (.invokevirtual 219, 3) := by decide +kernel
end
section
theorem dX12_finds_25 : decode cX12_finds 25 = .ok (.istore_n 2, 1) := by decide +kernel
theorem dX12_finds_26 : decode cX12_finds 26 = .ok (.iload_n 2, 1) := by decide +kernel
theorem dX12_finds_27 : decode cX12_finds 27 = .ok (.ifCond .eq 59, 3) := by decide +kernel
theorem dX12_finds_30 : decode cX12_finds 30 = .ok (.aload_n 0, 1) := by decide +kernel
theorem dX12_finds_31 : decode cX12_finds 31 = .ok (.invokevirtual 203, 3) := by decide +kernel
theorem dX12_finds_34 : decode cX12_finds 34 = .ok (.istore_n 3, 1) := by decide +kernel
theorem dX12_finds_35 : decode cX12_finds 35 = .ok (.aload_n 0, 1) := by decide +kernel
theorem dX12_finds_36 : decode cX12_finds 36 = .ok (.iload_n 3, 1) := by decide +kernel
theorem dX12_finds_37 : decode cX12_finds 37 = .ok (.aload_n 0, 1) := by decide +kernel
theorem dX12_finds_38 : decode cX12_finds 38 = .ok (.getfield 213, 3) := by decide +kernel
theorem dX12_finds_41 : decode cX12_finds 41 = .ok (.if_icmp .le 10, 3) := by decide +kernel
theorem dX12_finds_44 : decode cX12_finds 44 = .ok (.aload_n 0, 1) := by decide +kernel
theorem dX12_finds_45 : decode cX12_finds 45 = .ok (.invokevirtual 222, 3) := by decide +kernel
theorem dX12_finds_48 : decode cX12_finds 48 = .ok (.goto 7, 3) := by decide +kernel
theorem dX12_finds_51 : decode cX12_finds 51 = .ok (.aload_n 0, 1) := by decide +kernel
theorem dX12_finds_52 : decode cX12_finds 52 = .ok (.getfield 216, 3) := by decide +kernel
theorem dX12_finds_55 : decode cX12_finds 55 = .ok (.putfield 216, 3) := by decide +kernel
theorem dX12_finds_58 : decode cX12_finds 58 = .ok (.aload_n 0, 1) := by decide +kernel
theorem dX12_finds_59 : decode cX12_finds 59 = .ok (.iload_n 3, 1) := by decide +kernel
theorem dX12_finds_60 : decode cX12_finds 60 = .ok (.aload_n 0, 1) := by decide +kernel
theorem dX12_finds_61 : decode cX12_finds 61 = .ok (.getfield 213, 3) := by decide +kernel
theorem dX12_finds_64 : decode cX12_finds 64 = .ok (.if_icmp .le 7, 3) := by decide +kernel
theorem dX12_finds_67 : decode cX12_finds 67 = .ok (.iload_n 3, 1) := by decide +kernel
theorem dX12_finds_68 : decode cX12_finds 68 = .ok (.goto 7, 3) := by decide +kernel
theorem dX12_finds_71 : decode cX12_finds 71 = .ok (.aload_n 0, 1) := by decide +kernel
theorem dX12_finds_72 : decode cX12_finds 72 = .ok (.getfield 213, 3) := by decide +kernel
theorem dX12_finds_75 : decode cX12_finds 75 = .ok (.putfield 213, 3) := by decide +kernel
theorem dX12_finds_78 : decode cX12_finds 78 = .ok (.aload_n 0, 1) := by decide +kernel
theorem dX12_finds_79 : decode cX12_finds 79 = .ok (.invokevirtual 225, 3) := by decide +kernel
theorem dX12_finds_82 : decode cX12_finds 82 = .ok (.istore_n 2, 1) := by decide +kernel
theorem dX12_finds_83 : decode cX12_finds 83 = .ok (.goto (-57), 3) := by decide +kernel
theorem dX12_finds_86 : decode cX12_finds 86 = .ok (.iinc 1 1, 3) := by decide +kernel
theorem dX12_finds_89 : decode cX12_finds 89 = .ok (.goto (-77), 3) := by decide +kernel
theorem dX12_finds_92 : decode cX12_finds 92 = .ok (.return_, 1) := by decide +kernel
theorem dX12_best_0 : decode cX12_best 0 = .ok (.iload_n 1, 1) := by decide +kernel
theorem dX12_best_1 : decode cX12_best 1 = .ok (.i2l, 1) := by decide +kernel
theorem dX12_best_2 : decode cX12_best 2 = .ok (.lconst 0, 1) := by decide +kernel
theorem dX12_best_3 : decode cX12_best 3 = .ok (.lconst 1, 1) := by decide +kernel
theorem dX12_best_4 : decode cX12_best 4 = .ok (.invokestatic 63, 3) := by decide +kernel
theorem dX12_best_7 : decode cX12_best 7 = .ok (.ifCond .ne 5, 3) := by decide +kernel
theorem dX12_best_10 : decode cX12_best 10 = .ok (.iconst (-1), 1) := by decide +kernel
theorem dX12_best_11 : decode cX12_best 11 = .ok (.ireturn, 1) := by decide +kernel
theorem dX12_best_12 : decode cX12_best 12 = .ok (.aload_n 0, 1) := by decide +kernel
theorem dX12_best_13 : decode cX12_best 13 = .ok (.invokevirtual 228, 3) := by decide +kernel
theorem dX12_best_16 : decode cX12_best 16 = .ok (.iload_n 1, 1) := by decide +kernel
theorem dX12_best_17 : decode cX12_best 17 = .ok (.ifCond .ne 10, 3) := by decide +kernel
theorem dX12_best_20 : decode cX12_best 20 = .ok (.aload_n 0, 1) := by decide +kernel
theorem dX12_best_21 : decode cX12_best 21 = .ok (.getfield 213, 3) := by decide +kernel
theorem dX12_best_24 : decode cX12_best 24 = .ok (.goto 7, 3) := by decide +kernel
theorem dX12_best_27 : decode cX12_best 27 = .ok (.aload_n 0, 1) := by decide +kernel
theorem dX12_best_28 : decode cX12_best 28 = .ok (.getfield 216, 3) := by decide +kernel
theorem dX12_best_31 : decode cX12_best 31 = .ok (.ireturn, 1) := by decide +kernel
theorem dX12_fewest_0 : decode cX12_fewest 0 = .ok (.iload_n 1, 1) := by decide +kernel
theorem dX12_fewest_1 : decode cX12_fewest 1 = .ok (.i2l, 1) := by decide +kernel
theorem dX12_fewest_2 : decode cX12_fewest 2 = .ok (.lconst 0, 1) := by decide +kernel
theorem dX12_fewest_3 : decode cX12_fewest 3 = .ok (.ldc2_w 231, 3) := by decide +kernel
theorem dX12_fewest_6 : decode cX12_fewest 6 = .ok (.invokestatic 63, 3) := by decide +kernel
theorem dX12_fewest_9 : decode cX12_fewest 9 = .ok (.ifCond .eq 13, 3) := by decide +kernel
theorem dX12_fewest_12 : decode cX12_fewest 12 = .ok (.iload_n 2, 1) := by decide +kernel
theorem dX12_fewest_13 : decode cX12_fewest 13 = .ok (.i2l, 1) := by decide +kernel
theorem dX12_fewest_14 : decode cX12_fewest 14 = .ok (.lconst 0, 1) := by decide +kernel
theorem dX12_fewest_15 : decode cX12_fewest 15 = .ok (.lconst 1, 1) := by decide +kernel
theorem dX12_fewest_16 : decode cX12_fewest 16 = .ok (.invokestatic 63, 3) := by decide +kernel
theorem dX12_fewest_19 : decode cX12_fewest 19 = .ok (.ifCond .ne 5, 3) := by decide +kernel
theorem dX12_fewest_22 : decode cX12_fewest 22 = .ok (.iconst (-1), 1) := by decide +kernel
theorem dX12_fewest_23 : decode cX12_fewest 23 = .ok (.ireturn, 1) := by decide +kernel
theorem dX12_fewest_24 : decode cX12_fewest 24 = .ok (.iconst 0, 1) := by decide +kernel
theorem dX12_fewest_25 : decode cX12_fewest 25 = .ok (.istore_n 3, 1) := by decide +kernel
theorem dX12_fewest_26 : decode cX12_fewest 26 = .ok (.iload_n 3, 1) := by decide +kernel
theorem dX12_fewest_27 : decode cX12_fewest 27 = .ok (.aload_n 0, 1) := by decide +kernel
theorem dX12_fewest_28 : decode cX12_fewest 28 = .ok (.getfield 137, 3) := by decide +kernel
theorem dX12_fewest_31 : decode cX12_fewest 31 = .ok (.if_icmp .gt 51, 3) := by decide +kernel
theorem dX12_fewest_34 : decode cX12_fewest 34 = .ok (.aload_n 0, 1) := by decide +kernel
theorem dX12_fewest_35 : decode cX12_fewest 35 = .ok (.iload_n 3, 1) := by decide +kernel
theorem dX12_fewest_36 : decode cX12_fewest 36 = .ok (.invokevirtual 219, 3) := by decide +kernel
theorem dX12_fewest_39 : decode cX12_fewest 39 = .ok (.istore 4, 2) := by decide +kernel
theorem dX12_fewest_41 : decode cX12_fewest 41 = .ok (.iload 4, 2) := by decide +kernel
theorem dX12_fewest_43 : decode cX12_fewest 43 = .ok (.ifCond .eq 33, 3) := by decide +kernel
theorem dX12_fewest_46 : decode cX12_fewest 46 = .ok (.aload_n 0, 1) := by decide +kernel
theorem dX12_fewest_47 : decode cX12_fewest 47 = .ok (.invokevirtual 203, 3) := by decide +kernel
theorem dX12_fewest_50 : decode cX12_fewest 50 = .ok (.iload_n 1, 1) := by decide +kernel
theorem dX12_fewest_51 : decode cX12_fewest 51 = .ok (.if_icmp .lt 16, 3) := by decide +kernel
theorem dX12_fewest_54 : decode cX12_fewest 54 = .ok (.iload_n 2, 1) := by decide +kernel
theorem dX12_fewest_55 : decode cX12_fewest 55 = .ok (.ifCond .ne 7, 3) := by decide +kernel
theorem dX12_fewest_58 : decode cX12_fewest 58 = .ok (.iload_n 3, 1) := by decide +kernel
theorem dX12_fewest_59 : decode cX12_fewest 59 = .ok (.goto 7, 3) := by decide +kernel
theorem dX12_fewest_62 : decode cX12_fewest 62 = .ok (.aload_n 0, 1) := by decide +kernel
theorem dX12_fewest_63 : decode cX12_fewest 63 = .ok (.invokevirtual 222, 3) := by decide +kernel
theorem dX12_fewest_66 : decode cX12_fewest 66 = .ok (.ireturn, 1) := by decide +kernel
theorem dX12_fewest_67 : decode cX12_fewest 67 = .ok (.aload_n 0, 1) := by decide +kernel
theorem dX12_fewest_68 : decode cX12_fewest 68 = .ok (.invokevirtual 225, 3) := by decide +kernel
theorem dX12_fewest_71 : decode cX12_fewest 71 = .ok (.istore 4, 2) := by decide +kernel
theorem dX12_fewest_73 : decode cX12_fewest 73 = .ok (.goto (-32), 3) := by decide +kernel
theorem dX12_fewest_76 : decode cX12_fewest 76 = .ok (.iinc 3 1, 3) := by decide +kernel
theorem dX12_fewest_79 : decode cX12_fewest 79 = .ok (.goto (-53), 3) := by decide +kernel
theorem dX12_fewest_82 : decode cX12_fewest 82 = .ok (.bipush (-9), 2) := by decide +kernel
theorem dX12_fewest_84 : decode cX12_fewest 84 = .ok (.ireturn, 1) := by decide +kernel
theorem dX12_mind_0 : decode cX12_mind 0 = .ok (.iload_n 1, 1) := by decide +kernel
theorem dX12_mind_1 : decode cX12_mind 1 = .ok (.i2l, 1) := by decide +kernel
theorem dX12_mind_2 : decode cX12_mind 2 = .ok (.lconst 1, 1) := by decide +kernel
theorem dX12_mind_3 : decode cX12_mind 3 = .ok (.ldc2_w 231, 3) := by decide +kernel
theorem dX12_mind_6 : decode cX12_mind 6 = .ok (.invokestatic 63, 3) := by decide +kernel
theorem dX12_mind_9 : decode cX12_mind 9 = .ok (.ifCond .eq 13, 3) := by decide +kernel
theorem dX12_mind_12 : decode cX12_mind 12 = .ok (.iload_n 2, 1) := by decide +kernel
theorem dX12_mind_13 : decode cX12_mind 13 = .ok (.i2l, 1) := by decide +kernel
theorem dX12_mind_14 : decode cX12_mind 14 = .ok (.lconst 0, 1) := by decide +kernel
theorem dX12_mind_15 : decode cX12_mind 15 = .ok (.lconst 1, 1) := by decide +kernel
theorem dX12_mind_16 : decode cX12_mind 16 = .ok (.invokestatic 63, 3) := by decide +kernel
theorem dX12_mind_19 : decode cX12_mind 19 = .ok (.ifCond .ne 5, 3) := by decide +kernel
theorem dX12_mind_22 : decode cX12_mind 22 = .ok (.iconst (-1), 1) := by decide +kernel
theorem dX12_mind_23 : decode cX12_mind 23 = .ok (.ireturn, 1) := by decide +kernel
theorem dX12_mind_24 : decode cX12_mind 24 = .ok (.bipush (-9), 2) := by decide +kernel
theorem dX12_mind_26 : decode cX12_mind 26 = .ok (.istore_n 3, 1) := by decide +kernel
theorem dX12_mind_27 : decode cX12_mind 27 = .ok (.bipush (-9), 2) := by decide +kernel
theorem dX12_mind_29 : decode cX12_mind 29 = .ok (.istore 4, 2) := by decide +kernel
theorem dX12_mind_31 : decode cX12_mind 31 = .ok (.iconst 0, 1) := by decide +kernel
theorem dX12_mind_32 : decode cX12_mind 32 = .ok (.istore 5, 2) := by decide +kernel
theorem dX12_mind_34 : decode cX12_mind 34 = .ok (.iload 5, 2) := by decide +kernel
theorem dX12_mind_36 : decode cX12_mind 36 = .ok (.aload_n 0, 1) := by decide +kernel
theorem dX12_mind_37 : decode cX12_mind 37 = .ok (.getfield 137, 3) := by decide +kernel
theorem dX12_mind_40 : decode cX12_mind 40 = .ok (.if_icmp .gt 121, 3) := by decide +kernel
theorem dX12_mind_43 : decode cX12_mind 43 = .ok (.aload_n 0, 1) := by decide +kernel
theorem dX12_mind_44 : decode cX12_mind 44 = .ok (.iload 5, 2) := by decide +kernel
theorem dX12_mind_46 : decode cX12_mind 46 = .ok (.invokevirtual 219, 3) := by decide +kernel
theorem dX12_mind_49 : decode cX12_mind 49 = .ok (.istore 6, 2) := by decide +kernel
theorem dX12_mind_51 : decode cX12_mind 51 = .ok (.iload 6, 2) := by decide +kernel
theorem dX12_mind_53 : decode cX12_mind 53 = .ok (.ifCond .eq 102, 3) := by decide +kernel
theorem dX12_mind_56 : decode cX12_mind 56 = .ok (.aload_n 0, 1) := by decide +kernel
theorem dX12_mind_57 : decode cX12_mind 57 = .ok (.invokevirtual 203, 3) := by decide +kernel
theorem dX12_mind_60 : decode cX12_mind 60 = .ok (.iload_n 1, 1) := by decide +kernel
theorem dX12_mind_61 : decode cX12_mind 61 = .ok (.if_icmp .lt 7, 3) := by decide +kernel
theorem dX12_mind_64 : decode cX12_mind 64 = .ok (.iconst 1, 1) := by decide +kernel
theorem dX12_mind_65 : decode cX12_mind 65 = .ok (.goto 4, 3) := by decide +kernel
theorem dX12_mind_68 : decode cX12_mind 68 = .ok (.iconst 0, 1) := by decide +kernel
theorem dX12_mind_69 : decode cX12_mind 69 = .ok (.istore 7, 2) := by decide +kernel
theorem dX12_mind_71 : decode cX12_mind 71 = .ok (.iconst 0, 1) := by decide +kernel
theorem dX12_mind_72 : decode cX12_mind 72 = .ok (.istore 8, 2) := by decide +kernel
theorem dX12_mind_74 : decode cX12_mind 74 = .ok (.iconst 0, 1) := by decide +kernel
theorem dX12_mind_75 : decode cX12_mind 75 = .ok (.istore 9, 2) := by decide +kernel
theorem dX12_mind_77 : decode cX12_mind 77 = .ok (.iload 9, 2) := by decide +kernel
theorem dX12_mind_79 : decode cX12_mind 79 = .ok (.iload_n 1, 1) := by decide +kernel
theorem dX12_mind_80 : decode cX12_mind 80 = .ok (.if_icmp .ge 40, 3) := by decide +kernel
theorem dX12_mind_83 : decode cX12_mind 83 = .ok (.iload 7, 2) := by decide +kernel
theorem dX12_mind_85 : decode cX12_mind 85 = .ok (.ifCond .eq 35, 3) := by decide +kernel
theorem dX12_mind_88 : decode cX12_mind 88 = .ok (.aload_n 0, 1) := by decide +kernel
theorem dX12_mind_89 : decode cX12_mind 89 = .ok (.getfield 43, 3) := by decide +kernel
theorem dX12_mind_92 : decode cX12_mind 92 = .ok (.iload 9, 2) := by decide +kernel
theorem dX12_mind_94 : decode cX12_mind 94 = .ok (.iaload, 1) := by decide +kernel
theorem dX12_mind_95 : decode cX12_mind 95 = .ok (.iload 8, 2) := by decide +kernel
theorem dX12_mind_97 : decode cX12_mind 97 = .ok (.if_icmp .le 13, 3) := by decide +kernel
theorem dX12_mind_100 : decode cX12_mind 100 = .ok (.aload_n 0, 1) := by decide +kernel
theorem dX12_mind_101 : decode cX12_mind 101 = .ok (.getfield 43, 3) := by decide +kernel
theorem dX12_mind_104 : decode cX12_mind 104 = .ok (.iload 9, 2) := by decide +kernel
theorem dX12_mind_106 : decode cX12_mind 106 = .ok (.iaload, 1) := by decide +kernel
theorem dX12_mind_107 : decode cX12_mind 107 = .ok (.goto 5, 3) := by decide +kernel
theorem dX12_mind_110 : decode cX12_mind 110 = .ok (.iload 8, 2) := by decide +kernel
theorem dX12_mind_112 : decode cX12_mind 112 = .ok (.istore 8, 2) := by decide +kernel
theorem dX12_mind_114 : decode cX12_mind 114 = .ok (.iinc 9 1, 3) := by decide +kernel
theorem dX12_mind_117 : decode cX12_mind 117 = .ok (.goto (-40), 3) := by decide +kernel
theorem dX12_mind_120 : decode cX12_mind 120 = .ok (.iload 7, 2) := by decide +kernel
theorem dX12_mind_122 : decode cX12_mind 122 = .ok (.ifCond .eq 24, 3) := by decide +kernel
theorem dX12_mind_125 : decode cX12_mind 125 = .ok (.iload_n 3, 1) := by decide +kernel
theorem dX12_mind_126 : decode cX12_mind 126 = .ok (.bipush (-9), 2) := by decide +kernel
theorem dX12_mind_128 : decode cX12_mind 128 = .ok (.if_icmp .eq 9, 3) := by decide +kernel
theorem dX12_mind_131 : decode cX12_mind 131 = .ok (.iload 8, 2) := by decide +kernel
theorem dX12_mind_133 : decode cX12_mind 133 = .ok (.iload_n 3, 1) := by decide +kernel
theorem dX12_mind_134 : decode cX12_mind 134 = .ok (.if_icmp .ge 12, 3) := by decide +kernel
theorem dX12_mind_137 : decode cX12_mind 137 = .ok (.iload 8, 2) := by decide +kernel
theorem dX12_mind_139 : decode cX12_mind 139 = .ok (.istore_n 3, 1) := by decide +kernel
theorem dX12_mind_140 : decode cX12_mind 140 = .ok (.aload_n 0, 1) := by decide +kernel
theorem dX12_mind_141 : decode cX12_mind 141 = .ok (.invokevirtual 222, 3) := by decide +kernel
theorem dX12_mind_144 : decode cX12_mind 144 = .ok (.istore 4, 2) := by decide +kernel
theorem dX12_mind_146 : decode cX12_mind 146 = .ok (.aload_n 0, 1) := by decide +kernel
theorem dX12_mind_147 : decode cX12_mind 147 = .ok (.invokevirtual 225, 3) := by decide +kernel
theorem dX12_mind_150 : decode cX12_mind 150 = .ok (.istore 6, 2) := by decide +kernel
theorem dX12_mind_152 : decode cX12_mind 152 = .ok (.goto (-101), 3) := by decide +kernel
theorem dX12_mind_155 : decode cX12_mind 155 = .ok (.iinc 5 1, 3) := by decide +kernel
theorem dX12_mind_158 : decode cX12_mind 158 = .ok (.goto (-124), 3) := by decide +kernel
theorem dX12_mind_161 : decode cX12_mind 161 = .ok (.iload_n 2, 1) := by decide +kernel
theorem dX12_mind_162 : decode cX12_mind 162 = .ok (.ifCond .ne 7, 3) := by decide +kernel
theorem dX12_mind_165 : decode cX12_mind 165 = .ok (.iload_n 3, 1) := by decide +kernel
theorem dX12_mind_166 : decode cX12_mind 166 = .ok (.goto 5, 3) := by decide +kernel
theorem dX12_mind_169 : decode cX12_mind 169 = .ok (.iload 4, 2) := by decide +kernel
theorem dX12_mind_171 : decode cX12_mind 171 = .ok (.ireturn, 1) := by decide +kernel
theorem dX12_bars_0 : decode cX12_bars 0 = .ok (.iload_n 1, 1) := by decide +kernel
theorem dX12_bars_1 : decode cX12_bars 1 = .ok (.i2l, 1) := by decide +kernel
theorem dX12_bars_2 : decode cX12_bars 2 = .ok (.lconst 1, 1) := by decide +kernel
theorem dX12_bars_3 : decode cX12_bars 3 = .ok (.ldc2_w 231, 3) := by decide +kernel
theorem dX12_bars_6 : decode cX12_bars 6 = .ok (.invokestatic 63, 3) := by decide +kernel
theorem dX12_bars_9 : decode cX12_bars 9 = .ok (.ifCond .ne 5, 3) := by decide +kernel
theorem dX12_bars_12 : decode cX12_bars 12 = .ok (.iconst (-1), 1) := by decide +kernel
theorem dX12_bars_13 : decode cX12_bars 13 = .ok (.ireturn, 1) := by decide +kernel
theorem dX12_bars_14 : decode cX12_bars 14 = .ok (.iconst (-1), 1) := by decide +kernel
theorem dX12_bars_15 : decode cX12_bars 15 = .ok (.istore_n 2, 1) := by decide +kernel
theorem dX12_bars_16 : decode cX12_bars 16 = .ok (.iconst 0, 1) := by decide +kernel
theorem dX12_bars_17 : decode cX12_bars 17 = .ok (.istore_n 3, 1) := by decide +kernel
theorem dX12_bars_18 : decode cX12_bars 18 = .ok (.iconst 0, 1) := by decide +kernel
theorem dX12_bars_19 : decode cX12_bars 19 = .ok (.istore 4, 2) := by decide +kernel
theorem dX12_bars_21 : decode cX12_bars 21 = .ok (.iload 4, 2) := by decide +kernel
theorem dX12_bars_23 : decode cX12_bars 23 = .ok (.aload_n 0, 1) := by decide +kernel
theorem dX12_bars_24 : decode cX12_bars 24 = .ok (.getfield 137, 3) := by decide +kernel
theorem dX12_bars_27 : decode cX12_bars 27 = .ok (.if_icmp .gt 81, 3) := by decide +kernel
theorem dX12_bars_30 : decode cX12_bars 30 = .ok (.aload_n 0, 1) := by decide +kernel
theorem dX12_bars_31 : decode cX12_bars 31 = .ok (.iload 4, 2) := by decide +kernel
theorem dX12_bars_33 : decode cX12_bars 33 = .ok (.invokevirtual 219, 3) := by decide +kernel
theorem dX12_bars_36 : decode cX12_bars 36 = .ok (.istore 5, 2) := by decide +kernel
theorem dX12_bars_38 : decode cX12_bars 38 = .ok (.iload 5, 2) := by decide +kernel
theorem dX12_bars_40 : decode cX12_bars 40 = .ok (.ifCond .eq 62, 3) := by decide +kernel
theorem dX12_bars_43 : decode cX12_bars 43 = .ok (.aload_n 0, 1) := by decide +kernel
theorem dX12_bars_44 : decode cX12_bars 44 = .ok (.invokevirtual 203, 3) := by decide +kernel
theorem dX12_bars_47 : decode cX12_bars 47 = .ok (.iload_n 1, 1) := by decide +kernel
theorem dX12_bars_48 : decode cX12_bars 48 = .ok (.if_icmp .lt 45, 3) := by decide +kernel
theorem dX12_bars_51 : decode cX12_bars 51 = .ok (.iconst 1, 1) := by decide +kernel
theorem dX12_bars_52 : decode cX12_bars 52 = .ok (.istore_n 3, 1) := by decide +kernel
theorem dX12_bars_53 : decode cX12_bars 53 = .ok (.iconst 0, 1) := by decide +kernel
theorem dX12_bars_54 : decode cX12_bars 54 = .ok (.istore 6, 2) := by decide +kernel
theorem dX12_bars_56 : decode cX12_bars 56 = .ok (.iconst 0, 1) := by decide +kernel
theorem dX12_bars_57 : decode cX12_bars 57 = .ok (.istore 7, 2) := by decide +kernel
theorem dX12_bars_59 : decode cX12_bars 59 = .ok (.iload 7, 2) := by decide +kernel
theorem dX12_bars_61 : decode cX12_bars 61 = .ok (.aload_n 0, 1) := by decide +kernel
theorem dX12_bars_62 : decode cX12_bars 62 = .ok (.getfield 199, 3) := by decide +kernel
theorem dX12_bars_65 : decode cX12_bars 65 = .ok (.if_icmp .ge 23, 3) := by decide +kernel
theorem dX12_bars_68 : decode cX12_bars 68 = .ok (.iload 6, 2) := by decide +kernel
theorem dX12_bars_70 : decode cX12_bars 70 = .ok (.iconst 1, 1) := by decide +kernel
theorem dX12_bars_71 : decode cX12_bars 71 = .ok (.aload_n 0, 1) := by decide +kernel
theorem dX12_bars_72 : decode cX12_bars 72 = .ok (.getfield 40, 3) := by decide +kernel
theorem dX12_bars_75 : decode cX12_bars 75 = .ok (.iload 7, 2) := by decide +kernel
theorem dX12_bars_77 : decode cX12_bars 77 = .ok (.iaload, 1) := by decide +kernel
theorem dX12_bars_78 : decode cX12_bars 78 = .ok (.ishl, 1) := by decide +kernel
theorem dX12_bars_79 : decode cX12_bars 79 = .ok (.ior, 1) := by decide +kernel
theorem dX12_bars_80 : decode cX12_bars 80 = .ok (.istore 6, 2) := by decide +kernel
theorem dX12_bars_82 : decode cX12_bars 82 = .ok (.iinc 7 1, 3) := by decide +kernel
theorem dX12_bars_85 : decode cX12_bars 85 = .ok (.goto (-26), 3) := by decide +kernel
theorem dX12_bars_88 : decode cX12_bars 88 = .ok (.iload_n 2, 1) := by decide +kernel
theorem dX12_bars_89 : decode cX12_bars 89 = .ok (.iload 6, 2) := by decide +kernel
theorem dX12_bars_91 : decode cX12_bars 91 = .ok (.iand, 1) := by decide +kernel
theorem dX12_bars_92 : decode cX12_bars 92 = .ok (.istore_n 2, 1) := by decide +kernel
theorem dX12_bars_93 : decode cX12_bars 93 = .ok (.aload_n 0, 1) := by decide +kernel
theorem dX12_bars_94 : decode cX12_bars 94 = .ok (.invokevirtual 225, 3) := by decide +kernel
theorem dX12_bars_97 : decode cX12_bars 97 = .ok (.istore 5, 2) := by decide +kernel
theorem dX12_bars_99 : decode cX12_bars 99 = .ok (.goto (-61), 3) := by decide +kernel
theorem dX12_bars_102 : decode cX12_bars 102 = .ok (.iinc 4 1, 3) := by decide +kernel
theorem dX12_bars_105 : decode cX12_bars 105 = .ok (.goto (-84), 3) := by decide +kernel
theorem dX12_bars_108 : decode cX12_bars 108 = .ok (.iconst 0, 1) := by decide +kernel
theorem dX12_bars_109 : decode cX12_bars 109 = .ok (.istore 4, 2) := by decide +kernel
theorem dX12_bars_111 : decode cX12_bars 111 = .ok (.iload 4, 2) := by decide +kernel
theorem dX12_bars_113 : decode cX12_bars 113 = .ok (.aload_n 0, 1) := by decide +kernel
theorem dX12_bars_114 : decode cX12_bars 114 = .ok (.getfield 137, 3) := by decide +kernel
theorem dX12_bars_117 : decode cX12_bars 117 = .ok (.if_icmp .ge 26, 3) := by decide +kernel
theorem dX12_bars_120 : decode cX12_bars 120 = .ok (.iload_n 3, 1) := by decide +kernel
theorem dX12_bars_121 : decode cX12_bars 121 = .ok (.ifCond .eq 22, 3) := by decide +kernel
theorem dX12_bars_124 : decode cX12_bars 124 = .ok (.iload_n 2, 1) := by decide +kernel
theorem dX12_bars_125 : decode cX12_bars 125 = .ok (.iload 4, 2) := by decide +kernel
theorem dX12_bars_127 : decode cX12_bars 127 = .ok (.ishr, 1) := by decide +kernel
theorem dX12_bars_128 : decode cX12_bars 128 = .ok (.iconst 1, 1) := by decide +kernel
theorem dX12_bars_129 : decode cX12_bars 129 = .ok (.iand, 1) := by decide +kernel
theorem dX12_bars_130 : decode cX12_bars 130 = .ok (.iconst 1, 1) := by decide +kernel
theorem dX12_bars_131 : decode cX12_bars 131 = .ok (.if_icmp .ne 6, 3) := by decide +kernel
theorem dX12_bars_134 : decode cX12_bars 134 = .ok (.iload 4, 2) := by decide +kernel
theorem dX12_bars_136 : decode cX12_bars 136 = .ok (.ireturn, 1) := by decide +kernel
theorem dX12_bars_137 : decode cX12_bars 137 = .ok (.iinc 4 1, 3) := by decide +kernel
theorem dX12_bars_140 : decode cX12_bars 140 = .ok (.goto (-29), 3) := by decide +kernel
theorem dX12_bars_143 : decode cX12_bars 143 = .ok (.bipush (-9), 2) := by decide +kernel
theorem dX12_bars_145 : decode cX12_bars 145 = .ok (.ireturn, 1) := by decide +kernel
theorem dX12_longer_0 : decode cX12_longer 0 = .ok (.aload_n 0, 1) := by decide +kernel
theorem dX12_longer_1 : decode cX12_longer 1 = .ok (.invokevirtual 228, 3) := by decide +kernel
theorem dX12_longer_4 : decode cX12_longer 4 = .ok (.aload_n 0, 1) := by decide +kernel
theorem dX12_longer_5 : decode cX12_longer 5 = .ok (.getfield 213, 3) := by decide +kernel
theorem dX12_longer_8 : decode cX12_longer 8 = .ok (.istore_n 1, 1) := by decide +kernel
theorem dX12_longer_9 : decode cX12_longer 9 = .ok (.aload_n 0, 1) := by decide +kernel
theorem dX12_longer_10 : decode cX12_longer 10 = .ok (.iconst 1, 1) := by decide +kernel
theorem dX12_longer_11 : decode cX12_longer 11 = .ok (.putfield 161, 3) := by decide +kernel
theorem dX12_longer_14 : decode cX12_longer 14 = .ok (.aload_n 0, 1) := by decide +kernel
theorem dX12_longer_15 : decode cX12_longer 15 = .ok (.invokevirtual 228, 3) := by decide +kernel
theorem dX12_longer_18 : decode cX12_longer 18 = .ok (.aload_n 0, 1) := by decide +kernel
theorem dX12_longer_19 : decode cX12_longer 19 = .ok (.iconst 0, 1) := by decide +kernel
theorem dX12_longer_20 : decode cX12_longer 20 = .ok (.putfield 161, 3) := by decide +kernel
theorem dX12_longer_23 : decode cX12_longer 23 = .ok (.aload_n 0, 1) := by decide +kernel
theorem dX12_longer_24 : decode cX12_longer 24 = .ok (.getfield 213, 3) := by decide +kernel
theorem dX12_longer_27 : decode cX12_longer 27 = .ok (.iload_n 1, 1) := by decide +kernel
theorem dX12_longer_28 : decode cX12_longer 28 = .ok (.isub, 1) := by decide +kernel
theorem dX12_longer_29 : decode cX12_longer 29 = .ok (.ireturn, 1) := by decide +kernel
theorem dX12_heard_0 : decode cX12_heard 0 = .ok (.iload_n 1, 1) := by decide +kernel
theorem dX12_heard_1 : decode cX12_heard 1 = .ok (.i2l, 1) := by decide +kernel
theorem dX12_heard_2 : decode cX12_heard 2 = .ok (.lconst 1, 1) := by decide +kernel
theorem dX12_heard_3 : decode cX12_heard 3 = .ok (.ldc2_w 231, 3) := by decide +kernel
theorem dX12_heard_6 : decode cX12_heard 6 = .ok (.invokestatic 63, 3) := by decide +kernel
theorem dX12_heard_9 : decode cX12_heard 9 = .ok (.ifCond .eq 15, 3) := by decide +kernel
theorem dX12_heard_12 : decode cX12_heard 12 = .ok (.iload_n 2, 1) := by decide +kernel
theorem dX12_heard_13 : decode cX12_heard 13 = .ok (.i2l, 1) := by decide +kernel
theorem dX12_heard_14 : decode cX12_heard 14 = .ok (.lconst 0, 1) := by decide +kernel
theorem dX12_heard_15 : decode cX12_heard 15 = .ok (.ldc2_w 233, 3) := by decide +kernel
theorem dX12_heard_18 : decode cX12_heard 18 = .ok (.invokestatic 63, 3) := by decide +kernel
theorem dX12_heard_21 : decode cX12_heard 21 = .ok (.ifCond .ne 5, 3) := by decide +kernel
theorem dX12_heard_24 : decode cX12_heard 24 = .ok (.iconst (-1), 1) := by decide +kernel
theorem dX12_heard_25 : decode cX12_heard 25 = .ok (.ireturn, 1) := by decide +kernel
theorem dX12_heard_26 : decode cX12_heard 26 = .ok (.aload_n 0, 1) := by decide +kernel
theorem dX12_heard_27 : decode cX12_heard 27 = .ok (.getfield 158, 3) := by decide +kernel
theorem dX12_heard_30 : decode cX12_heard 30 = .ok (.bipush 6, 2) := by decide +kernel
theorem dX12_heard_32 : decode cX12_heard 32 = .ok (.if_icmp .ne 6, 3) := by decide +kernel
theorem dX12_heard_35 : decode cX12_heard 35 = .ok (.bipush (-3), 2) := by decide +kernel
theorem dX12_heard_37 : decode cX12_heard 37 = .ok (.ireturn, 1) := by decide +kernel
theorem dX12_heard_38 : decode cX12_heard 38 = .ok (.aload_n 0, 1) := by decide +kernel
theorem dX12_heard_39 : decode cX12_heard 39 = .ok (.getfield 49, 3) := by decide +kernel
theorem dX12_heard_42 : decode cX12_heard 42 = .ok (.aload_n 0, 1) := by decide +kernel
theorem dX12_heard_43 : decode cX12_heard 43 = .ok (.getfield 158, 3) := by decide +kernel
theorem dX12_heard_46 : decode cX12_heard 46 = .ok (.iload_n 1, 1) := by decide +kernel
theorem dX12_heard_47 : decode cX12_heard 47 = .ok (.iastore, 1) := by decide +kernel
theorem dX12_heard_48 : decode cX12_heard 48 = .ok (.aload_n 0, 1) := by decide +kernel
theorem dX12_heard_49 : decode cX12_heard 49 = .ok (.getfield 52, 3) := by decide +kernel
theorem dX12_heard_52 : decode cX12_heard 52 = .ok (.aload_n 0, 1) := by decide +kernel
theorem dX12_heard_53 : decode cX12_heard 53 = .ok (.getfield 158, 3) := by decide +kernel
theorem dX12_heard_56 : decode cX12_heard 56 = .ok (.iload_n 2, 1) := by decide +kernel
theorem dX12_heard_57 : decode cX12_heard 57 = .ok (.iastore, 1) := by decide +kernel
theorem dX12_heard_58 : decode cX12_heard 58 = .ok (.aload_n 0, 1) := by decide +kernel
theorem dX12_heard_59 : decode cX12_heard 59 = .ok (.dup, 1) := by decide +kernel
theorem dX12_heard_60 : decode cX12_heard 60 = .ok (.getfield 158, 3) := by decide +kernel
theorem dX12_heard_63 : decode cX12_heard 63 = .ok (.iconst 1, 1) := by decide +kernel
theorem dX12_heard_64 : decode cX12_heard 64 = .ok (.iadd, 1) := by decide +kernel
theorem dX12_heard_65 : decode cX12_heard 65 = .ok (.putfield 158, 3) := by decide +kernel
theorem dX12_heard_68 : decode cX12_heard 68 = .ok (.aload_n 0, 1) := by decide +kernel
theorem dX12_heard_69 : decode cX12_heard 69 = .ok (.getfield 158, 3) := by decide +kernel
theorem dX12_heard_72 : decode cX12_heard 72 = .ok (.ireturn, 1) := by decide +kernel
theorem dX12_forget_0 : decode cX12_forget 0 = .ok (.aload_n 0, 1) := by decide +kernel
theorem dX12_forget_1 : decode cX12_forget 1 = .ok (.getfield 158, 3) := by decide +kernel
theorem dX12_forget_4 : decode cX12_forget 4 = .ok (.istore_n 1, 1) := by decide +kernel
theorem dX12_forget_5 : decode cX12_forget 5 = .ok (.aload_n 0, 1) := by decide +kernel
theorem dX12_forget_6 : decode cX12_forget 6 = .ok (.iconst 0, 1) := by decide +kernel
theorem dX12_forget_7 : decode cX12_forget 7 = .ok (.putfield 158, 3) := by decide +kernel
theorem dX12_forget_10 : decode cX12_forget 10 = .ok (.iload_n 1, 1) := by decide +kernel
theorem dX12_forget_11 : decode cX12_forget 11 = .ok (.ireturn, 1) := by decide +kernel
theorem dX12_isHeard_0 : decode cX12_isHeard 0 = .ok (.iconst 1, 1) := by decide +kernel
theorem dX12_isHeard_1 : decode cX12_isHeard 1 = .ok (.istore_n 2, 1) := by decide +kernel
theorem dX12_isHeard_2 : decode cX12_isHeard 2 = .ok (.iconst 0, 1) := by decide +kernel
theorem dX12_isHeard_3 : decode cX12_isHeard 3 = .ok (.istore_n 3, 1) := by decide +kernel
theorem dX12_isHeard_4 : decode cX12_isHeard 4 = .ok (.iload_n 3, 1) := by decide +kernel
theorem dX12_isHeard_5 : decode cX12_isHeard 5 = .ok (.aload_n 0, 1) := by decide +kernel
theorem dX12_isHeard_6 : decode cX12_isHeard 6 = .ok (.getfield 158, 3) := by decide +kernel
theorem dX12_isHeard_9 : decode cX12_isHeard 9 = .ok (.if_icmp .ge 51, 3) := by decide +kernel
theorem dX12_isHeard_12 : decode cX12_isHeard 12 = .ok (.iload_n 2, 1) := by decide +kernel
theorem dX12_isHeard_13 : decode cX12_isHeard 13 = .ok (.ifCond .eq 39, 3) := by decide +kernel
theorem dX12_isHeard_16 : decode cX12_isHeard 16 = .ok (.aload_n 0, 1) := by decide +kernel
theorem dX12_isHeard_17 : decode cX12_isHeard 17 = .ok (.getfield 49, 3) := by decide +kernel
theorem dX12_isHeard_20 : decode cX12_isHeard 20 = .ok (.iload_n 3, 1) := by decide +kernel
theorem dX12_isHeard_21 : decode cX12_isHeard 21 = .ok (.iaload, 1) := by decide +kernel
theorem dX12_isHeard_22 : decode cX12_isHeard 22 = .ok (.iload_n 1, 1) := by decide +kernel
theorem dX12_isHeard_23 : decode cX12_isHeard 23 = .ok (.if_icmp .gt 29, 3) := by decide +kernel
theorem dX12_isHeard_26 : decode cX12_isHeard 26 = .ok (.aload_n 0, 1) := by decide +kernel
theorem dX12_isHeard_27 : decode cX12_isHeard 27 = .ok (.getfield 43, 3) := by decide +kernel
theorem dX12_isHeard_30 : decode cX12_isHeard 30 = .ok (.aload_n 0, 1) := by decide +kernel
theorem dX12_isHeard_31 : decode cX12_isHeard 31 = .ok (.getfield 49, 3) := by decide +kernel
theorem dX12_isHeard_34 : decode cX12_isHeard 34 = .ok (.iload_n 3, 1) := by decide +kernel
theorem dX12_isHeard_35 : decode cX12_isHeard 35 = .ok (.iaload, 1) := by decide +kernel
theorem dX12_isHeard_36 : decode cX12_isHeard 36 = .ok (.iconst 1, 1) := by decide +kernel
theorem dX12_isHeard_37 : decode cX12_isHeard 37 = .ok (.isub, 1) := by decide +kernel
theorem dX12_isHeard_38 : decode cX12_isHeard 38 = .ok (.iaload, 1) := by decide +kernel
theorem dX12_isHeard_39 : decode cX12_isHeard 39 = .ok (.aload_n 0, 1) := by decide +kernel
theorem dX12_isHeard_40 : decode cX12_isHeard 40 = .ok (.getfield 52, 3) := by decide +kernel
theorem dX12_isHeard_43 : decode cX12_isHeard 43 = .ok (.iload_n 3, 1) := by decide +kernel
theorem dX12_isHeard_44 : decode cX12_isHeard 44 = .ok (.iaload, 1) := by decide +kernel
theorem dX12_isHeard_45 : decode cX12_isHeard 45 = .ok (.if_icmp .ne 7, 3) := by decide +kernel
theorem dX12_isHeard_48 : decode cX12_isHeard 48 = .ok (.iconst 1, 1) := by decide +kernel
theorem dX12_isHeard_49 : decode cX12_isHeard 49 = .ok (.goto 4, 3) := by decide +kernel
theorem dX12_isHeard_52 : decode cX12_isHeard 52 = .ok (.iconst 0, 1) := by decide +kernel
theorem dX12_isHeard_53 : decode cX12_isHeard 53 = .ok (.istore_n 2, 1) := by decide +kernel
theorem dX12_isHeard_54 : decode cX12_isHeard 54 = .ok (.iinc 3 1, 3) := by decide +kernel
theorem dX12_isHeard_57 : decode cX12_isHeard 57 = .ok (.goto (-53), 3) := by decide +kernel
theorem dX12_isHeard_60 : decode cX12_isHeard 60 = .ok (.iload_n 2, 1) := by decide +kernel
theorem dX12_isHeard_61 : decode cX12_isHeard 61 = .ok (.ireturn, 1) := by decide +kernel
theorem dX12_orders_0 : decode cX12_orders 0 = .ok (.iload_n 1, 1) := by decide +kernel
theorem dX12_orders_1 : decode cX12_orders 1 = .ok (.i2l, 1) := by decide +kernel
theorem dX12_orders_2 : decode cX12_orders 2 = .ok (.lconst 0, 1) := by decide +kernel
theorem dX12_orders_3 : decode cX12_orders 3 = .ok (.lconst 1, 1) := by decide +kernel
theorem dX12_orders_4 : decode cX12_orders 4 = .ok (.invokestatic 63, 3) := by decide +kernel
theorem dX12_orders_7 : decode cX12_orders 7 = .ok (.ifCond .ne 5, 3) := by decide +kernel
theorem dX12_orders_10 : decode cX12_orders 10 = .ok (.iconst (-1), 1) := by decide +kernel
theorem dX12_orders_11 : decode cX12_orders 11 = .ok (.ireturn, 1) := by decide +kernel
theorem dX12_orders_12 : decode cX12_orders 12 = .ok (.iconst 0, 1) := by decide +kernel
theorem dX12_orders_13 : decode cX12_orders 13 = .ok (.istore_n 2, 1) := by decide +kernel
theorem dX12_orders_14 : decode cX12_orders 14 = .ok (.iconst 0, 1) := by decide +kernel
theorem dX12_orders_15 : decode cX12_orders 15 = .ok (.istore_n 3, 1) := by decide +kernel
theorem dX12_orders_16 : decode cX12_orders 16 = .ok (.aload_n 0, 1) := by decide +kernel
theorem dX12_orders_17 : decode cX12_orders 17 = .ok (.aload_n 0, 1) := by decide +kernel
theorem dX12_orders_18 : decode cX12_orders 18 = .ok (.getfield 137, 3) := by decide +kernel
theorem dX12_orders_21 : decode cX12_orders 21 = .ok (.invokevirtual 219, 3) := by decide +kernel
theorem dX12_orders_24 : decode cX12_orders 24 = .ok (.istore 4, 2) := by decide +kernel
theorem dX12_orders_26 : decode cX12_orders 26 = .ok (.iload 4, 2) := by decide +kernel
theorem dX12_orders_28 : decode cX12_orders 28 = .ok (.ifCond .eq 53, 3) := by decide +kernel
theorem dX12_orders_31 : decode cX12_orders 31 = .ok (.aload_n 0, 1) := by decide +kernel
theorem dX12_orders_32 : decode cX12_orders 32 = .ok (.aload_n 0, 1) := by decide +kernel
theorem dX12_orders_33 : decode cX12_orders 33 = .ok (.invokevirtual 203, 3) := by decide +kernel
theorem dX12_orders_36 : decode cX12_orders 36 = .ok (.invokevirtual 235, 3) := by decide +kernel
theorem dX12_orders_39 : decode cX12_orders 39 = .ok (.istore 5, 2) := by decide +kernel
theorem dX12_orders_41 : decode cX12_orders 41 = .ok (.iload 5, 2) := by decide +kernel
theorem dX12_orders_43 : decode cX12_orders 43 = .ok (.ifCond .eq 14, 3) := by decide +kernel
theorem dX12_orders_46 : decode cX12_orders 46 = .ok (.iload_n 2, 1) := by decide +kernel
theorem dX12_orders_47 : decode cX12_orders 47 = .ok (.ifCond .ne 10, 3) := by decide +kernel
theorem dX12_orders_50 : decode cX12_orders 50 = .ok (.aload_n 0, 1) := by decide +kernel
theorem dX12_orders_51 : decode cX12_orders 51 = .ok (.invokevirtual 222, 3) := by decide +kernel
theorem dX12_orders_54 : decode cX12_orders 54 = .ok (.goto 4, 3) := by decide +kernel
theorem dX12_orders_57 : decode cX12_orders 57 = .ok (.iload_n 3, 1) := by decide +kernel
theorem dX12_orders_58 : decode cX12_orders 58 = .ok (.istore_n 3, 1) := by decide +kernel
theorem dX12_orders_59 : decode cX12_orders 59 = .ok (.iload_n 2, 1) := by decide +kernel
theorem dX12_orders_60 : decode cX12_orders 60 = .ok (.iload 5, 2) := by decide +kernel
theorem dX12_orders_62 : decode cX12_orders 62 = .ok (.ifCond .eq 7, 3) := by decide +kernel
theorem dX12_orders_65 : decode cX12_orders 65 = .ok (.iconst 1, 1) := by decide +kernel
theorem dX12_orders_66 : decode cX12_orders 66 = .ok (.goto 4, 3) := by decide +kernel
theorem dX12_orders_69 : decode cX12_orders 69 = .ok (.iconst 0, 1) := by decide +kernel
theorem dX12_orders_70 : decode cX12_orders 70 = .ok (.iadd, 1) := by decide +kernel
theorem dX12_orders_71 : decode cX12_orders 71 = .ok (.istore_n 2, 1) := by decide +kernel
theorem dX12_orders_72 : decode cX12_orders 72 = .ok (.aload_n 0, 1) := by decide +kernel
theorem dX12_orders_73 : decode cX12_orders 73 = .ok (.invokevirtual 225, 3) := by decide +kernel
theorem dX12_orders_76 : decode cX12_orders 76 = .ok (.istore 4, 2) := by decide +kernel
theorem dX12_orders_78 : decode cX12_orders 78 = .ok (.goto (-52), 3) := by decide +kernel
theorem dX12_orders_81 : decode cX12_orders 81 = .ok (.iload_n 1, 1) := by decide +kernel
theorem dX12_orders_82 : decode cX12_orders 82 = .ok (.ifCond .ne 7, 3) := by decide +kernel
theorem dX12_orders_85 : decode cX12_orders 85 = .ok (.iload_n 2, 1) := by decide +kernel
theorem dX12_orders_86 : decode cX12_orders 86 = .ok (.goto 4, 3) := by decide +kernel
theorem dX12_orders_89 : decode cX12_orders 89 = .ok (.iload_n 3, 1) := by decide +kernel
theorem dX12_orders_90 : decode cX12_orders 90 = .ok (.ireturn, 1) := by decide +kernel
theorem dX12_surely_0 : decode cX12_surely 0 = .ok (.iload_n 1, 1) := by decide +kernel
theorem dX12_surely_1 : decode cX12_surely 1 = .ok (.i2l, 1) := by decide +kernel
theorem dX12_surely_2 : decode cX12_surely 2 = .ok (.lconst 1, 1) := by decide +kernel
theorem dX12_surely_3 : decode cX12_surely 3 = .ok (.ldc2_w 231, 3) := by decide +kernel
theorem dX12_surely_6 : decode cX12_surely 6 = .ok (.invokestatic 63, 3) := by decide +kernel
theorem dX12_surely_9 : decode cX12_surely 9 = .ok (.ifCond .ne 5, 3) := by decide +kernel
theorem dX12_surely_12 : decode cX12_surely 12 = .ok (.iconst (-1), 1) := by decide +kernel
theorem dX12_surely_13 : decode cX12_surely 13 = .ok (.ireturn, 1) := by decide +kernel
theorem dX12_surely_14 : decode cX12_surely 14 = .ok (.bipush (-9), 2) := by decide +kernel
theorem dX12_surely_16 : decode cX12_surely 16 = .ok (.istore_n 2, 1) := by decide +kernel
theorem dX12_surely_17 : decode cX12_surely 17 = .ok (.aload_n 0, 1) := by decide +kernel
theorem dX12_surely_18 : decode cX12_surely 18 = .ok (.aload_n 0, 1) := by decide +kernel
theorem dX12_surely_19 : decode cX12_surely 19 = .ok (.getfield 137, 3) := by decide +kernel
theorem dX12_surely_22 : decode cX12_surely 22 = .ok (.invokevirtual 219, 3) := by decide +kernel
theorem dX12_surely_25 : decode cX12_surely 25 = .ok (.istore_n 3, 1) := by decide +kernel
theorem dX12_surely_26 : decode cX12_surely 26 = .ok (.iload_n 3, 1) := by decide +kernel
theorem dX12_surely_27 : decode cX12_surely 27 = .ok (.ifCond .eq 76, 3) := by decide +kernel
theorem dX12_surely_30 : decode cX12_surely 30 = .ok (.aload_n 0, 1) := by decide +kernel
theorem dX12_surely_31 : decode cX12_surely 31 = .ok (.invokevirtual 203, 3) := by decide +kernel
theorem dX12_surely_34 : decode cX12_surely 34 = .ok (.istore 4, 2) := by decide +kernel
theorem dX12_surely_36 : decode cX12_surely 36 = .ok (.iload 4, 2) := by decide +kernel
theorem dX12_surely_38 : decode cX12_surely 38 = .ok (.iload_n 1, 1) := by decide +kernel
theorem dX12_surely_39 : decode cX12_surely 39 = .ok (.if_icmp .lt 16, 3) := by decide +kernel
theorem dX12_surely_42 : decode cX12_surely 42 = .ok (.aload_n 0, 1) := by decide +kernel
theorem dX12_surely_43 : decode cX12_surely 43 = .ok (.iload 4, 2) := by decide +kernel
theorem dX12_surely_45 : decode cX12_surely 45 = .ok (.invokevirtual 235, 3) := by decide +kernel
theorem dX12_surely_48 : decode cX12_surely 48 = .ok (.ifCond .eq 7, 3) := by decide +kernel
theorem dX12_surely_51 : decode cX12_surely 51 = .ok (.iconst 1, 1) := by decide +kernel
theorem dX12_surely_52 : decode cX12_surely 52 = .ok (.goto 4, 3) := by decide +kernel
theorem dX12_surely_55 : decode cX12_surely 55 = .ok (.iconst 0, 1) := by decide +kernel
theorem dX12_surely_56 : decode cX12_surely 56 = .ok (.istore 5, 2) := by decide +kernel
theorem dX12_surely_58 : decode cX12_surely 58 = .ok (.iload 5, 2) := by decide +kernel
theorem dX12_surely_60 : decode cX12_surely 60 = .ok (.ifCond .ne 7, 3) := by decide +kernel
theorem dX12_surely_63 : decode cX12_surely 63 = .ok (.iload_n 2, 1) := by decide +kernel
theorem dX12_surely_64 : decode cX12_surely 64 = .ok (.goto 30, 3) := by decide +kernel
theorem dX12_surely_67 : decode cX12_surely 67 = .ok (.iload_n 2, 1) := by decide +kernel
theorem dX12_surely_68 : decode cX12_surely 68 = .ok (.bipush (-9), 2) := by decide +kernel
theorem dX12_surely_70 : decode cX12_surely 70 = .ok (.if_icmp .ne 14, 3) := by decide +kernel
theorem dX12_surely_73 : decode cX12_surely 73 = .ok (.aload_n 0, 1) := by decide +kernel
theorem dX12_surely_74 : decode cX12_surely 74 = .ok (.getfield 46, 3) := by decide +kernel
theorem dX12_surely_77 : decode cX12_surely 77 = .ok (.iload_n 1, 1) := by decide +kernel
theorem dX12_surely_78 : decode cX12_surely 78 = .ok (.iconst 1, 1) := by decide +kernel
theorem dX12_surely_79 : decode cX12_surely 79 = .ok (.isub, 1) := by decide +kernel
theorem dX12_surely_80 : decode cX12_surely 80 = .ok (.iaload, 1) := by decide +kernel
theorem dX12_surely_81 : decode cX12_surely 81 = .ok (.goto 13, 3) := by decide +kernel
theorem dX12_surely_84 : decode cX12_surely 84 = .ok (.iload_n 2, 1) := by decide +kernel
theorem dX12_surely_85 : decode cX12_surely 85 = .ok (.aload_n 0, 1) := by decide +kernel
theorem dX12_surely_86 : decode cX12_surely 86 = .ok (.getfield 46, 3) := by decide +kernel
theorem dX12_surely_89 : decode cX12_surely 89 = .ok (.iload_n 1, 1) := by decide +kernel
theorem dX12_surely_90 : decode cX12_surely 90 = .ok (.iconst 1, 1) := by decide +kernel
theorem dX12_surely_91 : decode cX12_surely 91 = .ok (.isub, 1) := by decide +kernel
theorem dX12_surely_92 : decode cX12_surely 92 = .ok (.iaload, 1) := by decide +kernel
theorem dX12_surely_93 : decode cX12_surely 93 = .ok (.iand, 1) := by decide +kernel
theorem dX12_surely_94 : decode cX12_surely 94 = .ok (.istore_n 2, 1) := by decide +kernel
theorem dX12_surely_95 : decode cX12_surely 95 = .ok (.aload_n 0, 1) := by decide +kernel
theorem dX12_surely_96 : decode cX12_surely 96 = .ok (.invokevirtual 225, 3) := by decide +kernel
theorem dX12_surely_99 : decode cX12_surely 99 = .ok (.istore_n 3, 1) := by decide +kernel
theorem dX12_surely_100 : decode cX12_surely 100 = .ok (.goto (-74), 3) := by decide +kernel
theorem dX12_surely_103 : decode cX12_surely 103 = .ok (.iload_n 2, 1) := by decide +kernel
theorem dX12_surely_104 : decode cX12_surely 104 = .ok (.ireturn, 1) := by decide +kernel
theorem dX12_odds_0 : decode cX12_odds 0 = .ok (.iload_n 1, 1) := by decide +kernel
theorem dX12_odds_1 : decode cX12_odds 1 = .ok (.i2l, 1) := by decide +kernel
theorem dX12_odds_2 : decode cX12_odds 2 = .ok (.lconst 0, 1) := by decide +kernel
theorem dX12_odds_3 : decode cX12_odds 3 = .ok (.ldc2_w 238, 3) := by decide +kernel
theorem dX12_odds_6 : decode cX12_odds 6 = .ok (.invokestatic 63, 3) := by decide +kernel
theorem dX12_odds_9 : decode cX12_odds 9 = .ok (.ifCond .eq 25, 3) := by decide +kernel
theorem dX12_odds_12 : decode cX12_odds 12 = .ok (.iload_n 2, 1) := by decide +kernel
theorem dX12_odds_13 : decode cX12_odds 13 = .ok (.i2l, 1) := by decide +kernel
theorem dX12_odds_14 : decode cX12_odds 14 = .ok (.lconst 0, 1) := by decide +kernel
theorem dX12_odds_15 : decode cX12_odds 15 = .ok (.ldc2_w 117, 3) := by decide +kernel
theorem dX12_odds_18 : decode cX12_odds 18 = .ok (.invokestatic 63, 3) := by decide +kernel
theorem dX12_odds_21 : decode cX12_odds 21 = .ok (.ifCond .eq 13, 3) := by decide +kernel
theorem dX12_odds_24 : decode cX12_odds 24 = .ok (.iload_n 3, 1) := by decide +kernel
theorem dX12_odds_25 : decode cX12_odds 25 = .ok (.i2l, 1) := by decide +kernel
theorem dX12_odds_26 : decode cX12_odds 26 = .ok (.lconst 0, 1) := by decide +kernel
theorem dX12_odds_27 : decode cX12_odds 27 = .ok (.lconst 1, 1) := by decide +kernel
theorem dX12_odds_28 : decode cX12_odds 28 = .ok (.invokestatic 63, 3) := by decide +kernel
theorem dX12_odds_31 : decode cX12_odds 31 = .ok (.ifCond .ne 7, 3) := by decide +kernel
theorem dX12_odds_34 : decode cX12_odds 34 = .ok (.ldc2_w 240, 3) := by decide +kernel
theorem dX12_odds_37 : decode cX12_odds 37 = .ok (.lreturn, 1) := by decide +kernel
theorem dX12_odds_38 : decode cX12_odds 38 = .ok (.lconst 1, 1) := by decide +kernel
theorem dX12_odds_39 : decode cX12_odds 39 = .ok (.lstore 4, 2) := by decide +kernel
theorem dX12_odds_41 : decode cX12_odds 41 = .ok (.lconst 1, 1) := by decide +kernel
theorem dX12_odds_42 : decode cX12_odds 42 = .ok (.lstore 6, 2) := by decide +kernel
theorem dX12_odds_44 : decode cX12_odds 44 = .ok (.iconst 0, 1) := by decide +kernel
theorem dX12_odds_45 : decode cX12_odds 45 = .ok (.istore 8, 2) := by decide +kernel
theorem dX12_odds_47 : decode cX12_odds 47 = .ok (.iload 8, 2) := by decide +kernel
theorem dX12_odds_49 : decode cX12_odds 49 = .ok (.iload_n 2, 1) := by decide +kernel
theorem dX12_odds_50 : decode cX12_odds 50 = .ok (.if_icmp .ge 28, 3) := by decide +kernel
theorem dX12_odds_53 : decode cX12_odds 53 = .ok (.lload 4, 2) := by decide +kernel
theorem dX12_odds_55 : decode cX12_odds 55 = .ok (.ldc2_w 238, 3) := by decide +kernel
theorem dX12_odds_58 : decode cX12_odds 58 = .ok (.iload_n 1, 1) := by decide +kernel
theorem dX12_odds_59 : decode cX12_odds 59 = .ok (.i2l, 1) := by decide +kernel
theorem dX12_odds_60 : decode cX12_odds 60 = .ok (.lsub, 1) := by decide +kernel
theorem dX12_odds_61 : decode cX12_odds 61 = .ok (.lmul, 1) := by decide +kernel
theorem dX12_odds_62 : decode cX12_odds 62 = .ok (.lstore 4, 2) := by decide +kernel
theorem dX12_odds_64 : decode cX12_odds 64 = .ok (.lload 6, 2) := by decide +kernel
theorem dX12_odds_66 : decode cX12_odds 66 = .ok (.ldc2_w 238, 3) := by decide +kernel
theorem dX12_odds_69 : decode cX12_odds 69 = .ok (.lmul, 1) := by decide +kernel
theorem dX12_odds_70 : decode cX12_odds 70 = .ok (.lstore 6, 2) := by decide +kernel
theorem dX12_odds_72 : decode cX12_odds 72 = .ok (.iinc 8 1, 3) := by decide +kernel
theorem dX12_odds_75 : decode cX12_odds 75 = .ok (.goto (-28), 3) := by decide +kernel
theorem dX12_odds_78 : decode cX12_odds 78 = .ok (.lload 4, 2) := by decide +kernel
theorem dX12_odds_80 : decode cX12_odds 80 = .ok (.lstore 8, 2) := by decide +kernel
theorem dX12_odds_82 : decode cX12_odds 82 = .ok (.lload 6, 2) := by decide +kernel
theorem dX12_odds_84 : decode cX12_odds 84 = .ok (.lstore 10, 2) := by decide +kernel
theorem dX12_odds_86 : decode cX12_odds 86 = .ok (.lload 10, 2) := by decide +kernel
theorem dX12_odds_88 : decode cX12_odds 88 = .ok (.lconst 0, 1) := by decide +kernel
theorem dX12_odds_89 : decode cX12_odds 89 = .ok (.lcmp, 1) := by decide +kernel
theorem dX12_odds_90 : decode cX12_odds 90 = .ok (.ifCond .le 21, 3) := by decide +kernel
theorem dX12_odds_93 : decode cX12_odds 93 = .ok (.lload 8, 2) := by decide +kernel
theorem dX12_odds_95 : decode cX12_odds 95 = .ok (.lload 10, 2) := by decide +kernel
theorem dX12_odds_97 : decode cX12_odds 97 = .ok (.lrem, 1) := by decide +kernel
theorem dX12_odds_98 : decode cX12_odds 98 = .ok (.lstore 12, 2) := by decide +kernel
theorem dX12_odds_100 : decode cX12_odds 100 = .ok (.lload 10, 2) := by decide +kernel
theorem dX12_odds_102 : decode cX12_odds 102 = .ok (.lstore 8, 2) := by decide +kernel
theorem dX12_odds_104 : decode cX12_odds 104 = .ok (.lload 12, 2) := by decide +kernel
theorem dX12_odds_106 : decode cX12_odds 106 = .ok (.lstore 10, 2) := by decide +kernel
theorem dX12_odds_108 : decode cX12_odds 108 = .ok (.goto (-22), 3) := by decide +kernel
theorem dX12_odds_111 : decode cX12_odds 111 = .ok (.iload_n 3, 1) := by decide +kernel
theorem dX12_odds_112 : decode cX12_odds 112 = .ok (.ifCond .ne 11, 3) := by decide +kernel
theorem dX12_odds_115 : decode cX12_odds 115 = .ok (.lload 4, 2) := by decide +kernel
theorem dX12_odds_117 : decode cX12_odds 117 = .ok (.lload 8, 2) := by decide +kernel
theorem dX12_odds_119 : decode cX12_odds 119 = .ok (.ldiv, 1) := by decide +kernel
theorem dX12_odds_120 : decode cX12_odds 120 = .ok (.goto 8, 3) := by decide +kernel
theorem dX12_odds_123 : decode cX12_odds 123 = .ok (.lload 6, 2) := by decide +kernel
theorem dX12_odds_125 : decode cX12_odds 125 = .ok (.lload 8, 2) := by decide +kernel
theorem dX12_odds_127 : decode cX12_odds 127 = .ok (.ldiv, 1) := by decide +kernel
theorem dX12_odds_128 : decode cX12_odds 128 = .ok (.lreturn, 1) := by decide +kernel
theorem dX12_mark_0 : decode cX12_mark 0 = .ok (.iload_n 1, 1) := by decide +kernel
theorem dX12_mark_1 : decode cX12_mark 1 = .ok (.i2l, 1) := by decide +kernel
theorem dX12_mark_2 : decode cX12_mark 2 = .ok (.lconst 0, 1) := by decide +kernel
theorem dX12_mark_3 : decode cX12_mark 3 = .ok (.ldc2_w 242, 3) := by decide +kernel
theorem dX12_mark_6 : decode cX12_mark 6 = .ok (.invokestatic 63, 3) := by decide +kernel
theorem dX12_mark_9 : decode cX12_mark 9 = .ok (.ifCond .eq 11, 3) := by decide +kernel
theorem dX12_mark_12 : decode cX12_mark 12 = .ok (.aload_n 0, 1) := by decide +kernel
theorem dX12_mark_13 : decode cX12_mark 13 = .ok (.iload_n 2, 1) := by decide +kernel
theorem dX12_mark_14 : decode cX12_mark 14 = .ok (.invokevirtual 176, 3) := by decide +kernel
theorem dX12_mark_17 : decode cX12_mark 17 = .ok (.ifCond .ne 6, 3) := by decide +kernel
theorem dX12_mark_20 : decode cX12_mark 20 = .ok (.ldc 244, 2) := by decide +kernel
theorem dX12_mark_22 : decode cX12_mark 22 = .ok (.ireturn, 1) := by decide +kernel
theorem dX12_mark_23 : decode cX12_mark 23 = .ok (.aload_n 0, 1) := by decide +kernel
theorem dX12_mark_24 : decode cX12_mark 24 = .ok (.dup, 1) := by decide +kernel
theorem dX12_mark_25 : decode cX12_mark 25 = .ok (.getfield 245, 3) := by decide +kernel
theorem dX12_mark_28 : decode cX12_mark 28 = .ok (.iload_n 1, 1) := by decide +kernel
theorem dX12_mark_29 : decode cX12_mark 29 = .ok (.ifCond .ne 7, 3) := by decide +kernel
theorem dX12_mark_32 : decode cX12_mark 32 = .ok (.lconst 1, 1) := by decide +kernel
theorem dX12_mark_33 : decode cX12_mark 33 = .ok (.goto 50, 3) := by decide +kernel
theorem dX12_mark_36 : decode cX12_mark 36 = .ok (.iload_n 1, 1) := by decide +kernel
theorem dX12_mark_37 : decode cX12_mark 37 = .ok (.iconst 1, 1) := by decide +kernel
theorem dX12_mark_38 : decode cX12_mark 38 = .ok (.if_icmp .ne 9, 3) := by decide +kernel
theorem dX12_mark_41 : decode cX12_mark 41 = .ok (.ldc2_w 249, 3) := by decide +kernel
theorem dX12_mark_44 : decode cX12_mark 44 = .ok (.goto 39, 3) := by decide +kernel
theorem dX12_mark_47 : decode cX12_mark 47 = .ok (.iload_n 1, 1) := by decide +kernel
theorem dX12_mark_48 : decode cX12_mark 48 = .ok (.iconst 2, 1) := by decide +kernel
theorem dX12_mark_49 : decode cX12_mark 49 = .ok (.if_icmp .ne 9, 3) := by decide +kernel
theorem dX12_mark_52 : decode cX12_mark 52 = .ok (.ldc2_w 251, 3) := by decide +kernel
theorem dX12_mark_55 : decode cX12_mark 55 = .ok (.goto 28, 3) := by decide +kernel
theorem dX12_mark_58 : decode cX12_mark 58 = .ok (.iload_n 1, 1) := by decide +kernel
theorem dX12_mark_59 : decode cX12_mark 59 = .ok (.iconst 3, 1) := by decide +kernel
theorem dX12_mark_60 : decode cX12_mark 60 = .ok (.if_icmp .ne 9, 3) := by decide +kernel
theorem dX12_mark_63 : decode cX12_mark 63 = .ok (.ldc2_w 253, 3) := by decide +kernel
theorem dX12_mark_66 : decode cX12_mark 66 = .ok (.goto 17, 3) := by decide +kernel
theorem dX12_mark_69 : decode cX12_mark 69 = .ok (.iload_n 1, 1) := by decide +kernel
theorem dX12_mark_70 : decode cX12_mark 70 = .ok (.iconst 4, 1) := by decide +kernel
theorem dX12_mark_71 : decode cX12_mark 71 = .ok (.if_icmp .ne 9, 3) := by decide +kernel
theorem dX12_mark_74 : decode cX12_mark 74 = .ok (.ldc2_w 255, 3) := by decide +kernel
theorem dX12_mark_77 : decode cX12_mark 77 = .ok (.goto 6, 3) := by decide +kernel
theorem dX12_mark_80 : decode cX12_mark 80 = .ok (.ldc2_w 257, 3) := by decide +kernel
theorem dX12_mark_83 : decode cX12_mark 83 = .ok (.ladd, 1) := by decide +kernel
theorem dX12_mark_84 : decode cX12_mark 84 = .ok (.putfield 245, 3) := by decide +kernel
theorem dX12_mark_87 : decode cX12_mark 87 = .ok (.aload_n 0, 1) := by decide +kernel
theorem dX12_mark_88 : decode cX12_mark 88 = .ok (.getfield 31, 3) := by decide +kernel
theorem dX12_mark_91 : decode cX12_mark 91 = .ok (.bipush 10, 2) := by decide +kernel
theorem dX12_mark_93 : decode cX12_mark 93 = .ok (.iload_n 2, 1) := by decide +kernel
theorem dX12_mark_94 : decode cX12_mark 94 = .ok (.iadd, 1) := by decide +kernel
theorem dX12_mark_95 : decode cX12_mark 95 = .ok (.iaload, 1) := by decide +kernel
theorem dX12_mark_96 : decode cX12_mark 96 = .ok (.istore_n 3, 1) := by decide +kernel
theorem dX12_mark_97 : decode cX12_mark 97 = .ok (.iconst 0, 1) := by decide +kernel
theorem dX12_mark_98 : decode cX12_mark 98 = .ok (.istore 4, 2) := by decide +kernel
theorem dX12_mark_100 : decode cX12_mark 100 = .ok (.iconst 0, 1) := by decide +kernel
theorem dX12_mark_101 : decode cX12_mark 101 = .ok (.istore 5, 2) := by decide +kernel
theorem dX12_mark_103 : decode cX12_mark 103 = .ok (.iload 5, 2) := by decide +kernel
theorem dX12_mark_105 : decode cX12_mark 105 = .ok (.aload_n 0, 1) := by decide +kernel
theorem dX12_mark_106 : decode cX12_mark 106 = .ok (.getfield 137, 3) := by decide +kernel
theorem dX12_mark_109 : decode cX12_mark 109 = .ok (.if_icmp .ge 30, 3) := by decide +kernel
theorem dX12_mark_112 : decode cX12_mark 112 = .ok (.iload 4, 2) := by decide +kernel
theorem dX12_mark_114 : decode cX12_mark 114 = .ok (.aload_n 0, 1) := by decide +kernel
theorem dX12_mark_115 : decode cX12_mark 115 = .ok (.getfield 25, 3) := by decide +kernel
theorem dX12_mark_118 : decode cX12_mark 118 = .ok (.iload 5, 2) := by decide +kernel
theorem dX12_mark_120 : decode cX12_mark 120 = .ok (.iaload, 1) := by decide +kernel
theorem dX12_mark_121 : decode cX12_mark 121 = .ok (.iload_n 2, 1) := by decide +kernel
theorem dX12_mark_122 : decode cX12_mark 122 = .ok (.if_icmp .ne 7, 3) := by decide +kernel
theorem dX12_mark_125 : decode cX12_mark 125 = .ok (.iconst 1, 1) := by decide +kernel
theorem dX12_mark_126 : decode cX12_mark 126 = .ok (.goto 4, 3) := by decide +kernel
theorem dX12_mark_129 : decode cX12_mark 129 = .ok (.iconst 0, 1) := by decide +kernel
theorem dX12_mark_130 : decode cX12_mark 130 = .ok (.iadd, 1) := by decide +kernel
theorem dX12_mark_131 : decode cX12_mark 131 = .ok (.istore 4, 2) := by decide +kernel
theorem dX12_mark_133 : decode cX12_mark 133 = .ok (.iinc 5 1, 3) := by decide +kernel
theorem dX12_mark_136 : decode cX12_mark 136 = .ok (.goto (-33), 3) := by decide +kernel
theorem dX12_mark_139 : decode cX12_mark 139 = .ok (.iload_n 1, 1) := by decide +kernel
theorem dX12_mark_140 : decode cX12_mark 140 = .ok (.tableswitch 75 0 4 #[36, 38, 47, 52, 63], 36) := by decide +kernel
theorem dX12_mark_176 : decode cX12_mark 176 = .ok (.iload_n 3, 1) := by decide +kernel
theorem dX12_mark_177 : decode cX12_mark 177 = .ok (.ireturn, 1) := by decide +kernel
theorem dX12_mark_178 : decode cX12_mark 178 = .ok (.iload_n 3, 1) := by decide +kernel
theorem dX12_mark_179 : decode cX12_mark 179 = .ok (.aload_n 0, 1) := by decide +kernel
theorem dX12_mark_180 : decode cX12_mark 180 = .ok (.getfield 22, 3) := by decide +kernel
theorem dX12_mark_183 : decode cX12_mark 183 = .ok (.iload_n 2, 1) := by decide +kernel
theorem dX12_mark_184 : decode cX12_mark 184 = .ok (.iaload, 1) := by decide +kernel
theorem dX12_mark_185 : decode cX12_mark 185 = .ok (.iadd, 1) := by decide +kernel
theorem dX12_mark_186 : decode cX12_mark 186 = .ok (.ireturn, 1) := by decide +kernel
theorem dX12_mark_187 : decode cX12_mark 187 = .ok (.iload_n 3, 1) := by decide +kernel
theorem dX12_mark_188 : decode cX12_mark 188 = .ok (.iload 4, 2) := by decide +kernel
theorem dX12_mark_190 : decode cX12_mark 190 = .ok (.isub, 1) := by decide +kernel
theorem dX12_mark_191 : decode cX12_mark 191 = .ok (.ireturn, 1) := by decide +kernel
theorem dX12_mark_192 : decode cX12_mark 192 = .ok (.iconst 2, 1) := by decide +kernel
theorem dX12_mark_193 : decode cX12_mark 193 = .ok (.iload_n 3, 1) := by decide +kernel
theorem dX12_mark_194 : decode cX12_mark 194 = .ok (.aload_n 0, 1) := by decide +kernel
theorem dX12_mark_195 : decode cX12_mark 195 = .ok (.getfield 22, 3) := by decide +kernel
theorem dX12_mark_198 : decode cX12_mark 198 = .ok (.iload_n 2, 1) := by decide +kernel
theorem dX12_mark_199 : decode cX12_mark 199 = .ok (.iaload, 1) := by decide +kernel
theorem dX12_mark_200 : decode cX12_mark 200 = .ok (.iadd, 1) := by decide +kernel
theorem dX12_mark_201 : decode cX12_mark 201 = .ok (.imul, 1) := by decide +kernel
theorem dX12_mark_202 : decode cX12_mark 202 = .ok (.ireturn, 1) := by decide +kernel
theorem dX12_mark_203 : decode cX12_mark 203 = .ok (.iload_n 3, 1) := by decide +kernel
theorem dX12_mark_204 : decode cX12_mark 204 = .ok (.iload 4, 2) := by decide +kernel
theorem dX12_mark_206 : decode cX12_mark 206 = .ok (.isub, 1) := by decide +kernel
theorem dX12_mark_207 : decode cX12_mark 207 = .ok (.aload_n 0, 1) := by decide +kernel
theorem dX12_mark_208 : decode cX12_mark 208 = .ok (.getfield 31, 3) := by decide +kernel
theorem dX12_mark_211 : decode cX12_mark 211 = .ok (.iconst 2, 1) := by decide +kernel
theorem dX12_mark_212 : decode cX12_mark 212 = .ok (.iaload, 1) := by decide +kernel
theorem dX12_mark_213 : decode cX12_mark 213 = .ok (.iadd, 1) := by decide +kernel
theorem dX12_mark_214 : decode cX12_mark 214 = .ok (.ireturn, 1) := by decide +kernel
theorem dX12_mark_215 : decode cX12_mark 215 = .ok (.iload_n 3, 1) := by decide +kernel
theorem dX12_mark_216 : decode cX12_mark 216 = .ok (.aload_n 0, 1) := by decide +kernel
theorem dX12_mark_217 : decode cX12_mark 217 = .ok (.getfield 31, 3) := by decide +kernel
theorem dX12_mark_220 : decode cX12_mark 220 = .ok (.iconst 0, 1) := by decide +kernel
theorem dX12_mark_221 : decode cX12_mark 221 = .ok (.iaload, 1) := by decide +kernel
theorem dX12_mark_222 : decode cX12_mark 222 = .ok (.iadd, 1) := by decide +kernel
theorem dX12_mark_223 : decode cX12_mark 223 = .ok (.ireturn, 1) := by decide +kernel
theorem dX12_trace_0 : decode cX12_trace 0 = .ok (.aload_n 0, 1) := by decide +kernel
theorem dX12_trace_1 : decode cX12_trace 1 = .ok (.getfield 245, 3) := by decide +kernel
theorem dX12_trace_4 : decode cX12_trace 4 = .ok (.lreturn, 1) := by decide +kernel
theorem dX12_keep_0 : decode cX12_keep 0 = .ok (.iload_n 1, 1) := by decide +kernel
theorem dX12_keep_1 : decode cX12_keep 1 = .ok (.i2l, 1) := by decide +kernel
theorem dX12_keep_2 : decode cX12_keep 2 = .ok (.lconst 0, 1) := by decide +kernel
theorem dX12_keep_3 : decode cX12_keep 3 = .ok (.lconst 1, 1) := by decide +kernel
theorem dX12_keep_4 : decode cX12_keep 4 = .ok (.invokestatic 63, 3) := by decide +kernel
theorem dX12_keep_7 : decode cX12_keep 7 = .ok (.ifCond .ne 5, 3) := by decide +kernel
theorem dX12_keep_10 : decode cX12_keep 10 = .ok (.iconst (-1), 1) := by decide +kernel
theorem dX12_keep_11 : decode cX12_keep 11 = .ok (.ireturn, 1) := by decide +kernel
theorem dX12_keep_12 : decode cX12_keep 12 = .ok (.sipush 321, 3) := by decide +kernel
theorem dX12_keep_15 : decode cX12_keep 15 = .ok (.iload_n 1, 1) := by decide +kernel
theorem dX12_keep_16 : decode cX12_keep 16 = .ok (.imul, 1) := by decide +kernel
theorem dX12_keep_17 : decode cX12_keep 17 = .ok (.istore_n 2, 1) := by decide +kernel
theorem dX12_keep_18 : decode cX12_keep 18 = .ok (.aload_n 0, 1) := by decide +kernel
theorem dX12_keep_19 : decode cX12_keep 19 = .ok (.getfield 55, 3) := by decide +kernel
theorem dX12_keep_22 : decode cX12_keep 22 = .ok (.iload_n 2, 1) := by decide +kernel
theorem dX12_keep_23 : decode cX12_keep 23 = .ok (.iconst 1, 1) := by decide +kernel
theorem dX12_keep_24 : decode cX12_keep 24 = .ok (.iastore, 1) := by decide +kernel
theorem dX12_keep_25 : decode cX12_keep 25 = .ok (.aload_n 0, 1) := by decide +kernel
theorem dX12_keep_26 : decode cX12_keep 26 = .ok (.getfield 55, 3) := by decide +kernel
theorem dX12_keep_29 : decode cX12_keep 29 = .ok (.iload_n 2, 1) := by decide +kernel
theorem dX12_keep_30 : decode cX12_keep 30 = .ok (.iconst 1, 1) := by decide +kernel
theorem dX12_keep_31 : decode cX12_keep 31 = .ok (.iadd, 1) := by decide +kernel
theorem dX12_keep_32 : decode cX12_keep 32 = .ok (.aload_n 0, 1) := by decide +kernel
theorem dX12_keep_33 : decode cX12_keep 33 = .ok (.getfield 152, 3) := by decide +kernel
theorem dX12_keep_36 : decode cX12_keep 36 = .ok (.iastore, 1) := by decide +kernel
theorem dX12_keep_37 : decode cX12_keep 37 = .ok (.aload_n 0, 1) := by decide +kernel
theorem dX12_keep_38 : decode cX12_keep 38 = .ok (.getfield 55, 3) := by decide +kernel
theorem dX12_keep_41 : decode cX12_keep 41 = .ok (.iload_n 2, 1) := by decide +kernel
theorem dX12_keep_42 : decode cX12_keep 42 = .ok (.iconst 2, 1) := by decide +kernel
theorem dX12_keep_43 : decode cX12_keep 43 = .ok (.iadd, 1) := by decide +kernel
theorem dX12_keep_44 : decode cX12_keep 44 = .ok (.aload_n 0, 1) := by decide +kernel
theorem dX12_keep_45 : decode cX12_keep 45 = .ok (.getfield 155, 3) := by decide +kernel
theorem dX12_keep_48 : decode cX12_keep 48 = .ok (.iastore, 1) := by decide +kernel
theorem dX12_keep_49 : decode cX12_keep 49 = .ok (.iconst 0, 1) := by decide +kernel
theorem dX12_keep_50 : decode cX12_keep 50 = .ok (.istore_n 3, 1) := by decide +kernel
theorem dX12_keep_51 : decode cX12_keep 51 = .ok (.iload_n 3, 1) := by decide +kernel
theorem dX12_keep_52 : decode cX12_keep 52 = .ok (.bipush 28, 2) := by decide +kernel
theorem dX12_keep_54 : decode cX12_keep 54 = .ok (.if_icmp .ge 25, 3) := by decide +kernel
theorem dX12_keep_57 : decode cX12_keep 57 = .ok (.aload_n 0, 1) := by decide +kernel
theorem dX12_keep_58 : decode cX12_keep 58 = .ok (.getfield 55, 3) := by decide +kernel
theorem dX12_keep_61 : decode cX12_keep 61 = .ok (.iload_n 2, 1) := by decide +kernel
theorem dX12_keep_62 : decode cX12_keep 62 = .ok (.iconst 3, 1) := by decide +kernel
theorem dX12_keep_63 : decode cX12_keep 63 = .ok (.iadd, 1) := by decide +kernel
theorem dX12_keep_64 : decode cX12_keep 64 = .ok (.iload_n 3, 1) := by decide +kernel
theorem dX12_keep_65 : decode cX12_keep 65 = .ok (.iadd, 1) := by decide +kernel
theorem dX12_keep_66 : decode cX12_keep 66 = .ok (.aload_n 0, 1) := by decide +kernel
theorem dX12_keep_67 : decode cX12_keep 67 = .ok (.getfield 31, 3) := by decide +kernel
theorem dX12_keep_70 : decode cX12_keep 70 = .ok (.iload_n 3, 1) := by decide +kernel
theorem dX12_keep_71 : decode cX12_keep 71 = .ok (.iaload, 1) := by decide +kernel
theorem dX12_keep_72 : decode cX12_keep 72 = .ok (.iastore, 1) := by decide +kernel
theorem dX12_keep_73 : decode cX12_keep 73 = .ok (.iinc 3 1, 3) := by decide +kernel
theorem dX12_keep_76 : decode cX12_keep 76 = .ok (.goto (-25), 3) := by decide +kernel
theorem dX12_keep_79 : decode cX12_keep 79 = .ok (.iconst 0, 1) := by decide +kernel
theorem dX12_keep_80 : decode cX12_keep 80 = .ok (.istore_n 3, 1) := by decide +kernel
theorem dX12_keep_81 : decode cX12_keep 81 = .ok (.iload_n 3, 1) := by decide +kernel
theorem dX12_keep_82 : decode cX12_keep 82 = .ok (.sipush 290, 3) := by decide +kernel
theorem dX12_keep_85 : decode cX12_keep 85 = .ok (.if_icmp .ge 26, 3) := by decide +kernel
theorem dX12_keep_88 : decode cX12_keep 88 = .ok (.aload_n 0, 1) := by decide +kernel
theorem dX12_keep_89 : decode cX12_keep 89 = .ok (.getfield 55, 3) := by decide +kernel
theorem dX12_keep_92 : decode cX12_keep 92 = .ok (.iload_n 2, 1) := by decide +kernel
theorem dX12_keep_93 : decode cX12_keep 93 = .ok (.bipush 31, 2) := by decide +kernel
theorem dX12_keep_95 : decode cX12_keep 95 = .ok (.iadd, 1) := by decide +kernel
theorem dX12_keep_96 : decode cX12_keep 96 = .ok (.iload_n 3, 1) := by decide +kernel
theorem dX12_keep_97 : decode cX12_keep 97 = .ok (.iadd, 1) := by decide +kernel
theorem dX12_keep_98 : decode cX12_keep 98 = .ok (.aload_n 0, 1) := by decide +kernel
theorem dX12_keep_99 : decode cX12_keep 99 = .ok (.getfield 37, 3) := by decide +kernel
theorem dX12_keep_102 : decode cX12_keep 102 = .ok (.iload_n 3, 1) := by decide +kernel
theorem dX12_keep_103 : decode cX12_keep 103 = .ok (.iaload, 1) := by decide +kernel
theorem dX12_keep_104 : decode cX12_keep 104 = .ok (.iastore, 1) := by decide +kernel
theorem dX12_keep_105 : decode cX12_keep 105 = .ok (.iinc 3 1, 3) := by decide +kernel
theorem dX12_keep_108 : decode cX12_keep 108 = .ok (.goto (-27), 3) := by decide +kernel
theorem dX12_keep_111 : decode cX12_keep 111 = .ok (.aload_n 0, 1) := by decide +kernel
theorem dX12_keep_112 : decode cX12_keep 112 = .ok (.getfield 31, 3) := by decide +kernel
theorem dX12_keep_115 : decode cX12_keep 115 = .ok (.iconst 0, 1) := by decide +kernel
theorem dX12_keep_116 : decode cX12_keep 116 = .ok (.iaload, 1) := by decide +kernel
theorem dX12_keep_117 : decode cX12_keep 117 = .ok (.ireturn, 1) := by decide +kernel
theorem dX12_back_0 : decode cX12_back 0 = .ok (.iload_n 1, 1) := by decide +kernel
theorem dX12_back_1 : decode cX12_back 1 = .ok (.i2l, 1) := by decide +kernel
theorem dX12_back_2 : decode cX12_back 2 = .ok (.lconst 0, 1) := by decide +kernel
theorem dX12_back_3 : decode cX12_back 3 = .ok (.lconst 1, 1) := by decide +kernel
theorem dX12_back_4 : decode cX12_back 4 = .ok (.invokestatic 63, 3) := by decide +kernel
theorem dX12_back_7 : decode cX12_back 7 = .ok (.ifCond .ne 5, 3) := by decide +kernel
theorem dX12_back_10 : decode cX12_back 10 = .ok (.iconst (-1), 1) := by decide +kernel
theorem dX12_back_11 : decode cX12_back 11 = .ok (.ireturn, 1) := by decide +kernel
theorem dX12_back_12 : decode cX12_back 12 = .ok (.sipush 321, 3) := by decide +kernel
theorem dX12_back_15 : decode cX12_back 15 = .ok (.iload_n 1, 1) := by decide +kernel
theorem dX12_back_16 : decode cX12_back 16 = .ok (.imul, 1) := by decide +kernel
theorem dX12_back_17 : decode cX12_back 17 = .ok (.istore_n 2, 1) := by decide +kernel
theorem dX12_back_18 : decode cX12_back 18 = .ok (.aload_n 0, 1) := by decide +kernel
theorem dX12_back_19 : decode cX12_back 19 = .ok (.getfield 55, 3) := by decide +kernel
theorem dX12_back_22 : decode cX12_back 22 = .ok (.iload_n 2, 1) := by decide +kernel
theorem dX12_back_23 : decode cX12_back 23 = .ok (.iaload, 1) := by decide +kernel
theorem dX12_back_24 : decode cX12_back 24 = .ok (.ifCond .ne 6, 3) := by decide +kernel
theorem dX12_back_27 : decode cX12_back 27 = .ok (.bipush (-2), 2) := by decide +kernel
theorem dX12_back_29 : decode cX12_back 29 = .ok (.ireturn, 1) := by decide +kernel
theorem dX12_back_30 : decode cX12_back 30 = .ok (.aload_n 0, 1) := by decide +kernel
theorem dX12_back_31 : decode cX12_back 31 = .ok (.aload_n 0, 1) := by decide +kernel
theorem dX12_back_32 : decode cX12_back 32 = .ok (.getfield 55, 3) := by decide +kernel
theorem dX12_back_35 : decode cX12_back 35 = .ok (.iload_n 2, 1) := by decide +kernel
theorem dX12_back_36 : decode cX12_back 36 = .ok (.iconst 1, 1) := by decide +kernel
theorem dX12_back_37 : decode cX12_back 37 = .ok (.iadd, 1) := by decide +kernel
theorem dX12_back_38 : decode cX12_back 38 = .ok (.iaload, 1) := by decide +kernel
theorem dX12_back_39 : decode cX12_back 39 = .ok (.putfield 152, 3) := by decide +kernel
theorem dX12_back_42 : decode cX12_back 42 = .ok (.aload_n 0, 1) := by decide +kernel
theorem dX12_back_43 : decode cX12_back 43 = .ok (.aload_n 0, 1) := by decide +kernel
theorem dX12_back_44 : decode cX12_back 44 = .ok (.getfield 55, 3) := by decide +kernel
theorem dX12_back_47 : decode cX12_back 47 = .ok (.iload_n 2, 1) := by decide +kernel
theorem dX12_back_48 : decode cX12_back 48 = .ok (.iconst 2, 1) := by decide +kernel
theorem dX12_back_49 : decode cX12_back 49 = .ok (.iadd, 1) := by decide +kernel
theorem dX12_back_50 : decode cX12_back 50 = .ok (.iaload, 1) := by decide +kernel
theorem dX12_back_51 : decode cX12_back 51 = .ok (.putfield 155, 3) := by decide +kernel
theorem dX12_back_54 : decode cX12_back 54 = .ok (.iconst 0, 1) := by decide +kernel
theorem dX12_back_55 : decode cX12_back 55 = .ok (.istore_n 3, 1) := by decide +kernel
theorem dX12_back_56 : decode cX12_back 56 = .ok (.iload_n 3, 1) := by decide +kernel
theorem dX12_back_57 : decode cX12_back 57 = .ok (.bipush 28, 2) := by decide +kernel
theorem dX12_back_59 : decode cX12_back 59 = .ok (.if_icmp .ge 25, 3) := by decide +kernel
theorem dX12_back_62 : decode cX12_back 62 = .ok (.aload_n 0, 1) := by decide +kernel
theorem dX12_back_63 : decode cX12_back 63 = .ok (.getfield 31, 3) := by decide +kernel
theorem dX12_back_66 : decode cX12_back 66 = .ok (.iload_n 3, 1) := by decide +kernel
theorem dX12_back_67 : decode cX12_back 67 = .ok (.aload_n 0, 1) := by decide +kernel
theorem dX12_back_68 : decode cX12_back 68 = .ok (.getfield 55, 3) := by decide +kernel
theorem dX12_back_71 : decode cX12_back 71 = .ok (.iload_n 2, 1) := by decide +kernel
theorem dX12_back_72 : decode cX12_back 72 = .ok (.iconst 3, 1) := by decide +kernel
theorem dX12_back_73 : decode cX12_back 73 = .ok (.iadd, 1) := by decide +kernel
theorem dX12_back_74 : decode cX12_back 74 = .ok (.iload_n 3, 1) := by decide +kernel
theorem dX12_back_75 : decode cX12_back 75 = .ok (.iadd, 1) := by decide +kernel
theorem dX12_back_76 : decode cX12_back 76 = .ok (.iaload, 1) := by decide +kernel
theorem dX12_back_77 : decode cX12_back 77 = .ok (.iastore, 1) := by decide +kernel
theorem dX12_back_78 : decode cX12_back 78 = .ok (.iinc 3 1, 3) := by decide +kernel
theorem dX12_back_81 : decode cX12_back 81 = .ok (.goto (-25), 3) := by decide +kernel
theorem dX12_back_84 : decode cX12_back 84 = .ok (.iconst 0, 1) := by decide +kernel
theorem dX12_back_85 : decode cX12_back 85 = .ok (.istore_n 3, 1) := by decide +kernel
theorem dX12_back_86 : decode cX12_back 86 = .ok (.iload_n 3, 1) := by decide +kernel
theorem dX12_back_87 : decode cX12_back 87 = .ok (.sipush 290, 3) := by decide +kernel
theorem dX12_back_90 : decode cX12_back 90 = .ok (.if_icmp .ge 26, 3) := by decide +kernel
theorem dX12_back_93 : decode cX12_back 93 = .ok (.aload_n 0, 1) := by decide +kernel
theorem dX12_back_94 : decode cX12_back 94 = .ok (.getfield 37, 3) := by decide +kernel
theorem dX12_back_97 : decode cX12_back 97 = .ok (.iload_n 3, 1) := by decide +kernel
theorem dX12_back_98 : decode cX12_back 98 = .ok (.aload_n 0, 1) := by decide +kernel
theorem dX12_back_99 : decode cX12_back 99 = .ok (.getfield 55, 3) := by decide +kernel
theorem dX12_back_102 : decode cX12_back 102 = .ok (.iload_n 2, 1) := by decide +kernel
theorem dX12_back_103 : decode cX12_back 103 = .ok (.bipush 31, 2) := by decide +kernel
theorem dX12_back_105 : decode cX12_back 105 = .ok (.iadd, 1) := by decide +kernel
theorem dX12_back_106 : decode cX12_back 106 = .ok (.iload_n 3, 1) := by decide +kernel
theorem dX12_back_107 : decode cX12_back 107 = .ok (.iadd, 1) := by decide +kernel
theorem dX12_back_108 : decode cX12_back 108 = .ok (.iaload, 1) := by decide +kernel
theorem dX12_back_109 : decode cX12_back 109 = .ok (.iastore, 1) := by decide +kernel
theorem dX12_back_110 : decode cX12_back 110 = .ok (.iinc 3 1, 3) := by decide +kernel
theorem dX12_back_113 : decode cX12_back 113 = .ok (.goto (-27), 3) := by decide +kernel
theorem dX12_back_116 : decode cX12_back 116 = .ok (.aload_n 0, 1) := by decide +kernel
theorem dX12_back_117 : decode cX12_back 117 = .ok (.getfield 31, 3) := by decide +kernel
theorem dX12_back_120 : decode cX12_back 120 = .ok (.iconst 0, 1) := by decide +kernel
theorem dX12_back_121 : decode cX12_back 121 = .ok (.iaload, 1) := by decide +kernel
theorem dX12_back_122 : decode cX12_back 122 = .ok (.ireturn, 1) := by decide +kernel
theorem dX12_count_0 : decode cX12_count 0 = .ok (.iload_n 1, 1) := by decide +kernel
theorem dX12_count_1 : decode cX12_count 1 = .ok (.tableswitch 78 0 6 #[43, 48, 53, 58, 63, 68, 73], 43) := by decide +kernel
theorem dX12_count_44 : decode cX12_count 44 = .ok (.aload_n 0, 1) := by decide +kernel
theorem dX12_count_45 : decode cX12_count 45 = .ok (.getfield 137, 3) := by decide +kernel
theorem dX12_count_48 : decode cX12_count 48 = .ok (.ireturn, 1) := by decide +kernel
theorem dX12_count_49 : decode cX12_count 49 = .ok (.aload_n 0, 1) := by decide +kernel
theorem dX12_count_50 : decode cX12_count 50 = .ok (.getfield 140, 3) := by decide +kernel
theorem dX12_count_53 : decode cX12_count 53 = .ok (.ireturn, 1) := by decide +kernel
theorem dX12_count_54 : decode cX12_count 54 = .ok (.aload_n 0, 1) := by decide +kernel
theorem dX12_count_55 : decode cX12_count 55 = .ok (.getfield 143, 3) := by decide +kernel
theorem dX12_count_58 : decode cX12_count 58 = .ok (.ireturn, 1) := by decide +kernel
theorem dX12_count_59 : decode cX12_count 59 = .ok (.aload_n 0, 1) := by decide +kernel
theorem dX12_count_60 : decode cX12_count 60 = .ok (.getfield 146, 3) := by decide +kernel
theorem dX12_count_63 : decode cX12_count 63 = .ok (.ireturn, 1) := by decide +kernel
theorem dX12_count_64 : decode cX12_count 64 = .ok (.aload_n 0, 1) := by decide +kernel
theorem dX12_count_65 : decode cX12_count 65 = .ok (.getfield 158, 3) := by decide +kernel
theorem dX12_count_68 : decode cX12_count 68 = .ok (.ireturn, 1) := by decide +kernel
theorem dX12_count_69 : decode cX12_count 69 = .ok (.aload_n 0, 1) := by decide +kernel
theorem dX12_count_70 : decode cX12_count 70 = .ok (.getfield 155, 3) := by decide +kernel
theorem dX12_count_73 : decode cX12_count 73 = .ok (.ireturn, 1) := by decide +kernel
theorem dX12_count_74 : decode cX12_count 74 = .ok (.aload_n 0, 1) := by decide +kernel
theorem dX12_count_75 : decode cX12_count 75 = .ok (.getfield 67, 3) := by decide +kernel
theorem dX12_count_78 : decode cX12_count 78 = .ok (.ireturn, 1) := by decide +kernel
theorem dX12_count_79 : decode cX12_count 79 = .ok (.iconst (-1), 1) := by decide +kernel
theorem dX12_count_80 : decode cX12_count 80 = .ok (.ireturn, 1) := by decide +kernel
end
section
theorem dL_law_0 : decode cL_law 0 = .ok (.new 7, 3) := by decide +kernel
theorem dL_law_3 : decode cL_law 3 = .ok (.dup, 1) := by decide +kernel
theorem dL_law_4 : decode cL_law 4 = .ok (.invokespecial 9, 3) := by decide +kernel
theorem dL_law_7 : decode cL_law 7 = .ok (.astore_n 1, 1) := by decide +kernel
theorem dL_law_8 : decode cL_law 8 = .ok (.new 10, 3) := by decide +kernel
theorem dL_law_11 : decode cL_law 11 = .ok (.dup, 1) := by decide +kernel
theorem dL_law_12 : decode cL_law 12 = .ok (.invokespecial 12, 3) := by decide +kernel
theorem dL_law_15 : decode cL_law 15 = .ok (.astore_n 2, 1) := by decide +kernel
theorem dL_law_16 : decode cL_law 16 = .ok (.iconst 0, 1) := by decide +kernel
theorem dL_law_17 : decode cL_law 17 = .ok (.istore_n 3, 1) := by decide +kernel
theorem dL_law_18 : decode cL_law 18 = .ok (.iload_n 3, 1) := by decide +kernel
theorem dL_law_19 : decode cL_law 19 = .ok (.aload_n 0, 1) := by decide +kernel
theorem dL_law_20 : decode cL_law 20 = .ok (.arraylength, 1) := by decide +kernel
theorem dL_law_21 : decode cL_law 21 = .ok (.iconst 4, 1) := by decide +kernel
theorem dL_law_22 : decode cL_law 22 = .ok (.isub, 1) := by decide +kernel
theorem dL_law_23 : decode cL_law 23 = .ok (.if_icmp .gt 759, 3) := by decide +kernel
theorem dL_law_26 : decode cL_law 26 = .ok (.aload_n 0, 1) := by decide +kernel
theorem dL_law_27 : decode cL_law 27 = .ok (.iload_n 3, 1) := by decide +kernel
theorem dL_law_28 : decode cL_law 28 = .ok (.iaload, 1) := by decide +kernel
theorem dL_law_29 : decode cL_law 29 = .ok (.bipush 31, 2) := by decide +kernel
theorem dL_law_31 : decode cL_law 31 = .ok (.iand, 1) := by decide +kernel
theorem dL_law_32 : decode cL_law 32 = .ok (.tableswitch 744 0 27 #[128, 151, 164, 177, 210, 233, 256, 269, 282, 295, 308, 331, 344, 367, 390, 423, 456, 479, 492, 525, 538, 561, 584, 628, 661, 684, 707, 730], 128) := by decide +kernel
theorem dL_law_160 : decode cL_law 160 = .ok (.aload_n 1, 1) := by decide +kernel
theorem dL_law_161 : decode cL_law 161 = .ok (.aload_n 0, 1) := by decide +kernel
theorem dL_law_162 : decode cL_law 162 = .ok (.iload_n 3, 1) := by decide +kernel
theorem dL_law_163 : decode cL_law 163 = .ok (.iconst 1, 1) := by decide +kernel
theorem dL_law_164 : decode cL_law 164 = .ok (.iadd, 1) := by decide +kernel
theorem dL_law_165 : decode cL_law 165 = .ok (.iaload, 1) := by decide +kernel
theorem dL_law_166 : decode cL_law 166 = .ok (.invokevirtual 13, 3) := by decide +kernel
theorem dL_law_169 : decode cL_law 169 = .ok (.aload_n 2, 1) := by decide +kernel
theorem dL_law_170 : decode cL_law 170 = .ok (.aload_n 0, 1) := by decide +kernel
theorem dL_law_171 : decode cL_law 171 = .ok (.iload_n 3, 1) := by decide +kernel
theorem dL_law_172 : decode cL_law 172 = .ok (.iconst 1, 1) := by decide +kernel
theorem dL_law_173 : decode cL_law 173 = .ok (.iadd, 1) := by decide +kernel
theorem dL_law_174 : decode cL_law 174 = .ok (.iaload, 1) := by decide +kernel
theorem dL_law_175 : decode cL_law 175 = .ok (.invokevirtual 17, 3) := by decide +kernel
theorem dL_law_178 : decode cL_law 178 = .ok (.if_icmp .eq 598, 3) := by decide +kernel
theorem dL_law_181 : decode cL_law 181 = .ok (.iconst 0, 1) := by decide +kernel
theorem dL_law_182 : decode cL_law 182 = .ok (.ireturn, 1) := by decide +kernel
theorem dL_law_183 : decode cL_law 183 = .ok (.aload_n 1, 1) := by decide +kernel
theorem dL_law_184 : decode cL_law 184 = .ok (.invokevirtual 18, 3) := by decide +kernel
theorem dL_law_187 : decode cL_law 187 = .ok (.aload_n 2, 1) := by decide +kernel
theorem dL_law_188 : decode cL_law 188 = .ok (.invokevirtual 22, 3) := by decide +kernel
theorem dL_law_191 : decode cL_law 191 = .ok (.if_icmp .eq 585, 3) := by decide +kernel
theorem dL_law_194 : decode cL_law 194 = .ok (.iconst 0, 1) := by decide +kernel
theorem dL_law_195 : decode cL_law 195 = .ok (.ireturn, 1) := by decide +kernel
theorem dL_law_196 : decode cL_law 196 = .ok (.aload_n 1, 1) := by decide +kernel
theorem dL_law_197 : decode cL_law 197 = .ok (.invokevirtual 23, 3) := by decide +kernel
theorem dL_law_200 : decode cL_law 200 = .ok (.aload_n 2, 1) := by decide +kernel
theorem dL_law_201 : decode cL_law 201 = .ok (.invokevirtual 26, 3) := by decide +kernel
theorem dL_law_204 : decode cL_law 204 = .ok (.if_icmp .eq 572, 3) := by decide +kernel
theorem dL_law_207 : decode cL_law 207 = .ok (.iconst 0, 1) := by decide +kernel
theorem dL_law_208 : decode cL_law 208 = .ok (.ireturn, 1) := by decide +kernel
theorem dL_law_209 : decode cL_law 209 = .ok (.aload_n 1, 1) := by decide +kernel
theorem dL_law_210 : decode cL_law 210 = .ok (.aload_n 0, 1) := by decide +kernel
theorem dL_law_211 : decode cL_law 211 = .ok (.iload_n 3, 1) := by decide +kernel
theorem dL_law_212 : decode cL_law 212 = .ok (.iconst 1, 1) := by decide +kernel
theorem dL_law_213 : decode cL_law 213 = .ok (.iadd, 1) := by decide +kernel
theorem dL_law_214 : decode cL_law 214 = .ok (.iaload, 1) := by decide +kernel
theorem dL_law_215 : decode cL_law 215 = .ok (.aload_n 0, 1) := by decide +kernel
theorem dL_law_216 : decode cL_law 216 = .ok (.iload_n 3, 1) := by decide +kernel
theorem dL_law_217 : decode cL_law 217 = .ok (.iconst 2, 1) := by decide +kernel
theorem dL_law_218 : decode cL_law 218 = .ok (.iadd, 1) := by decide +kernel
theorem dL_law_219 : decode cL_law 219 = .ok (.iaload, 1) := by decide +kernel
theorem dL_law_220 : decode cL_law 220 = .ok (.invokevirtual 27, 3) := by decide +kernel
theorem dL_law_223 : decode cL_law 223 = .ok (.aload_n 2, 1) := by decide +kernel
theorem dL_law_224 : decode cL_law 224 = .ok (.aload_n 0, 1) := by decide +kernel
theorem dL_law_225 : decode cL_law 225 = .ok (.iload_n 3, 1) := by decide +kernel
theorem dL_law_226 : decode cL_law 226 = .ok (.iconst 1, 1) := by decide +kernel
theorem dL_law_227 : decode cL_law 227 = .ok (.iadd, 1) := by decide +kernel
theorem dL_law_228 : decode cL_law 228 = .ok (.iaload, 1) := by decide +kernel
theorem dL_law_229 : decode cL_law 229 = .ok (.aload_n 0, 1) := by decide +kernel
theorem dL_law_230 : decode cL_law 230 = .ok (.iload_n 3, 1) := by decide +kernel
theorem dL_law_231 : decode cL_law 231 = .ok (.iconst 2, 1) := by decide +kernel
theorem dL_law_232 : decode cL_law 232 = .ok (.iadd, 1) := by decide +kernel
theorem dL_law_233 : decode cL_law 233 = .ok (.iaload, 1) := by decide +kernel
theorem dL_law_234 : decode cL_law 234 = .ok (.invokevirtual 31, 3) := by decide +kernel
theorem dL_law_237 : decode cL_law 237 = .ok (.if_icmp .eq 539, 3) := by decide +kernel
theorem dL_law_240 : decode cL_law 240 = .ok (.iconst 0, 1) := by decide +kernel
theorem dL_law_241 : decode cL_law 241 = .ok (.ireturn, 1) := by decide +kernel
theorem dL_law_242 : decode cL_law 242 = .ok (.aload_n 1, 1) := by decide +kernel
theorem dL_law_243 : decode cL_law 243 = .ok (.aload_n 0, 1) := by decide +kernel
theorem dL_law_244 : decode cL_law 244 = .ok (.iload_n 3, 1) := by decide +kernel
theorem dL_law_245 : decode cL_law 245 = .ok (.iconst 1, 1) := by decide +kernel
theorem dL_law_246 : decode cL_law 246 = .ok (.iadd, 1) := by decide +kernel
theorem dL_law_247 : decode cL_law 247 = .ok (.iaload, 1) := by decide +kernel
theorem dL_law_248 : decode cL_law 248 = .ok (.invokevirtual 32, 3) := by decide +kernel
theorem dL_law_251 : decode cL_law 251 = .ok (.aload_n 2, 1) := by decide +kernel
theorem dL_law_252 : decode cL_law 252 = .ok (.aload_n 0, 1) := by decide +kernel
theorem dL_law_253 : decode cL_law 253 = .ok (.iload_n 3, 1) := by decide +kernel
theorem dL_law_254 : decode cL_law 254 = .ok (.iconst 1, 1) := by decide +kernel
theorem dL_law_255 : decode cL_law 255 = .ok (.iadd, 1) := by decide +kernel
theorem dL_law_256 : decode cL_law 256 = .ok (.iaload, 1) := by decide +kernel
theorem dL_law_257 : decode cL_law 257 = .ok (.invokevirtual 35, 3) := by decide +kernel
theorem dL_law_260 : decode cL_law 260 = .ok (.if_icmp .eq 516, 3) := by decide +kernel
theorem dL_law_263 : decode cL_law 263 = .ok (.iconst 0, 1) := by decide +kernel
theorem dL_law_264 : decode cL_law 264 = .ok (.ireturn, 1) := by decide +kernel
theorem dL_law_265 : decode cL_law 265 = .ok (.aload_n 1, 1) := by decide +kernel
theorem dL_law_266 : decode cL_law 266 = .ok (.aload_n 0, 1) := by decide +kernel
theorem dL_law_267 : decode cL_law 267 = .ok (.iload_n 3, 1) := by decide +kernel
theorem dL_law_268 : decode cL_law 268 = .ok (.iconst 1, 1) := by decide +kernel
theorem dL_law_269 : decode cL_law 269 = .ok (.iadd, 1) := by decide +kernel
theorem dL_law_270 : decode cL_law 270 = .ok (.iaload, 1) := by decide +kernel
theorem dL_law_271 : decode cL_law 271 = .ok (.invokevirtual 36, 3) := by decide +kernel
theorem dL_law_274 : decode cL_law 274 = .ok (.aload_n 2, 1) := by decide +kernel
theorem dL_law_275 : decode cL_law 275 = .ok (.aload_n 0, 1) := by decide +kernel
theorem dL_law_276 : decode cL_law 276 = .ok (.iload_n 3, 1) := by decide +kernel
theorem dL_law_277 : decode cL_law 277 = .ok (.iconst 1, 1) := by decide +kernel
theorem dL_law_278 : decode cL_law 278 = .ok (.iadd, 1) := by decide +kernel
theorem dL_law_279 : decode cL_law 279 = .ok (.iaload, 1) := by decide +kernel
theorem dL_law_280 : decode cL_law 280 = .ok (.invokevirtual 39, 3) := by decide +kernel
theorem dL_law_283 : decode cL_law 283 = .ok (.if_icmp .eq 493, 3) := by decide +kernel
theorem dL_law_286 : decode cL_law 286 = .ok (.iconst 0, 1) := by decide +kernel
theorem dL_law_287 : decode cL_law 287 = .ok (.ireturn, 1) := by decide +kernel
theorem dL_law_288 : decode cL_law 288 = .ok (.aload_n 1, 1) := by decide +kernel
theorem dL_law_289 : decode cL_law 289 = .ok (.invokevirtual 40, 3) := by decide +kernel
theorem dL_law_292 : decode cL_law 292 = .ok (.aload_n 2, 1) := by decide +kernel
theorem dL_law_293 : decode cL_law 293 = .ok (.invokevirtual 43, 3) := by decide +kernel
theorem dL_law_296 : decode cL_law 296 = .ok (.if_icmp .eq 480, 3) := by decide +kernel
theorem dL_law_299 : decode cL_law 299 = .ok (.iconst 0, 1) := by decide +kernel
theorem dL_law_300 : decode cL_law 300 = .ok (.ireturn, 1) := by decide +kernel
theorem dL_law_301 : decode cL_law 301 = .ok (.aload_n 1, 1) := by decide +kernel
theorem dL_law_302 : decode cL_law 302 = .ok (.invokevirtual 44, 3) := by decide +kernel
theorem dL_law_305 : decode cL_law 305 = .ok (.aload_n 2, 1) := by decide +kernel
theorem dL_law_306 : decode cL_law 306 = .ok (.invokevirtual 47, 3) := by decide +kernel
theorem dL_law_309 : decode cL_law 309 = .ok (.if_icmp .eq 467, 3) := by decide +kernel
theorem dL_law_312 : decode cL_law 312 = .ok (.iconst 0, 1) := by decide +kernel
theorem dL_law_313 : decode cL_law 313 = .ok (.ireturn, 1) := by decide +kernel
theorem dL_law_314 : decode cL_law 314 = .ok (.aload_n 1, 1) := by decide +kernel
theorem dL_law_315 : decode cL_law 315 = .ok (.invokevirtual 48, 3) := by decide +kernel
theorem dL_law_318 : decode cL_law 318 = .ok (.aload_n 2, 1) := by decide +kernel
theorem dL_law_319 : decode cL_law 319 = .ok (.invokevirtual 51, 3) := by decide +kernel
theorem dL_law_322 : decode cL_law 322 = .ok (.if_icmp .eq 454, 3) := by decide +kernel
theorem dL_law_325 : decode cL_law 325 = .ok (.iconst 0, 1) := by decide +kernel
theorem dL_law_326 : decode cL_law 326 = .ok (.ireturn, 1) := by decide +kernel
theorem dL_law_327 : decode cL_law 327 = .ok (.aload_n 1, 1) := by decide +kernel
theorem dL_law_328 : decode cL_law 328 = .ok (.invokevirtual 52, 3) := by decide +kernel
theorem dL_law_331 : decode cL_law 331 = .ok (.aload_n 2, 1) := by decide +kernel
theorem dL_law_332 : decode cL_law 332 = .ok (.invokevirtual 55, 3) := by decide +kernel
theorem dL_law_335 : decode cL_law 335 = .ok (.if_icmp .eq 441, 3) := by decide +kernel
theorem dL_law_338 : decode cL_law 338 = .ok (.iconst 0, 1) := by decide +kernel
theorem dL_law_339 : decode cL_law 339 = .ok (.ireturn, 1) := by decide +kernel
theorem dL_law_340 : decode cL_law 340 = .ok (.aload_n 1, 1) := by decide +kernel
theorem dL_law_341 : decode cL_law 341 = .ok (.aload_n 0, 1) := by decide +kernel
theorem dL_law_342 : decode cL_law 342 = .ok (.iload_n 3, 1) := by decide +kernel
theorem dL_law_343 : decode cL_law 343 = .ok (.iconst 1, 1) := by decide +kernel
theorem dL_law_344 : decode cL_law 344 = .ok (.iadd, 1) := by decide +kernel
theorem dL_law_345 : decode cL_law 345 = .ok (.iaload, 1) := by decide +kernel
theorem dL_law_346 : decode cL_law 346 = .ok (.invokevirtual 56, 3) := by decide +kernel
theorem dL_law_349 : decode cL_law 349 = .ok (.aload_n 2, 1) := by decide +kernel
theorem dL_law_350 : decode cL_law 350 = .ok (.aload_n 0, 1) := by decide +kernel
theorem dL_law_351 : decode cL_law 351 = .ok (.iload_n 3, 1) := by decide +kernel
theorem dL_law_352 : decode cL_law 352 = .ok (.iconst 1, 1) := by decide +kernel
theorem dL_law_353 : decode cL_law 353 = .ok (.iadd, 1) := by decide +kernel
theorem dL_law_354 : decode cL_law 354 = .ok (.iaload, 1) := by decide +kernel
theorem dL_law_355 : decode cL_law 355 = .ok (.invokevirtual 59, 3) := by decide +kernel
theorem dL_law_358 : decode cL_law 358 = .ok (.if_icmp .eq 418, 3) := by decide +kernel
theorem dL_law_361 : decode cL_law 361 = .ok (.iconst 0, 1) := by decide +kernel
theorem dL_law_362 : decode cL_law 362 = .ok (.ireturn, 1) := by decide +kernel
theorem dL_law_363 : decode cL_law 363 = .ok (.aload_n 1, 1) := by decide +kernel
theorem dL_law_364 : decode cL_law 364 = .ok (.invokevirtual 60, 3) := by decide +kernel
theorem dL_law_367 : decode cL_law 367 = .ok (.aload_n 2, 1) := by decide +kernel
theorem dL_law_368 : decode cL_law 368 = .ok (.invokevirtual 63, 3) := by decide +kernel
theorem dL_law_371 : decode cL_law 371 = .ok (.if_icmp .eq 405, 3) := by decide +kernel
theorem dL_law_374 : decode cL_law 374 = .ok (.iconst 0, 1) := by decide +kernel
theorem dL_law_375 : decode cL_law 375 = .ok (.ireturn, 1) := by decide +kernel
theorem dL_law_376 : decode cL_law 376 = .ok (.aload_n 1, 1) := by decide +kernel
theorem dL_law_377 : decode cL_law 377 = .ok (.aload_n 0, 1) := by decide +kernel
theorem dL_law_378 : decode cL_law 378 = .ok (.iload_n 3, 1) := by decide +kernel
theorem dL_law_379 : decode cL_law 379 = .ok (.iconst 1, 1) := by decide +kernel
theorem dL_law_380 : decode cL_law 380 = .ok (.iadd, 1) := by decide +kernel
theorem dL_law_381 : decode cL_law 381 = .ok (.iaload, 1) := by decide +kernel
theorem dL_law_382 : decode cL_law 382 = .ok (.invokevirtual 64, 3) := by decide +kernel
theorem dL_law_385 : decode cL_law 385 = .ok (.aload_n 2, 1) := by decide +kernel
theorem dL_law_386 : decode cL_law 386 = .ok (.aload_n 0, 1) := by decide +kernel
theorem dL_law_387 : decode cL_law 387 = .ok (.iload_n 3, 1) := by decide +kernel
theorem dL_law_388 : decode cL_law 388 = .ok (.iconst 1, 1) := by decide +kernel
theorem dL_law_389 : decode cL_law 389 = .ok (.iadd, 1) := by decide +kernel
theorem dL_law_390 : decode cL_law 390 = .ok (.iaload, 1) := by decide +kernel
theorem dL_law_391 : decode cL_law 391 = .ok (.invokevirtual 67, 3) := by decide +kernel
theorem dL_law_394 : decode cL_law 394 = .ok (.if_icmp .eq 382, 3) := by decide +kernel
theorem dL_law_397 : decode cL_law 397 = .ok (.iconst 0, 1) := by decide +kernel
theorem dL_law_398 : decode cL_law 398 = .ok (.ireturn, 1) := by decide +kernel
theorem dL_law_399 : decode cL_law 399 = .ok (.aload_n 1, 1) := by decide +kernel
theorem dL_law_400 : decode cL_law 400 = .ok (.aload_n 0, 1) := by decide +kernel
theorem dL_law_401 : decode cL_law 401 = .ok (.iload_n 3, 1) := by decide +kernel
theorem dL_law_402 : decode cL_law 402 = .ok (.iconst 1, 1) := by decide +kernel
theorem dL_law_403 : decode cL_law 403 = .ok (.iadd, 1) := by decide +kernel
theorem dL_law_404 : decode cL_law 404 = .ok (.iaload, 1) := by decide +kernel
theorem dL_law_405 : decode cL_law 405 = .ok (.invokevirtual 68, 3) := by decide +kernel
theorem dL_law_408 : decode cL_law 408 = .ok (.aload_n 2, 1) := by decide +kernel
theorem dL_law_409 : decode cL_law 409 = .ok (.aload_n 0, 1) := by decide +kernel
theorem dL_law_410 : decode cL_law 410 = .ok (.iload_n 3, 1) := by decide +kernel
theorem dL_law_411 : decode cL_law 411 = .ok (.iconst 1, 1) := by decide +kernel
theorem dL_law_412 : decode cL_law 412 = .ok (.iadd, 1) := by decide +kernel
theorem dL_law_413 : decode cL_law 413 = .ok (.iaload, 1) := by decide +kernel
theorem dL_law_414 : decode cL_law 414 = .ok (.invokevirtual 71, 3) := by decide +kernel
theorem dL_law_417 : decode cL_law 417 = .ok (.if_icmp .eq 359, 3) := by decide +kernel
theorem dL_law_420 : decode cL_law 420 = .ok (.iconst 0, 1) := by decide +kernel
theorem dL_law_421 : decode cL_law 421 = .ok (.ireturn, 1) := by decide +kernel
theorem dL_law_422 : decode cL_law 422 = .ok (.aload_n 1, 1) := by decide +kernel
theorem dL_law_423 : decode cL_law 423 = .ok (.aload_n 0, 1) := by decide +kernel
theorem dL_law_424 : decode cL_law 424 = .ok (.iload_n 3, 1) := by decide +kernel
theorem dL_law_425 : decode cL_law 425 = .ok (.iconst 1, 1) := by decide +kernel
theorem dL_law_426 : decode cL_law 426 = .ok (.iadd, 1) := by decide +kernel
theorem dL_law_427 : decode cL_law 427 = .ok (.iaload, 1) := by decide +kernel
theorem dL_law_428 : decode cL_law 428 = .ok (.aload_n 0, 1) := by decide +kernel
theorem dL_law_429 : decode cL_law 429 = .ok (.iload_n 3, 1) := by decide +kernel
theorem dL_law_430 : decode cL_law 430 = .ok (.iconst 2, 1) := by decide +kernel
theorem dL_law_431 : decode cL_law 431 = .ok (.iadd, 1) := by decide +kernel
theorem dL_law_432 : decode cL_law 432 = .ok (.iaload, 1) := by decide +kernel
theorem dL_law_433 : decode cL_law 433 = .ok (.invokevirtual 72, 3) := by decide +kernel
theorem dL_law_436 : decode cL_law 436 = .ok (.aload_n 2, 1) := by decide +kernel
theorem dL_law_437 : decode cL_law 437 = .ok (.aload_n 0, 1) := by decide +kernel
theorem dL_law_438 : decode cL_law 438 = .ok (.iload_n 3, 1) := by decide +kernel
theorem dL_law_439 : decode cL_law 439 = .ok (.iconst 1, 1) := by decide +kernel
theorem dL_law_440 : decode cL_law 440 = .ok (.iadd, 1) := by decide +kernel
theorem dL_law_441 : decode cL_law 441 = .ok (.iaload, 1) := by decide +kernel
theorem dL_law_442 : decode cL_law 442 = .ok (.aload_n 0, 1) := by decide +kernel
theorem dL_law_443 : decode cL_law 443 = .ok (.iload_n 3, 1) := by decide +kernel
theorem dL_law_444 : decode cL_law 444 = .ok (.iconst 2, 1) := by decide +kernel
theorem dL_law_445 : decode cL_law 445 = .ok (.iadd, 1) := by decide +kernel
theorem dL_law_446 : decode cL_law 446 = .ok (.iaload, 1) := by decide +kernel
theorem dL_law_447 : decode cL_law 447 = .ok (.invokevirtual 75, 3) := by decide +kernel
theorem dL_law_450 : decode cL_law 450 = .ok (.if_icmp .eq 326, 3) := by decide +kernel
theorem dL_law_453 : decode cL_law 453 = .ok (.iconst 0, 1) := by decide +kernel
theorem dL_law_454 : decode cL_law 454 = .ok (.ireturn, 1) := by decide +kernel
theorem dL_law_455 : decode cL_law 455 = .ok (.aload_n 1, 1) := by decide +kernel
theorem dL_law_456 : decode cL_law 456 = .ok (.aload_n 0, 1) := by decide +kernel
theorem dL_law_457 : decode cL_law 457 = .ok (.iload_n 3, 1) := by decide +kernel
theorem dL_law_458 : decode cL_law 458 = .ok (.iconst 1, 1) := by decide +kernel
theorem dL_law_459 : decode cL_law 459 = .ok (.iadd, 1) := by decide +kernel
theorem dL_law_460 : decode cL_law 460 = .ok (.iaload, 1) := by decide +kernel
theorem dL_law_461 : decode cL_law 461 = .ok (.aload_n 0, 1) := by decide +kernel
theorem dL_law_462 : decode cL_law 462 = .ok (.iload_n 3, 1) := by decide +kernel
theorem dL_law_463 : decode cL_law 463 = .ok (.iconst 2, 1) := by decide +kernel
theorem dL_law_464 : decode cL_law 464 = .ok (.iadd, 1) := by decide +kernel
theorem dL_law_465 : decode cL_law 465 = .ok (.iaload, 1) := by decide +kernel
theorem dL_law_466 : decode cL_law 466 = .ok (.invokevirtual 76, 3) := by decide +kernel
theorem dL_law_469 : decode cL_law 469 = .ok (.aload_n 2, 1) := by decide +kernel
theorem dL_law_470 : decode cL_law 470 = .ok (.aload_n 0, 1) := by decide +kernel
theorem dL_law_471 : decode cL_law 471 = .ok (.iload_n 3, 1) := by decide +kernel
theorem dL_law_472 : decode cL_law 472 = .ok (.iconst 1, 1) := by decide +kernel
theorem dL_law_473 : decode cL_law 473 = .ok (.iadd, 1) := by decide +kernel
theorem dL_law_474 : decode cL_law 474 = .ok (.iaload, 1) := by decide +kernel
theorem dL_law_475 : decode cL_law 475 = .ok (.aload_n 0, 1) := by decide +kernel
theorem dL_law_476 : decode cL_law 476 = .ok (.iload_n 3, 1) := by decide +kernel
theorem dL_law_477 : decode cL_law 477 = .ok (.iconst 2, 1) := by decide +kernel
theorem dL_law_478 : decode cL_law 478 = .ok (.iadd, 1) := by decide +kernel
theorem dL_law_479 : decode cL_law 479 = .ok (.iaload, 1) := by decide +kernel
theorem dL_law_480 : decode cL_law 480 = .ok (.invokevirtual 79, 3) := by decide +kernel
theorem dL_law_483 : decode cL_law 483 = .ok (.if_icmp .eq 293, 3) := by decide +kernel
theorem dL_law_486 : decode cL_law 486 = .ok (.iconst 0, 1) := by decide +kernel
theorem dL_law_487 : decode cL_law 487 = .ok (.ireturn, 1) := by decide +kernel
theorem dL_law_488 : decode cL_law 488 = .ok (.aload_n 1, 1) := by decide +kernel
theorem dL_law_489 : decode cL_law 489 = .ok (.aload_n 0, 1) := by decide +kernel
theorem dL_law_490 : decode cL_law 490 = .ok (.iload_n 3, 1) := by decide +kernel
theorem dL_law_491 : decode cL_law 491 = .ok (.iconst 1, 1) := by decide +kernel
theorem dL_law_492 : decode cL_law 492 = .ok (.iadd, 1) := by decide +kernel
theorem dL_law_493 : decode cL_law 493 = .ok (.iaload, 1) := by decide +kernel
theorem dL_law_494 : decode cL_law 494 = .ok (.invokevirtual 80, 3) := by decide +kernel
theorem dL_law_497 : decode cL_law 497 = .ok (.aload_n 2, 1) := by decide +kernel
theorem dL_law_498 : decode cL_law 498 = .ok (.aload_n 0, 1) := by decide +kernel
theorem dL_law_499 : decode cL_law 499 = .ok (.iload_n 3, 1) := by decide +kernel
theorem dL_law_500 : decode cL_law 500 = .ok (.iconst 1, 1) := by decide +kernel
theorem dL_law_501 : decode cL_law 501 = .ok (.iadd, 1) := by decide +kernel
theorem dL_law_502 : decode cL_law 502 = .ok (.iaload, 1) := by decide +kernel
theorem dL_law_503 : decode cL_law 503 = .ok (.invokevirtual 83, 3) := by decide +kernel
theorem dL_law_506 : decode cL_law 506 = .ok (.if_icmp .eq 270, 3) := by decide +kernel
theorem dL_law_509 : decode cL_law 509 = .ok (.iconst 0, 1) := by decide +kernel
theorem dL_law_510 : decode cL_law 510 = .ok (.ireturn, 1) := by decide +kernel
theorem dL_law_511 : decode cL_law 511 = .ok (.aload_n 1, 1) := by decide +kernel
theorem dL_law_512 : decode cL_law 512 = .ok (.invokevirtual 84, 3) := by decide +kernel
theorem dL_law_515 : decode cL_law 515 = .ok (.aload_n 2, 1) := by decide +kernel
theorem dL_law_516 : decode cL_law 516 = .ok (.invokevirtual 87, 3) := by decide +kernel
theorem dL_law_519 : decode cL_law 519 = .ok (.if_icmp .eq 257, 3) := by decide +kernel
theorem dL_law_522 : decode cL_law 522 = .ok (.iconst 0, 1) := by decide +kernel
theorem dL_law_523 : decode cL_law 523 = .ok (.ireturn, 1) := by decide +kernel
theorem dL_law_524 : decode cL_law 524 = .ok (.aload_n 1, 1) := by decide +kernel
theorem dL_law_525 : decode cL_law 525 = .ok (.aload_n 0, 1) := by decide +kernel
theorem dL_law_526 : decode cL_law 526 = .ok (.iload_n 3, 1) := by decide +kernel
theorem dL_law_527 : decode cL_law 527 = .ok (.iconst 1, 1) := by decide +kernel
theorem dL_law_528 : decode cL_law 528 = .ok (.iadd, 1) := by decide +kernel
theorem dL_law_529 : decode cL_law 529 = .ok (.iaload, 1) := by decide +kernel
theorem dL_law_530 : decode cL_law 530 = .ok (.aload_n 0, 1) := by decide +kernel
theorem dL_law_531 : decode cL_law 531 = .ok (.iload_n 3, 1) := by decide +kernel
theorem dL_law_532 : decode cL_law 532 = .ok (.iconst 2, 1) := by decide +kernel
theorem dL_law_533 : decode cL_law 533 = .ok (.iadd, 1) := by decide +kernel
theorem dL_law_534 : decode cL_law 534 = .ok (.iaload, 1) := by decide +kernel
theorem dL_law_535 : decode cL_law 535 = .ok (.invokevirtual 88, 3) := by decide +kernel
theorem dL_law_538 : decode cL_law 538 = .ok (.aload_n 2, 1) := by decide +kernel
theorem dL_law_539 : decode cL_law 539 = .ok (.aload_n 0, 1) := by decide +kernel
theorem dL_law_540 : decode cL_law 540 = .ok (.iload_n 3, 1) := by decide +kernel
theorem dL_law_541 : decode cL_law 541 = .ok (.iconst 1, 1) := by decide +kernel
theorem dL_law_542 : decode cL_law 542 = .ok (.iadd, 1) := by decide +kernel
theorem dL_law_543 : decode cL_law 543 = .ok (.iaload, 1) := by decide +kernel
theorem dL_law_544 : decode cL_law 544 = .ok (.aload_n 0, 1) := by decide +kernel
theorem dL_law_545 : decode cL_law 545 = .ok (.iload_n 3, 1) := by decide +kernel
theorem dL_law_546 : decode cL_law 546 = .ok (.iconst 2, 1) := by decide +kernel
theorem dL_law_547 : decode cL_law 547 = .ok (.iadd, 1) := by decide +kernel
theorem dL_law_548 : decode cL_law 548 = .ok (.iaload, 1) := by decide +kernel
theorem dL_law_549 : decode cL_law 549 = .ok (.invokevirtual 91, 3) := by decide +kernel
theorem dL_law_552 : decode cL_law 552 = .ok (.if_icmp .eq 224, 3) := by decide +kernel
theorem dL_law_555 : decode cL_law 555 = .ok (.iconst 0, 1) := by decide +kernel
theorem dL_law_556 : decode cL_law 556 = .ok (.ireturn, 1) := by decide +kernel
theorem dL_law_557 : decode cL_law 557 = .ok (.aload_n 1, 1) := by decide +kernel
theorem dL_law_558 : decode cL_law 558 = .ok (.invokevirtual 92, 3) := by decide +kernel
theorem dL_law_561 : decode cL_law 561 = .ok (.aload_n 2, 1) := by decide +kernel
theorem dL_law_562 : decode cL_law 562 = .ok (.invokevirtual 95, 3) := by decide +kernel
theorem dL_law_565 : decode cL_law 565 = .ok (.if_icmp .eq 211, 3) := by decide +kernel
theorem dL_law_568 : decode cL_law 568 = .ok (.iconst 0, 1) := by decide +kernel
theorem dL_law_569 : decode cL_law 569 = .ok (.ireturn, 1) := by decide +kernel
theorem dL_law_570 : decode cL_law 570 = .ok (.aload_n 1, 1) := by decide +kernel
theorem dL_law_571 : decode cL_law 571 = .ok (.aload_n 0, 1) := by decide +kernel
theorem dL_law_572 : decode cL_law 572 = .ok (.iload_n 3, 1) := by decide +kernel
theorem dL_law_573 : decode cL_law 573 = .ok (.iconst 1, 1) := by decide +kernel
theorem dL_law_574 : decode cL_law 574 = .ok (.iadd, 1) := by decide +kernel
theorem dL_law_575 : decode cL_law 575 = .ok (.iaload, 1) := by decide +kernel
theorem dL_law_576 : decode cL_law 576 = .ok (.invokevirtual 96, 3) := by decide +kernel
theorem dL_law_579 : decode cL_law 579 = .ok (.aload_n 2, 1) := by decide +kernel
theorem dL_law_580 : decode cL_law 580 = .ok (.aload_n 0, 1) := by decide +kernel
theorem dL_law_581 : decode cL_law 581 = .ok (.iload_n 3, 1) := by decide +kernel
theorem dL_law_582 : decode cL_law 582 = .ok (.iconst 1, 1) := by decide +kernel
theorem dL_law_583 : decode cL_law 583 = .ok (.iadd, 1) := by decide +kernel
theorem dL_law_584 : decode cL_law 584 = .ok (.iaload, 1) := by decide +kernel
theorem dL_law_585 : decode cL_law 585 = .ok (.invokevirtual 99, 3) := by decide +kernel
theorem dL_law_588 : decode cL_law 588 = .ok (.if_icmp .eq 188, 3) := by decide +kernel
theorem dL_law_591 : decode cL_law 591 = .ok (.iconst 0, 1) := by decide +kernel
theorem dL_law_592 : decode cL_law 592 = .ok (.ireturn, 1) := by decide +kernel
theorem dL_law_593 : decode cL_law 593 = .ok (.aload_n 1, 1) := by decide +kernel
theorem dL_law_594 : decode cL_law 594 = .ok (.aload_n 0, 1) := by decide +kernel
theorem dL_law_595 : decode cL_law 595 = .ok (.iload_n 3, 1) := by decide +kernel
theorem dL_law_596 : decode cL_law 596 = .ok (.iconst 1, 1) := by decide +kernel
theorem dL_law_597 : decode cL_law 597 = .ok (.iadd, 1) := by decide +kernel
theorem dL_law_598 : decode cL_law 598 = .ok (.iaload, 1) := by decide +kernel
theorem dL_law_599 : decode cL_law 599 = .ok (.invokevirtual 100, 3) := by decide +kernel
theorem dL_law_602 : decode cL_law 602 = .ok (.aload_n 2, 1) := by decide +kernel
theorem dL_law_603 : decode cL_law 603 = .ok (.aload_n 0, 1) := by decide +kernel
theorem dL_law_604 : decode cL_law 604 = .ok (.iload_n 3, 1) := by decide +kernel
theorem dL_law_605 : decode cL_law 605 = .ok (.iconst 1, 1) := by decide +kernel
theorem dL_law_606 : decode cL_law 606 = .ok (.iadd, 1) := by decide +kernel
theorem dL_law_607 : decode cL_law 607 = .ok (.iaload, 1) := by decide +kernel
theorem dL_law_608 : decode cL_law 608 = .ok (.invokevirtual 103, 3) := by decide +kernel
theorem dL_law_611 : decode cL_law 611 = .ok (.if_icmp .eq 165, 3) := by decide +kernel
theorem dL_law_614 : decode cL_law 614 = .ok (.iconst 0, 1) := by decide +kernel
theorem dL_law_615 : decode cL_law 615 = .ok (.ireturn, 1) := by decide +kernel
theorem dL_law_616 : decode cL_law 616 = .ok (.aload_n 1, 1) := by decide +kernel
theorem dL_law_617 : decode cL_law 617 = .ok (.aload_n 0, 1) := by decide +kernel
theorem dL_law_618 : decode cL_law 618 = .ok (.iload_n 3, 1) := by decide +kernel
theorem dL_law_619 : decode cL_law 619 = .ok (.iconst 1, 1) := by decide +kernel
theorem dL_law_620 : decode cL_law 620 = .ok (.iadd, 1) := by decide +kernel
theorem dL_law_621 : decode cL_law 621 = .ok (.iaload, 1) := by decide +kernel
theorem dL_law_622 : decode cL_law 622 = .ok (.aload_n 0, 1) := by decide +kernel
theorem dL_law_623 : decode cL_law 623 = .ok (.iload_n 3, 1) := by decide +kernel
theorem dL_law_624 : decode cL_law 624 = .ok (.iconst 2, 1) := by decide +kernel
theorem dL_law_625 : decode cL_law 625 = .ok (.iadd, 1) := by decide +kernel
theorem dL_law_626 : decode cL_law 626 = .ok (.iaload, 1) := by decide +kernel
theorem dL_law_627 : decode cL_law 627 = .ok (.aload_n 0, 1) := by decide +kernel
theorem dL_law_628 : decode cL_law 628 = .ok (.iload_n 3, 1) := by decide +kernel
theorem dL_law_629 : decode cL_law 629 = .ok (.iconst 3, 1) := by decide +kernel
theorem dL_law_630 : decode cL_law 630 = .ok (.iadd, 1) := by decide +kernel
theorem dL_law_631 : decode cL_law 631 = .ok (.iaload, 1) := by decide +kernel
theorem dL_law_632 : decode cL_law 632 = .ok (.invokevirtual 104, 3) := by decide +kernel
theorem dL_law_635 : decode cL_law 635 = .ok (.aload_n 2, 1) := by decide +kernel
theorem dL_law_636 : decode cL_law 636 = .ok (.aload_n 0, 1) := by decide +kernel
theorem dL_law_637 : decode cL_law 637 = .ok (.iload_n 3, 1) := by decide +kernel
theorem dL_law_638 : decode cL_law 638 = .ok (.iconst 1, 1) := by decide +kernel
theorem dL_law_639 : decode cL_law 639 = .ok (.iadd, 1) := by decide +kernel
theorem dL_law_640 : decode cL_law 640 = .ok (.iaload, 1) := by decide +kernel
theorem dL_law_641 : decode cL_law 641 = .ok (.aload_n 0, 1) := by decide +kernel
theorem dL_law_642 : decode cL_law 642 = .ok (.iload_n 3, 1) := by decide +kernel
theorem dL_law_643 : decode cL_law 643 = .ok (.iconst 2, 1) := by decide +kernel
theorem dL_law_644 : decode cL_law 644 = .ok (.iadd, 1) := by decide +kernel
theorem dL_law_645 : decode cL_law 645 = .ok (.iaload, 1) := by decide +kernel
theorem dL_law_646 : decode cL_law 646 = .ok (.aload_n 0, 1) := by decide +kernel
theorem dL_law_647 : decode cL_law 647 = .ok (.iload_n 3, 1) := by decide +kernel
theorem dL_law_648 : decode cL_law 648 = .ok (.iconst 3, 1) := by decide +kernel
theorem dL_law_649 : decode cL_law 649 = .ok (.iadd, 1) := by decide +kernel
theorem dL_law_650 : decode cL_law 650 = .ok (.iaload, 1) := by decide +kernel
theorem dL_law_651 : decode cL_law 651 = .ok (.invokevirtual 108, 3) := by decide +kernel
theorem dL_law_654 : decode cL_law 654 = .ok (.lcmp, 1) := by decide +kernel
theorem dL_law_655 : decode cL_law 655 = .ok (.ifCond .eq 121, 3) := by decide +kernel
theorem dL_law_658 : decode cL_law 658 = .ok (.iconst 0, 1) := by decide +kernel
theorem dL_law_659 : decode cL_law 659 = .ok (.ireturn, 1) := by decide +kernel
theorem dL_law_660 : decode cL_law 660 = .ok (.aload_n 1, 1) := by decide +kernel
theorem dL_law_661 : decode cL_law 661 = .ok (.aload_n 0, 1) := by decide +kernel
theorem dL_law_662 : decode cL_law 662 = .ok (.iload_n 3, 1) := by decide +kernel
theorem dL_law_663 : decode cL_law 663 = .ok (.iconst 1, 1) := by decide +kernel
theorem dL_law_664 : decode cL_law 664 = .ok (.iadd, 1) := by decide +kernel
theorem dL_law_665 : decode cL_law 665 = .ok (.iaload, 1) := by decide +kernel
theorem dL_law_666 : decode cL_law 666 = .ok (.aload_n 0, 1) := by decide +kernel
theorem dL_law_667 : decode cL_law 667 = .ok (.iload_n 3, 1) := by decide +kernel
theorem dL_law_668 : decode cL_law 668 = .ok (.iconst 2, 1) := by decide +kernel
theorem dL_law_669 : decode cL_law 669 = .ok (.iadd, 1) := by decide +kernel
theorem dL_law_670 : decode cL_law 670 = .ok (.iaload, 1) := by decide +kernel
theorem dL_law_671 : decode cL_law 671 = .ok (.invokevirtual 109, 3) := by decide +kernel
theorem dL_law_674 : decode cL_law 674 = .ok (.aload_n 2, 1) := by decide +kernel
theorem dL_law_675 : decode cL_law 675 = .ok (.aload_n 0, 1) := by decide +kernel
theorem dL_law_676 : decode cL_law 676 = .ok (.iload_n 3, 1) := by decide +kernel
theorem dL_law_677 : decode cL_law 677 = .ok (.iconst 1, 1) := by decide +kernel
theorem dL_law_678 : decode cL_law 678 = .ok (.iadd, 1) := by decide +kernel
theorem dL_law_679 : decode cL_law 679 = .ok (.iaload, 1) := by decide +kernel
theorem dL_law_680 : decode cL_law 680 = .ok (.aload_n 0, 1) := by decide +kernel
theorem dL_law_681 : decode cL_law 681 = .ok (.iload_n 3, 1) := by decide +kernel
theorem dL_law_682 : decode cL_law 682 = .ok (.iconst 2, 1) := by decide +kernel
theorem dL_law_683 : decode cL_law 683 = .ok (.iadd, 1) := by decide +kernel
theorem dL_law_684 : decode cL_law 684 = .ok (.iaload, 1) := by decide +kernel
theorem dL_law_685 : decode cL_law 685 = .ok (.invokevirtual 112, 3) := by decide +kernel
theorem dL_law_688 : decode cL_law 688 = .ok (.if_icmp .eq 88, 3) := by decide +kernel
theorem dL_law_691 : decode cL_law 691 = .ok (.iconst 0, 1) := by decide +kernel
theorem dL_law_692 : decode cL_law 692 = .ok (.ireturn, 1) := by decide +kernel
theorem dL_law_693 : decode cL_law 693 = .ok (.aload_n 1, 1) := by decide +kernel
theorem dL_law_694 : decode cL_law 694 = .ok (.aload_n 0, 1) := by decide +kernel
theorem dL_law_695 : decode cL_law 695 = .ok (.iload_n 3, 1) := by decide +kernel
theorem dL_law_696 : decode cL_law 696 = .ok (.iconst 1, 1) := by decide +kernel
theorem dL_law_697 : decode cL_law 697 = .ok (.iadd, 1) := by decide +kernel
theorem dL_law_698 : decode cL_law 698 = .ok (.iaload, 1) := by decide +kernel
theorem dL_law_699 : decode cL_law 699 = .ok (.invokevirtual 113, 3) := by decide +kernel
theorem dL_law_702 : decode cL_law 702 = .ok (.aload_n 2, 1) := by decide +kernel
theorem dL_law_703 : decode cL_law 703 = .ok (.aload_n 0, 1) := by decide +kernel
theorem dL_law_704 : decode cL_law 704 = .ok (.iload_n 3, 1) := by decide +kernel
theorem dL_law_705 : decode cL_law 705 = .ok (.iconst 1, 1) := by decide +kernel
theorem dL_law_706 : decode cL_law 706 = .ok (.iadd, 1) := by decide +kernel
theorem dL_law_707 : decode cL_law 707 = .ok (.iaload, 1) := by decide +kernel
theorem dL_law_708 : decode cL_law 708 = .ok (.invokevirtual 116, 3) := by decide +kernel
theorem dL_law_711 : decode cL_law 711 = .ok (.if_icmp .eq 65, 3) := by decide +kernel
theorem dL_law_714 : decode cL_law 714 = .ok (.iconst 0, 1) := by decide +kernel
theorem dL_law_715 : decode cL_law 715 = .ok (.ireturn, 1) := by decide +kernel
theorem dL_law_716 : decode cL_law 716 = .ok (.aload_n 1, 1) := by decide +kernel
theorem dL_law_717 : decode cL_law 717 = .ok (.aload_n 0, 1) := by decide +kernel
theorem dL_law_718 : decode cL_law 718 = .ok (.iload_n 3, 1) := by decide +kernel
theorem dL_law_719 : decode cL_law 719 = .ok (.iconst 1, 1) := by decide +kernel
theorem dL_law_720 : decode cL_law 720 = .ok (.iadd, 1) := by decide +kernel
theorem dL_law_721 : decode cL_law 721 = .ok (.iaload, 1) := by decide +kernel
theorem dL_law_722 : decode cL_law 722 = .ok (.invokevirtual 117, 3) := by decide +kernel
theorem dL_law_725 : decode cL_law 725 = .ok (.aload_n 2, 1) := by decide +kernel
theorem dL_law_726 : decode cL_law 726 = .ok (.aload_n 0, 1) := by decide +kernel
theorem dL_law_727 : decode cL_law 727 = .ok (.iload_n 3, 1) := by decide +kernel
theorem dL_law_728 : decode cL_law 728 = .ok (.iconst 1, 1) := by decide +kernel
theorem dL_law_729 : decode cL_law 729 = .ok (.iadd, 1) := by decide +kernel
theorem dL_law_730 : decode cL_law 730 = .ok (.iaload, 1) := by decide +kernel
theorem dL_law_731 : decode cL_law 731 = .ok (.invokevirtual 120, 3) := by decide +kernel
theorem dL_law_734 : decode cL_law 734 = .ok (.if_icmp .eq 42, 3) := by decide +kernel
theorem dL_law_737 : decode cL_law 737 = .ok (.iconst 0, 1) := by decide +kernel
theorem dL_law_738 : decode cL_law 738 = .ok (.ireturn, 1) := by decide +kernel
theorem dL_law_739 : decode cL_law 739 = .ok (.aload_n 1, 1) := by decide +kernel
theorem dL_law_740 : decode cL_law 740 = .ok (.aload_n 0, 1) := by decide +kernel
theorem dL_law_741 : decode cL_law 741 = .ok (.iload_n 3, 1) := by decide +kernel
theorem dL_law_742 : decode cL_law 742 = .ok (.iconst 1, 1) := by decide +kernel
theorem dL_law_743 : decode cL_law 743 = .ok (.iadd, 1) := by decide +kernel
theorem dL_law_744 : decode cL_law 744 = .ok (.iaload, 1) := by decide +kernel
theorem dL_law_745 : decode cL_law 745 = .ok (.invokevirtual 121, 3) := by decide +kernel
theorem dL_law_748 : decode cL_law 748 = .ok (.aload_n 2, 1) := by decide +kernel
theorem dL_law_749 : decode cL_law 749 = .ok (.aload_n 0, 1) := by decide +kernel
theorem dL_law_750 : decode cL_law 750 = .ok (.iload_n 3, 1) := by decide +kernel
theorem dL_law_751 : decode cL_law 751 = .ok (.iconst 1, 1) := by decide +kernel
theorem dL_law_752 : decode cL_law 752 = .ok (.iadd, 1) := by decide +kernel
theorem dL_law_753 : decode cL_law 753 = .ok (.iaload, 1) := by decide +kernel
theorem dL_law_754 : decode cL_law 754 = .ok (.invokevirtual 124, 3) := by decide +kernel
theorem dL_law_757 : decode cL_law 757 = .ok (.if_icmp .eq 19, 3) := by decide +kernel
theorem dL_law_760 : decode cL_law 760 = .ok (.iconst 0, 1) := by decide +kernel
theorem dL_law_761 : decode cL_law 761 = .ok (.ireturn, 1) := by decide +kernel
theorem dL_law_762 : decode cL_law 762 = .ok (.aload_n 1, 1) := by decide +kernel
theorem dL_law_763 : decode cL_law 763 = .ok (.invokevirtual 125, 3) := by decide +kernel
theorem dL_law_766 : decode cL_law 766 = .ok (.aload_n 2, 1) := by decide +kernel
theorem dL_law_767 : decode cL_law 767 = .ok (.invokevirtual 129, 3) := by decide +kernel
theorem dL_law_770 : decode cL_law 770 = .ok (.lcmp, 1) := by decide +kernel
theorem dL_law_771 : decode cL_law 771 = .ok (.ifCond .eq 5, 3) := by decide +kernel
theorem dL_law_774 : decode cL_law 774 = .ok (.iconst 0, 1) := by decide +kernel
theorem dL_law_775 : decode cL_law 775 = .ok (.ireturn, 1) := by decide +kernel
theorem dL_law_776 : decode cL_law 776 = .ok (.iinc 3 4, 3) := by decide +kernel
theorem dL_law_779 : decode cL_law 779 = .ok (.goto (-761), 3) := by decide +kernel
theorem dL_law_782 : decode cL_law 782 = .ok (.iconst 1, 1) := by decide +kernel
theorem dL_law_783 : decode cL_law 783 = .ok (.ireturn, 1) := by decide +kernel
end
section
/-! ===== the machine seen from far: heaps as functions from addresses to objects; Ev: from here the method comes to its end, with Q; Ct: a method's contract ===== -/
abbrev Ob : Type := (Nat × List Value) ⊕ (Nat × (List Int32 ⊕ (List Int64 ⊕ List (Option Nat))))
abbrev Hp : Type := Nat → Option Ob
abbrev Hs : Type := Hp × Nat
abbrev Cx : Type := Launch × va_G × (Nat → ClassId) × Nat × Nat × Nat × (Nat → Int32)
abbrev xl (X : Cx) : Launch := X.1
abbrev xG (X : Cx) : va_G := X.2.1
abbrev xc (X : Cx) : Nat → ClassId := X.2.2.1
abbrev xlo (X : Cx) : Nat := X.2.2.2.1
abbrev xb (X : Cx) : Nat := X.2.2.2.2.1
abbrev xL (X : Cx) : Nat := X.2.2.2.2.2.1
abbrev xs (X : Cx) : Nat → Int32 := X.2.2.2.2.2.2
def am_cls : List vw_C := [(RX0, TX0, 7), (RX1, TX1, 1), (RX2, TX2, 1), (RX3, TX3, 1), (RX4, TX4, 1), (RX5, TX5, 14), (RX6, TX6, 3), (RX7, TX7, 1), (RX8, TX8, 10), (RX9, TX9, 6), (RX10, TX10, 1), (RX11, TX11, 11), (RX12, TX12, 37)]
def am_ty : Nat → FieldType := fun t => match t with
  | 0 => .int
  | 1 => .byte
  | 2 => .boolean
  | 3 => .long
  | 4 => .object RX8
  | 5 => .object RX6
  | _ => .object RX7
def am_tys (cA : Nat → ClassId) : List (ClassId × FieldType) := [(cA 0, .int), (cA 1, .byte), (cA 2, .boolean), (cA 3, .long), (cA 4, .object RX8), (cA 5, .object RX6), (cA 6, .object RX7)]
def am_E (cA : Nat → ClassId) (o : Ob) : va_E := match o with
  | .inl f => .inr f
  | .inr (t, .inl xs) => .inl (cA t, xs.length, .inl (fun j => xs.getD j 0))
  | .inr (t, .inr (.inl xs)) => .inl (cA t, xs.length, .inr (.inl (fun j => xs.getD j 0)))
  | .inr (t, .inr (.inr xs)) => .inl (cA t, xs.length, .inr (.inr (.inr (.inr (fun j => xs.getD j none)))))
def am_O (X : Cx) (h : Hp) (H : Heap) : Prop := ∀ (a : Nat) (o : Ob), h a = some o → xlo X ≤ a ∧ va_at (xG X) am_cls (a, am_E (xc X) o) H
def am_nest : List (String × Nat × MethodName × String) := [("DawnTales", 9, yX9_init, "DawnTales"), ("DawnTales$Stand", 11, yX8_init, "DawnTales"), ("DawnTales", 39, yX5_init, "DawnTales"), ("DawnTales$Rows", 29, yX8_init, "DawnTales"), ("DawnTales", 53, yX7_init, "DawnTales"), ("DawnTales", 56, yX1_init, "DawnTales"), ("DawnTales$BorrowedKind", 1, yX7_init, "DawnTales"), ("DawnTales", 59, yX4_init, "DawnTales"), ("DawnTales$RingKind", 1, yX7_init, "DawnTales"), ("DawnTales", 62, yX10_init, "DawnTales"), ("DawnTales$TrueKind", 1, yX1_init, "DawnTales"), ("DawnTales", 65, yX2_init, "DawnTales"), ("DawnTales$EndlessKind", 1, yX4_init, "DawnTales"), ("DawnTales", 68, yX3_init, "DawnTales"), ("DawnTales$JokeKind", 1, yX7_init, "DawnTales")]
def am_cast : List (String × String) := [(RX1, RX7), (RX4, RX7), (RX10, RX7), (RX2, RX7), (RX3, RX7)]
def am_over : List String := [RX8, RX6, RX7]
/-- what the class tables say, the same in every state of the run -/
def am_K (X : Cx) (U : State) : Prop := va_K (xG X) am_cls (am_tys (xc X)) U ∧ (∀ q ∈ am_nest, va_Nw (.methodLinkNest q.1 q.2.1 q.2.2.1 q.2.2.2) U) ∧ (∀ q ∈ am_cast, va_Nw (.castable q.1 q.2) U) ∧ ∀ C ∈ am_over, va_AO C U
def am_X (X : Cx) (U : State) : Prop := va_X (xb X) (xL X) (xs X) U U.heap ∧ xb X < xlo X
theorem am_K.warm {X : Cx} {s U : State} (hW : s.WarmedH U.vm) (h : am_K X s) : am_K X U := ⟨va_K.moved hW.alike h.1, fun q hq => va_Nw.warmM hW (h.2.1 q hq), fun q hq => va_Nw.warmC hW (h.2.2.1 q hq), fun C hC => va_AO.moved hW.alike (h.2.2.2 C hC)⟩
theorem am_K.calling {X : Cx} {U : State} {g : JFrame} {mk : MethodId} {a : Array Value} (h : am_K X U) : am_K X (U.calling g mk a) := ⟨va_K.moved (u := U) (U := U.calling g mk a) (Vm.Alike.refl U.vm) h.1, fun q hq => va_Nw.same (u := U) (U := U.calling g mk a) rfl rfl (h.2.1 q hq), fun q hq => va_Nw.same (u := U) (U := U.calling g mk a) rfl rfl (h.2.2.1 q hq), fun C hC => va_AO.moved (u := U) (U := U.calling g mk a) (Vm.Alike.refl U.vm) (h.2.2.2 C hC)⟩
abbrev Mt : Type := MethodName × ByteArray × Nat × Option FieldType
def am_ws (y : MethodName) (b : ByteArray) (n : Nat) (r : Option FieldType) : List Cond := Cond.code y b n r :: am_T
def am_Pc (X : Cx) (av : List Value) (S : Hs) : Array Value → State → Prop := va_Pc av (fun U => U.heap.size = S.2 ∧ am_O X S.1 U.heap ∧ am_K X U ∧ xlo X ≤ S.2 ∧ am_X X U)
def am_Qc (X : Cx) (Q : Option Value → Hs → Prop) : Array Value → State → Outcome → State → Prop := fun _ st oc t => ∃ (r : Option Value) (S' : Hs), oc = .returned r ∧ Q r S' ∧ t.heap.size = S'.2 ∧ am_O X S'.1 t.heap ∧ st.heap.size ≤ t.heap.size ∧ ∀ q : Nat, q < xlo X → t.heap[q]? = st.heap[q]?
def am_rm (D k n : Nat) : Room := { frames := D, cells := k, slots := n, locals := 34 * D }
/-- the contract of a method: from the heap S it returns, with Q; it makes at most k cells of n slots -/
def Ct (X : Cx) (D : Nat) (M : Mt) (av : List Value) (S : Hs) (k n : Nat) (Q : Option Value → Hs → Prop) : Prop := Met (xl X) M.1 (am_ws M.1 M.2.1 M.2.2.1 M.2.2.2) (am_rm D k n) (am_Pc X av S) (am_Qc X Q) k n (fun q => xlo X ≤ q)
def am_I (X : Cx) (s : State) (S : Hs) (H : Heap) (locs : List Loc) : Prop := H.size = S.2 ∧ am_O X S.1 H ∧ (∀ l ∈ locs, xlo X ≤ l.base) ∧ s.heap.size ≤ H.size ∧ xlo X ≤ s.heap.size ∧ ∀ q : Nat, q < xlo X → H[q]? = s.heap[q]?
def am_rt : Value → Bool
  | .retAddr _ => true
  | _ => false
/-- the locals that hold something, with their numbers; retAddr stands for 'nothing known' -/
def am_al : Nat → List Value → List (Nat × Value)
  | _, [] => []
  | i, v :: l => if am_rt v then am_al (i + 1) l else (i, v) :: am_al (i + 1) l
def am_L (n : Nat) (L : List Value) (ls : Array Slot) : Prop := L.length = n ∧ lv_has ls n (am_al 0 L)
abbrev Mi : Type := String × ByteArray × Nat × String × Option FieldType × Nat × Nat × Nat
abbrev mO (M : Mi) : String := M.1
abbrev mB (M : Mi) : ByteArray := M.2.1
abbrev mL (M : Mi) : Nat := M.2.2.1
abbrev mN (M : Mi) : String := M.2.2.2.1
abbrev mR (M : Mi) : Option FieldType := M.2.2.2.2.1
abbrev mD (M : Mi) : Nat := M.2.2.2.2.2.1
abbrev mC (M : Mi) : Nat := M.2.2.2.2.2.2.1
abbrev mS (M : Mi) : Nat := M.2.2.2.2.2.2.2
def am_C (X : Cx) (M : Mi) (p : Program) (R : Room) (s : State) (m : MethodId) (args : Array Value) (meth : Method) (c : Code) : Prop :=
  p.tables.exec = Jvm.exec ∧ c.code = mB M ∧ c.maxLocals = mL M ∧ s.vm.findClass (mO M) = some m.cls ∧ (∀ w ∈ am_T, w.before args s = true) ∧ am_K X s ∧ am_X X s ∧ meth.name = mN M ∧ meth.sig.returnType = mR M ∧ R = am_rm (mD M) (mC M) (mS M)
def am_R (M : Mi) (pc : Nat) (r : Option Value) : Prop :=
  (r = none ∧ mR M = none ∧ decode (mB M) pc = .ok (.return_, 1)) ∨ (∃ (v : Int32) (ty : FieldType), r = some (.int v) ∧ mR M = some ty ∧ narrow ty (.int v) = .int v ∧ decode (mB M) pc = .ok (.ireturn, 1)) ∨ (∃ v : Int64, r = some (.long v) ∧ mR M = some .long ∧ decode (mB M) pc = .ok (.lreturn, 1))
/-- from the frame (pc, L, st) over the heap S the method comes to its end, with Q -/
def Ev (X : Cx) (M : Mi) (Q : Option Value → Hs → Prop) (kc ks : Nat) (S : Hs) (pc : Nat) (L st : List Value) : Prop :=
  ∀ (p : Program) (e : Env) (R : Room) (s : State) (m : MethodId) (args : Array Value) (below : List Frame) (meth : Method) (c : Code) (H : Heap) (locs : List Loc) (ls : Array Slot) (Qm : State → Prop),
    am_C X M p R s m args meth c → am_I X s S H locs → am_L (mL M) L ls →
    (∀ (r : Option Value) (S' : Hs) (H' : Heap) (locs' : List Loc) (pc' : Nat) (ls' : Array Slot), Q r S' → am_I X s S' H' locs' → am_R M pc' r → W p (xl X) e R s m args below meth c H' locs' (mC M) (mS M) Qm (F0 m pc' ls' r.toList)) →
    W p (xl X) e R s m args below meth c H locs kc ks Qm (F0 m pc ls st)
def hup (h : Hp) (a : Nat) (o : Ob) : Hp := fun q => if q = a then some o else h q
theorem up_s (h : Hp) (a : Nat) (o : Ob) : hup h a o a = some o := if_pos rfl
theorem up_n {h : Hp} {a q : Nat} {o : Ob} (hq : q ≠ a) : hup h a o q = h q := if_neg hq
def am_st1 : List Value → Nat → Value → List Value
  | [], _, _ => []
  | _ :: l, 0, v => v :: l
  | a :: l, 1, v => (if a.category = 2 then .retAddr 0 else a) :: am_st1 l 0 v
  | a :: l, i + 2, v => a :: am_st1 l (i + 1) v
def am_st2 : List Value → Nat → Value → List Value
  | [], _, _ => []
  | [_], 0, _ => [.retAddr 0]
  | _ :: _ :: l, 0, v => v :: .retAddr 0 :: l
  | a :: l, 1, v => (if a.category = 2 then .retAddr 0 else a) :: am_st2 l 0 v
  | a :: l, i + 2, v => a :: am_st2 l (i + 1) v
/-- a method's locals at its entry -/
def am_en : Nat → List Value → List Value
  | 0, _ => []
  | n + 1, [] => .retAddr 0 :: am_en n []
  | n + 1, v :: vs => if v.category = 2 then v :: (match n with
    | 0 => []
    | k + 1 => .retAddr 0 :: am_en k vs) else v :: am_en n vs
theorem am_al_mem : ∀ (L : List Value) (k i : Nat) (v : Value), (i, v) ∈ am_al k L ↔ ∃ j : Nat, i = k + j ∧ L[j]? = some v ∧ am_rt v = false := by
  intro L
  induction L with
  | nil => intro k i v; simp [am_al]
  | cons a L ih =>
    intro k i v
    unfold am_al
    by_cases ha : am_rt a = true
    · rw [if_pos ha, ih]
      constructor
      · rintro ⟨j, h1, h2, h3⟩
        exact ⟨j + 1, by omega, by simpa using h2, h3⟩
      · rintro ⟨j, h1, h2, h3⟩
        cases j with
        | zero => simp at h2; subst h2; rw [ha] at h3; cases h3
        | succ j => exact ⟨j, by omega, by simpa using h2, h3⟩
    · rw [if_neg ha, List.mem_cons, ih]
      constructor
      · rintro (h | ⟨j, h1, h2, h3⟩)
        · cases h; exact ⟨0, rfl, rfl, by simpa using ha⟩
        · exact ⟨j + 1, by omega, by simpa using h2, h3⟩
      · rintro ⟨j, h1, h2, h3⟩
        cases j with
        | zero => simp at h2; subst h2; left; simp at h1; rw [h1]
        | succ j => right; exact ⟨j, by omega, by simpa using h2, h3⟩
theorem am_L.get {n : Nat} {L : List Value} {ls : Array Slot} (h : am_L n L ls) {i : Nat} {v : Value} (hv : L[i]? = some v) (hr : am_rt v = false) : ls[i]? = some (.val v) :=
  h.2.2.2 (i, v) ((am_al_mem L 0 i v).mpr ⟨i, by omega, hv, hr⟩)
theorem am_L.lt {n : Nat} {L : List Value} {ls : Array Slot} (h : am_L n L ls) {i : Nat} {v : Value} (hv : L[i]? = some v) : i < n := by
  rw [← h.1]; exact (List.getElem?_eq_some_iff.mp hv).1
theorem am_st1_len : ∀ (L : List Value) (i : Nat) (v : Value), (am_st1 L i v).length = L.length := by
  intro L
  induction L with
  | nil => intro i v; cases i <;> rfl
  | cons a L ih =>
    intro i v
    match i with
    | 0 => rfl
    | 1 => simp [am_st1, ih]
    | i + 2 => simp [am_st1, ih]
theorem am_st1_get : ∀ (L : List Value) (i : Nat) (v : Value) (j : Nat) (w : Value), (am_st1 L i v)[j]? = some w → am_rt w = false → (j = i ∧ w = v) ∨ (j ≠ i ∧ L[j]? = some w ∧ ¬ (j + 1 = i ∧ w.category = 2)) := by
  intro L
  induction L with
  | nil => intro i v j w h; cases i <;> simp [am_st1] at h
  | cons a L ih =>
    intro i v j w h hr
    match i, j with
    | 0, 0 => simp [am_st1] at h; left; exact ⟨rfl, h.symm⟩
    | 0, j + 1 => simp [am_st1] at h; right; exact ⟨by omega, by simpa using h, by omega⟩
    | 1, 0 =>
      simp only [am_st1, List.getElem?_cons_zero, Option.some.injEq] at h
      by_cases hc : a.category = 2
      · rw [if_pos hc] at h; subst h; cases hr
      · rw [if_neg hc] at h; subst h; right; exact ⟨by omega, rfl, fun q => hc q.2⟩
    | 1, j + 1 =>
      simp only [am_st1, List.getElem?_cons_succ] at h
      rcases ih 0 v j w h hr with ⟨h1, h2⟩ | ⟨h1, h2, h3⟩
      · left; exact ⟨by omega, h2⟩
      · right; exact ⟨by omega, by simpa using h2, by omega⟩
    | i + 2, 0 =>
      simp only [am_st1, List.getElem?_cons_zero, Option.some.injEq] at h
      subst h; right; exact ⟨by omega, rfl, by omega⟩
    | i + 2, j + 1 =>
      simp only [am_st1, List.getElem?_cons_succ] at h
      rcases ih (i + 1) v j w h hr with ⟨h1, h2⟩ | ⟨h1, h2, h3⟩
      · left; exact ⟨by omega, h2⟩
      · right; exact ⟨by omega, by simpa using h2, fun q => h3 ⟨by omega, q.2⟩⟩
theorem am_st2_len : ∀ (L : List Value) (i : Nat) (v : Value), (am_st2 L i v).length = L.length := by
  intro L
  induction L with
  | nil => intro i v; cases i <;> rfl
  | cons a L ih =>
    intro i v
    match i, L with
    | 0, [] => rfl
    | 0, b :: L => rfl
    | 1, L => simp [am_st2, ih]
    | i + 2, L => simp [am_st2, ih]
theorem am_st2_get : ∀ (L : List Value) (i : Nat) (v : Value) (j : Nat) (w : Value), (am_st2 L i v)[j]? = some w → am_rt w = false → (j = i ∧ w = v) ∨ (j ≠ i ∧ j ≠ i + 1 ∧ L[j]? = some w ∧ ¬ (j + 1 = i ∧ w.category = 2)) := by
  intro L
  induction L with
  | nil => intro i v j w h; cases i <;> simp [am_st2] at h
  | cons a L ih =>
    intro i v j w h hr
    match i, L, j, ih, h with
    | 0, [], 0, _, h => simp [am_st2] at h; subst h; cases hr
    | 0, [], j + 1, _, h => simp [am_st2] at h
    | 0, b :: L, 0, _, h => simp [am_st2] at h; left; exact ⟨rfl, h.symm⟩
    | 0, b :: L, 1, _, h => simp [am_st2] at h; subst h; cases hr
    | 0, b :: L, j + 2, _, h => simp [am_st2] at h; right; exact ⟨by omega, by omega, by simpa using h, by omega⟩
    | 1, L, 0, _, h =>
      simp only [am_st2, List.getElem?_cons_zero, Option.some.injEq] at h
      by_cases hc : a.category = 2
      · rw [if_pos hc] at h; subst h; cases hr
      · rw [if_neg hc] at h; subst h; right; exact ⟨by omega, by omega, rfl, fun q => hc q.2⟩
    | 1, L, j + 1, ih, h =>
      simp only [am_st2, List.getElem?_cons_succ] at h
      rcases ih 0 v j w h hr with ⟨h1, h2⟩ | ⟨h1, h2, h3, h4⟩
      · left; exact ⟨by omega, h2⟩
      · right; exact ⟨by omega, by omega, by simpa using h3, by omega⟩
    | i + 2, L, 0, _, h =>
      simp only [am_st2, List.getElem?_cons_zero, Option.some.injEq] at h
      subst h; right; exact ⟨by omega, by omega, rfl, by omega⟩
    | i + 2, L, j + 1, ih, h =>
      simp only [am_st2, List.getElem?_cons_succ] at h
      rcases ih (i + 1) v j w h hr with ⟨h1, h2⟩ | ⟨h1, h2, h3, h4⟩
      · left; exact ⟨by omega, h2⟩
      · right; exact ⟨by omega, by omega, by simpa using h3, fun q => h4 ⟨by omega, q.2⟩⟩
theorem lv_has_mono {ls : Array Slot} {n : Nat} {l l' : List (Nat × Value)} (h : lv_has ls n l) (hs : ∀ q ∈ l', q ∈ l) : lv_has ls n l' := ⟨h.1, h.2.1, fun q hq => h.2.2 q (hs q hq)⟩
theorem am_L.st1 {n : Nat} {L L' : List Value} {ls : Array Slot} {i : Nat} {v : Value} (hl : L.length = n) (hL' : am_st1 L i v = L') (h : lv_has ls n ((i, v) :: (am_al 0 L).filter (fun q => !(q.1 == i) && !(q.1 + 1 == i && q.2.category == 2)))) : am_L n L' ls := by
  subst hL'
  refine ⟨by rw [am_st1_len, hl], lv_has_mono h fun q hq => ?_⟩
  obtain ⟨j, w⟩ := q
  obtain ⟨k, h1, h2, h3⟩ := (am_al_mem _ 0 j w).mp hq
  have hk : k = j := by omega
  subst hk
  rcases am_st1_get L i v k w h2 h3 with ⟨e1, e2⟩ | ⟨e1, e2, e3⟩
  · rw [e1, e2]; exact List.mem_cons_self
  · refine List.mem_cons_of_mem _ (List.mem_filter.mpr ⟨(am_al_mem _ 0 k w).mpr ⟨k, by omega, e2, h3⟩, ?_⟩)
    simp only [Bool.and_eq_true, Bool.not_eq_true', beq_eq_false_iff_ne, ne_eq, Bool.and_eq_false_iff]
    refine ⟨e1, ?_⟩
    by_cases hc : w.category = 2
    · left; exact fun q => e3 ⟨q, hc⟩
    · right; exact hc
theorem am_L.st2 {n : Nat} {L L' : List Value} {ls : Array Slot} {i : Nat} {v : Value} (hl : L.length = n) (hL' : am_st2 L i v = L') (h : lv_has ls n ((i, v) :: (am_al 0 L).filter (fun q => !(q.1 == i) && (!(q.1 == i + 1) && !(q.1 + 1 == i && q.2.category == 2))))) : am_L n L' ls := by
  subst hL'
  refine ⟨by rw [am_st2_len, hl], lv_has_mono h fun q hq => ?_⟩
  obtain ⟨j, w⟩ := q
  obtain ⟨k, h1, h2, h3⟩ := (am_al_mem _ 0 j w).mp hq
  have hk : k = j := by omega
  subst hk
  rcases am_st2_get L i v k w h2 h3 with ⟨e1, e2⟩ | ⟨e1, e1', e2, e3⟩
  · rw [e1, e2]; exact List.mem_cons_self
  · refine List.mem_cons_of_mem _ (List.mem_filter.mpr ⟨(am_al_mem _ 0 k w).mpr ⟨k, by omega, e2, h3⟩, ?_⟩)
    simp only [Bool.and_eq_true, Bool.not_eq_true', beq_eq_false_iff_ne, ne_eq, Bool.and_eq_false_iff]
    refine ⟨e1, e1', ?_⟩
    by_cases hc : w.category = 2
    · left; exact fun q => e3 ⟨q, hc⟩
    · right; exact hc
theorem am_en_len : ∀ (n : Nat) (vs : List Value), (am_en n vs).length = n
  | 0, _ => by simp [am_en]
  | n + 1, [] => by simp [am_en, am_en_len n []]
  | n + 1, v :: vs => by
    unfold am_en
    by_cases hc : v.category = 2
    · rw [if_pos hc]
      match n with
      | 0 => rfl
      | k + 1 => simp [am_en_len k vs]
    · rw [if_neg hc]
      simp [am_en_len n vs]
theorem am_en_mem : ∀ (n : Nat) (vs : List Value) (b i : Nat) (v : Value), (i, v) ∈ am_al b (am_en n vs) → (i, v) ∈ lv_args b vs
  | 0, _, b, i, v, h => by simp [am_en, am_al] at h
  | n + 1, [], b, i, v, h => by
    have h2 : (i, v) ∈ am_al (b + 1) (am_en n []) := by simpa [am_en, am_al, am_rt] using h
    have := am_en_mem n [] (b + 1) i v h2
    simp [lv_args] at this
  | n + 1, w :: vs, b, i, v, h => by
    unfold am_en at h
    unfold lv_args
    by_cases hc : w.category = 2
    · rw [if_pos hc] at h
      rw [if_pos hc]
      match n, h with
      | 0, h =>
        simp only [am_al] at h
        by_cases hr : am_rt w = true
        · rw [if_pos hr] at h; cases h
        · rw [if_neg hr] at h
          simp at h
          exact List.mem_cons.mpr (Or.inl (by rw [h.1, h.2]))
      | k + 1, h =>
        simp only [am_al] at h
        by_cases hr : am_rt w = true
        · rw [if_pos hr, if_pos (show am_rt (.retAddr 0) = true from rfl)] at h
          exact List.mem_cons_of_mem _ (am_en_mem k vs (b + 2) i v h)
        · rw [if_neg hr, if_pos (show am_rt (.retAddr 0) = true from rfl)] at h
          rcases List.mem_cons.mp h with h | h
          · exact List.mem_cons.mpr (Or.inl h)
          · exact List.mem_cons_of_mem _ (am_en_mem k vs (b + 2) i v h)
    · rw [if_neg hc] at h
      rw [if_neg hc]
      simp only [am_al] at h
      by_cases hr : am_rt w = true
      · rw [if_pos hr] at h
        exact List.mem_cons_of_mem _ (am_en_mem n vs (b + 1) i v h)
      · rw [if_neg hr] at h
        rcases List.mem_cons.mp h with h | h
        · exact List.mem_cons.mpr (Or.inl h)
        · exact List.mem_cons_of_mem _ (am_en_mem n vs (b + 1) i v h)
end
section
section EVR
variable {X : Cx} {M : Mi} {Q : Option Value → Hs → Prop} {kc ks : Nat} {S : Hs} {pc : Nat} {L st : List Value}
theorem ev_iconst {n : Int} {v : Int32} (hd : decode (mB M) pc = .ok (.iconst n, 1)) (hv : Int32.ofInt n = v) (k : Ev X M Q kc ks S (pc + 1) L (.int v :: st)) : Ev X M Q kc ks S pc L (st) := by
  intro p e R s m args below meth c H locs ls Qm hC hI hL hR
  exact lv_iconst hC.1 hC.2.1 hd hv (k p e R s m args below meth c H locs ls Qm hC hI hL hR)
theorem ev_bipush {n : Int} {v : Int32} (hd : decode (mB M) pc = .ok (.bipush n, 2)) (hv : (Int8.ofInt n).toInt32 = v) (k : Ev X M Q kc ks S (pc + 2) L (.int v :: st)) : Ev X M Q kc ks S pc L (st) := by
  intro p e R s m args below meth c H locs ls Qm hC hI hL hR
  exact lv_bipush hC.1 hC.2.1 hd hv (k p e R s m args below meth c H locs ls Qm hC hI hL hR)
theorem ev_sipush {n : Int} {v : Int32} (hd : decode (mB M) pc = .ok (.sipush n, 3)) (hv : (Int16.ofInt n).toInt32 = v) (k : Ev X M Q kc ks S (pc + 3) L (.int v :: st)) : Ev X M Q kc ks S pc L (st) := by
  intro p e R s m args below meth c H locs ls Qm hC hI hL hR
  exact lv_sipush hC.1 hC.2.1 hd hv (k p e R s m args below meth c H locs ls Qm hC hI hL hR)
theorem ev_lconst {n : Fin 2} {v : Int64} (hd : decode (mB M) pc = .ok (.lconst n, 1)) (hv : Int64.ofNat (n : Nat) = v) (k : Ev X M Q kc ks S (pc + 1) L (.long v :: st)) : Ev X M Q kc ks S pc L (st) := by
  intro p e R s m args below meth c H locs ls Qm hC hI hL hR
  exact lv_lconst hC.1 hC.2.1 hd hv (k p e R s m args below meth c H locs ls Qm hC hI hL hR)
theorem ev_iload_n {n : Fin 4} {x : Int32} (hd : decode (mB M) pc = .ok (.iload_n n, 1)) (hl : L[(n : Nat)]? = some (.int x)) (k : Ev X M Q kc ks S (pc + 1) L (.int x :: st)) : Ev X M Q kc ks S pc L (st) := by
  intro p e R s m args below meth c H locs ls Qm hC hI hL hR
  exact lv_iload_n hC.1 hC.2.1 hd rfl (hL.get hl rfl) (k p e R s m args below meth c H locs ls Qm hC hI hL hR)
theorem ev_iload {i : Nat} {x : Int32} (hd : decode (mB M) pc = .ok (.iload i, 2)) (hl : L[i]? = some (.int x)) (k : Ev X M Q kc ks S (pc + 2) L (.int x :: st)) : Ev X M Q kc ks S pc L (st) := by
  intro p e R s m args below meth c H locs ls Qm hC hI hL hR
  exact lv_iload hC.1 hC.2.1 hd (hL.get hl rfl) (k p e R s m args below meth c H locs ls Qm hC hI hL hR)
theorem ev_lload_n {n : Fin 4} {x : Int64} (hd : decode (mB M) pc = .ok (.lload_n n, 1)) (hl : L[(n : Nat)]? = some (.long x)) (k : Ev X M Q kc ks S (pc + 1) L (.long x :: st)) : Ev X M Q kc ks S pc L (st) := by
  intro p e R s m args below meth c H locs ls Qm hC hI hL hR
  exact lv_lload_n hC.1 hC.2.1 hd rfl (hL.get hl rfl) (k p e R s m args below meth c H locs ls Qm hC hI hL hR)
theorem ev_lload {i : Nat} {x : Int64} (hd : decode (mB M) pc = .ok (.lload i, 2)) (hl : L[i]? = some (.long x)) (k : Ev X M Q kc ks S (pc + 2) L (.long x :: st)) : Ev X M Q kc ks S pc L (st) := by
  intro p e R s m args below meth c H locs ls Qm hC hI hL hR
  exact lv_lload hC.1 hC.2.1 hd (hL.get hl rfl) (k p e R s m args below meth c H locs ls Qm hC hI hL hR)
theorem ev_aload_n {n : Fin 4} {x : Nat} (hd : decode (mB M) pc = .ok (.aload_n n, 1)) (hl : L[(n : Nat)]? = some (.ref x)) (k : Ev X M Q kc ks S (pc + 1) L (.ref x :: st)) : Ev X M Q kc ks S pc L (st) := by
  intro p e R s m args below meth c H locs ls Qm hC hI hL hR
  exact lv_aload_n hC.1 hC.2.1 hd rfl (hL.get hl rfl) (k p e R s m args below meth c H locs ls Qm hC hI hL hR)
theorem ev_aload {i : Nat} {x : Nat} (hd : decode (mB M) pc = .ok (.aload i, 2)) (hl : L[i]? = some (.ref x)) (k : Ev X M Q kc ks S (pc + 2) L (.ref x :: st)) : Ev X M Q kc ks S pc L (st) := by
  intro p e R s m args below meth c H locs ls Qm hC hI hL hR
  exact lv_aload hC.1 hC.2.1 hd (hL.get hl rfl) (k p e R s m args below meth c H locs ls Qm hC hI hL hR)
theorem ev_istore_n {n : Fin 4} {x : Int32} {L' : List Value} (hd : decode (mB M) pc = .ok (.istore_n n, 1)) (hi : (n : Nat) < mL M) (hL' : am_st1 L (n : Nat) (.int x) = L') (k : Ev X M Q kc ks S (pc + 1) L' st) : Ev X M Q kc ks S pc L (.int x :: st) := by
  intro p e R s m args below meth c H locs ls Qm hC hI hL hR
  exact lv_istore_n hC.1 hC.2.1 hd rfl hL.2 hi rfl (fun ls2 h2 => k p e R s m args below meth c H locs ls2 Qm hC hI (am_L.st1 hL.1 hL' h2) hR)
theorem ev_istore {i : Nat} {x : Int32} {L' : List Value} (hd : decode (mB M) pc = .ok (.istore i, 2)) (hi : i < mL M) (hL' : am_st1 L i (.int x) = L') (k : Ev X M Q kc ks S (pc + 2) L' st) : Ev X M Q kc ks S pc L (.int x :: st) := by
  intro p e R s m args below meth c H locs ls Qm hC hI hL hR
  exact lv_istore hC.1 hC.2.1 hd hL.2 hi rfl (fun ls2 h2 => k p e R s m args below meth c H locs ls2 Qm hC hI (am_L.st1 hL.1 hL' h2) hR)
theorem ev_astore_n {n : Fin 4} {x : Nat} {L' : List Value} (hd : decode (mB M) pc = .ok (.astore_n n, 1)) (hi : (n : Nat) < mL M) (hL' : am_st1 L (n : Nat) (.ref x) = L') (k : Ev X M Q kc ks S (pc + 1) L' st) : Ev X M Q kc ks S pc L (.ref x :: st) := by
  intro p e R s m args below meth c H locs ls Qm hC hI hL hR
  exact lv_astore_n hC.1 hC.2.1 hd rfl hL.2 hi rfl (fun ls2 h2 => k p e R s m args below meth c H locs ls2 Qm hC hI (am_L.st1 hL.1 hL' h2) hR)
theorem ev_astore {i : Nat} {x : Nat} {L' : List Value} (hd : decode (mB M) pc = .ok (.astore i, 2)) (hi : i < mL M) (hL' : am_st1 L i (.ref x) = L') (k : Ev X M Q kc ks S (pc + 2) L' st) : Ev X M Q kc ks S pc L (.ref x :: st) := by
  intro p e R s m args below meth c H locs ls Qm hC hI hL hR
  exact lv_astore hC.1 hC.2.1 hd hL.2 hi rfl (fun ls2 h2 => k p e R s m args below meth c H locs ls2 Qm hC hI (am_L.st1 hL.1 hL' h2) hR)
theorem ev_lstore_n {n : Fin 4} {x : Int64} {L' : List Value} (hd : decode (mB M) pc = .ok (.lstore_n n, 1)) (hi : (n : Nat) + 1 < mL M) (hL' : am_st2 L (n : Nat) (.long x) = L') (k : Ev X M Q kc ks S (pc + 1) L' st) : Ev X M Q kc ks S pc L (.long x :: st) := by
  intro p e R s m args below meth c H locs ls Qm hC hI hL hR
  exact lv_lstore_n hC.1 hC.2.1 hd rfl hL.2 hi rfl (fun ls2 h2 => k p e R s m args below meth c H locs ls2 Qm hC hI (am_L.st2 hL.1 hL' h2) hR)
theorem ev_lstore {i : Nat} {x : Int64} {L' : List Value} (hd : decode (mB M) pc = .ok (.lstore i, 2)) (hi : i + 1 < mL M) (hL' : am_st2 L i (.long x) = L') (k : Ev X M Q kc ks S (pc + 2) L' st) : Ev X M Q kc ks S pc L (.long x :: st) := by
  intro p e R s m args below meth c H locs ls Qm hC hI hL hR
  exact lv_lstore hC.1 hC.2.1 hd hL.2 hi rfl (fun ls2 h2 => k p e R s m args below meth c H locs ls2 Qm hC hI (am_L.st2 hL.1 hL' h2) hR)
theorem ev_iinc {i : Nat} {n : Int} {x v : Int32} {L' : List Value} (hd : decode (mB M) pc = .ok (.iinc i n, 3)) (hl : L[i]? = some (.int x)) (hv : x + Int32.ofInt n = v) (hL' : am_st1 L i (.int v) = L') (k : Ev X M Q kc ks S (pc + 3) L' st) : Ev X M Q kc ks S pc L st := by
  intro p e R s m args below meth c H locs ls Qm hC hI hL hR
  obtain ⟨j, hj⟩ := List.getElem?_of_mem ((am_al_mem L 0 i (.int x)).mpr ⟨i, by omega, hl, rfl⟩)
  exact lv_iinc hC.1 hC.2.1 hd hL.2 hj hv (hL.lt hl) rfl (fun ls2 h2 => k p e R s m args below meth c H locs ls2 Qm hC hI (am_L.st1 hL.1 hL' h2) hR)
theorem ev_iadd {x y : Int32} (hd : decode (mB M) pc = .ok (.iadd, 1)) (k : Ev X M Q kc ks S (pc + 1) L (.int (x + y) :: st)) : Ev X M Q kc ks S pc L (.int y :: .int x :: st) := by
  intro p e R s m args below meth c H locs ls Qm hC hI hL hR
  exact lv_iadd hC.1 hC.2.1 hd  (k p e R s m args below meth c H locs ls Qm hC hI hL hR)
theorem ev_isub {x y : Int32} (hd : decode (mB M) pc = .ok (.isub, 1)) (k : Ev X M Q kc ks S (pc + 1) L (.int (x - y) :: st)) : Ev X M Q kc ks S pc L (.int y :: .int x :: st) := by
  intro p e R s m args below meth c H locs ls Qm hC hI hL hR
  exact lv_isub hC.1 hC.2.1 hd  (k p e R s m args below meth c H locs ls Qm hC hI hL hR)
theorem ev_imul {x y : Int32} (hd : decode (mB M) pc = .ok (.imul, 1)) (k : Ev X M Q kc ks S (pc + 1) L (.int (x * y) :: st)) : Ev X M Q kc ks S pc L (.int y :: .int x :: st) := by
  intro p e R s m args below meth c H locs ls Qm hC hI hL hR
  exact lv_imul hC.1 hC.2.1 hd  (k p e R s m args below meth c H locs ls Qm hC hI hL hR)
theorem ev_iand {x y : Int32} (hd : decode (mB M) pc = .ok (.iand, 1)) (k : Ev X M Q kc ks S (pc + 1) L (.int (x &&& y) :: st)) : Ev X M Q kc ks S pc L (.int y :: .int x :: st) := by
  intro p e R s m args below meth c H locs ls Qm hC hI hL hR
  exact lv_iand hC.1 hC.2.1 hd  (k p e R s m args below meth c H locs ls Qm hC hI hL hR)
theorem ev_ior {x y : Int32} (hd : decode (mB M) pc = .ok (.ior, 1)) (k : Ev X M Q kc ks S (pc + 1) L (.int (x ||| y) :: st)) : Ev X M Q kc ks S pc L (.int y :: .int x :: st) := by
  intro p e R s m args below meth c H locs ls Qm hC hI hL hR
  exact lv_ior hC.1 hC.2.1 hd  (k p e R s m args below meth c H locs ls Qm hC hI hL hR)
theorem ev_ixor {x y : Int32} (hd : decode (mB M) pc = .ok (.ixor, 1)) (k : Ev X M Q kc ks S (pc + 1) L (.int (x ^^^ y) :: st)) : Ev X M Q kc ks S pc L (.int y :: .int x :: st) := by
  intro p e R s m args below meth c H locs ls Qm hC hI hL hR
  exact lv_ixor hC.1 hC.2.1 hd  (k p e R s m args below meth c H locs ls Qm hC hI hL hR)
theorem ev_ishl {x y : Int32} (hd : decode (mB M) pc = .ok (.ishl, 1)) (k : Ev X M Q kc ks S (pc + 1) L (.int (x <<< (y &&& 31)) :: st)) : Ev X M Q kc ks S pc L (.int y :: .int x :: st) := by
  intro p e R s m args below meth c H locs ls Qm hC hI hL hR
  exact lv_ishl hC.1 hC.2.1 hd  (k p e R s m args below meth c H locs ls Qm hC hI hL hR)
theorem ev_ishr {x y : Int32} (hd : decode (mB M) pc = .ok (.ishr, 1)) (k : Ev X M Q kc ks S (pc + 1) L (.int (x >>> (y &&& 31)) :: st)) : Ev X M Q kc ks S pc L (.int y :: .int x :: st) := by
  intro p e R s m args below meth c H locs ls Qm hC hI hL hR
  exact lv_ishr hC.1 hC.2.1 hd  (k p e R s m args below meth c H locs ls Qm hC hI hL hR)
theorem ev_idiv {x y : Int32} (hd : decode (mB M) pc = .ok (.idiv, 1)) (hne : ¬ y = 0) (k : Ev X M Q kc ks S (pc + 1) L (.int (x / y) :: st)) : Ev X M Q kc ks S pc L (.int y :: .int x :: st) := by
  intro p e R s m args below meth c H locs ls Qm hC hI hL hR
  exact lv_idiv hC.1 hC.2.1 hd hne (k p e R s m args below meth c H locs ls Qm hC hI hL hR)
theorem ev_irem {x y : Int32} (hd : decode (mB M) pc = .ok (.irem, 1)) (hne : ¬ y = 0) (k : Ev X M Q kc ks S (pc + 1) L (.int (x - x / y * y) :: st)) : Ev X M Q kc ks S pc L (.int y :: .int x :: st) := by
  intro p e R s m args below meth c H locs ls Qm hC hI hL hR
  exact lv_irem hC.1 hC.2.1 hd hne (k p e R s m args below meth c H locs ls Qm hC hI hL hR)
theorem ev_ladd {x y : Int64} (hd : decode (mB M) pc = .ok (.ladd, 1)) (k : Ev X M Q kc ks S (pc + 1) L (.long (x + y) :: st)) : Ev X M Q kc ks S pc L (.long y :: .long x :: st) := by
  intro p e R s m args below meth c H locs ls Qm hC hI hL hR
  exact lv_ladd hC.1 hC.2.1 hd  (k p e R s m args below meth c H locs ls Qm hC hI hL hR)
theorem ev_lsub {x y : Int64} (hd : decode (mB M) pc = .ok (.lsub, 1)) (k : Ev X M Q kc ks S (pc + 1) L (.long (x - y) :: st)) : Ev X M Q kc ks S pc L (.long y :: .long x :: st) := by
  intro p e R s m args below meth c H locs ls Qm hC hI hL hR
  exact lv_lsub hC.1 hC.2.1 hd  (k p e R s m args below meth c H locs ls Qm hC hI hL hR)
theorem ev_lmul {x y : Int64} (hd : decode (mB M) pc = .ok (.lmul, 1)) (k : Ev X M Q kc ks S (pc + 1) L (.long (x * y) :: st)) : Ev X M Q kc ks S pc L (.long y :: .long x :: st) := by
  intro p e R s m args below meth c H locs ls Qm hC hI hL hR
  exact lv_lmul hC.1 hC.2.1 hd  (k p e R s m args below meth c H locs ls Qm hC hI hL hR)
theorem ev_land {x y : Int64} (hd : decode (mB M) pc = .ok (.land, 1)) (k : Ev X M Q kc ks S (pc + 1) L (.long (x &&& y) :: st)) : Ev X M Q kc ks S pc L (.long y :: .long x :: st) := by
  intro p e R s m args below meth c H locs ls Qm hC hI hL hR
  exact lv_land hC.1 hC.2.1 hd  (k p e R s m args below meth c H locs ls Qm hC hI hL hR)
theorem ev_lor {x y : Int64} (hd : decode (mB M) pc = .ok (.lor, 1)) (k : Ev X M Q kc ks S (pc + 1) L (.long (x ||| y) :: st)) : Ev X M Q kc ks S pc L (.long y :: .long x :: st) := by
  intro p e R s m args below meth c H locs ls Qm hC hI hL hR
  exact lv_lor hC.1 hC.2.1 hd  (k p e R s m args below meth c H locs ls Qm hC hI hL hR)
theorem ev_ldiv {x y : Int64} (hd : decode (mB M) pc = .ok (.ldiv, 1)) (hne : ¬ y = 0) (k : Ev X M Q kc ks S (pc + 1) L (.long (x / y) :: st)) : Ev X M Q kc ks S pc L (.long y :: .long x :: st) := by
  intro p e R s m args below meth c H locs ls Qm hC hI hL hR
  exact lv_ldiv hC.1 hC.2.1 hd hne (k p e R s m args below meth c H locs ls Qm hC hI hL hR)
theorem ev_lrem {x y : Int64} (hd : decode (mB M) pc = .ok (.lrem, 1)) (hne : ¬ y = 0) (k : Ev X M Q kc ks S (pc + 1) L (.long (x - x / y * y) :: st)) : Ev X M Q kc ks S pc L (.long y :: .long x :: st) := by
  intro p e R s m args below meth c H locs ls Qm hC hI hL hR
  exact lv_lrem hC.1 hC.2.1 hd hne (k p e R s m args below meth c H locs ls Qm hC hI hL hR)
theorem ev_lcmp {x y : Int64} (hd : decode (mB M) pc = .ok (.lcmp, 1)) (k : Ev X M Q kc ks S (pc + 1) L (.int (lg_cmp x y) :: st)) : Ev X M Q kc ks S pc L (.long y :: .long x :: st) := by
  intro p e R s m args below meth c H locs ls Qm hC hI hL hR
  exact W.lcmp hC.1 hC.2.1 hd  (k p e R s m args below meth c H locs ls Qm hC hI hL hR)
theorem ev_iushr {x y v : Int32} (hd : decode (mB M) pc = .ok (.iushr, 1)) (hv : (x.toUInt32 >>> (y.toUInt32 &&& Int32.toUInt32 31)).toInt32 = v) (k : Ev X M Q kc ks S (pc + 1) L (.int v :: st)) : Ev X M Q kc ks S pc L (.int y :: .int x :: st) := by
  intro p e R s m args below meth c H locs ls Qm hC hI hL hR
  exact lv_iushr hC.1 hC.2.1 hd hv (k p e R s m args below meth c H locs ls Qm hC hI hL hR)
theorem ev_lushr {x v : Int64} {y : Int32} (hd : decode (mB M) pc = .ok (.lushr, 1)) (hv : (x.toUInt64 >>> (y.toInt64.toUInt64 &&& Int64.toUInt64 63)).toInt64 = v) (k : Ev X M Q kc ks S (pc + 1) L (.long v :: st)) : Ev X M Q kc ks S pc L (.int y :: .long x :: st) := by
  intro p e R s m args below meth c H locs ls Qm hC hI hL hR
  exact lv_lushr hC.1 hC.2.1 hd hv (k p e R s m args below meth c H locs ls Qm hC hI hL hR)
theorem ev_lshl {x v : Int64} {y : Int32} (hd : decode (mB M) pc = .ok (.lshl, 1)) (hv : x <<< (y.toInt64 &&& 63) = v) (k : Ev X M Q kc ks S (pc + 1) L (.long v :: st)) : Ev X M Q kc ks S pc L (.int y :: .long x :: st) := by
  intro p e R s m args below meth c H locs ls Qm hC hI hL hR
  exact lv_lshl hC.1 hC.2.1 hd hv (k p e R s m args below meth c H locs ls Qm hC hI hL hR)
theorem ev_i2l {x : Int32} (hd : decode (mB M) pc = .ok (.i2l, 1)) (k : Ev X M Q kc ks S (pc + 1) L (.long x.toInt64 :: st)) : Ev X M Q kc ks S pc L (.int x :: st) := by
  intro p e R s m args below meth c H locs ls Qm hC hI hL hR
  exact lv_i2l hC.1 hC.2.1 hd rfl (k p e R s m args below meth c H locs ls Qm hC hI hL hR)
theorem ev_l2i {x : Int64} (hd : decode (mB M) pc = .ok (.l2i, 1)) (k : Ev X M Q kc ks S (pc + 1) L (.int x.toInt32 :: st)) : Ev X M Q kc ks S pc L (.long x :: st) := by
  intro p e R s m args below meth c H locs ls Qm hC hI hL hR
  exact lv_l2i hC.1 hC.2.1 hd rfl (k p e R s m args below meth c H locs ls Qm hC hI hL hR)
theorem ev_i2b {x : Int32} (hd : decode (mB M) pc = .ok (.i2b, 1)) (k : Ev X M Q kc ks S (pc + 1) L (.int x.toInt8.toInt32 :: st)) : Ev X M Q kc ks S pc L (.int x :: st) := by
  intro p e R s m args below meth c H locs ls Qm hC hI hL hR
  exact lv_i2b hC.1 hC.2.1 hd rfl (k p e R s m args below meth c H locs ls Qm hC hI hL hR)
theorem ev_dup {va : Value} (hd : decode (mB M) pc = .ok (.dup, 1)) (hva : va.category = 1) (k : Ev X M Q kc ks S (pc + 1) L (va :: va :: st)) : Ev X M Q kc ks S pc L (va :: st) := by
  intro p e R s m args below meth c H locs ls Qm hC hI hL hR
  exact lv_dup hC.1 hC.2.1 hd hva (k p e R s m args below meth c H locs ls Qm hC hI hL hR)
theorem ev_pop {va : Value} (hd : decode (mB M) pc = .ok (.pop, 1)) (hva : va.category = 1) (k : Ev X M Q kc ks S (pc + 1) L (st)) : Ev X M Q kc ks S pc L (va :: st) := by
  intro p e R s m args below meth c H locs ls Qm hC hI hL hR
  exact lv_pop hC.1 hC.2.1 hd hva (k p e R s m args below meth c H locs ls Qm hC hI hL hR)
theorem ev_dup_x1 {va vb : Value} (hd : decode (mB M) pc = .ok (.dup_x1, 1)) (hva : va.category = 1) (hvb : vb.category = 1) (k : Ev X M Q kc ks S (pc + 1) L (va :: vb :: va :: st)) : Ev X M Q kc ks S pc L (va :: vb :: st) := by
  intro p e R s m args below meth c H locs ls Qm hC hI hL hR
  exact lv_dup_x1 hC.1 hC.2.1 hd hva hvb (k p e R s m args below meth c H locs ls Qm hC hI hL hR)
theorem ev_dup2 {va vb : Value} (hd : decode (mB M) pc = .ok (.dup2, 1)) (hva : va.category = 1) (hvb : vb.category = 1) (k : Ev X M Q kc ks S (pc + 1) L (va :: vb :: va :: vb :: st)) : Ev X M Q kc ks S pc L (va :: vb :: st) := by
  intro p e R s m args below meth c H locs ls Qm hC hI hL hR
  exact lv_dup2_11 hC.1 hC.2.1 hd hva hvb (k p e R s m args below meth c H locs ls Qm hC hI hL hR)
theorem ev_if_eq {x : Int32} {off : Int} (tgt : Nat) (hd : decode (mB M) pc = .ok (.ifCond .eq off, 3)) (ht : (pc : Int) + off = (tgt : Int)) (kt : x = 0 → Ev X M Q kc ks S tgt L st) (kf : ¬ x = 0 → Ev X M Q kc ks S (pc + 3) L st) : Ev X M Q kc ks S pc L (.int x :: st) := by
  intro p e R s m args below meth c H locs ls Qm hC hI hL hR
  exact lv_if_eq hC.1 hC.2.1 hd ht (fun q => kt q p e R s m args below meth c H locs ls Qm hC hI hL hR) (fun q => kf q p e R s m args below meth c H locs ls Qm hC hI hL hR)
theorem ev_icmp_eq {x y : Int32} {off : Int} (tgt : Nat) (hd : decode (mB M) pc = .ok (.if_icmp .eq off, 3)) (ht : (pc : Int) + off = (tgt : Int)) (kt : x = y → Ev X M Q kc ks S tgt L st) (kf : ¬ x = y → Ev X M Q kc ks S (pc + 3) L st) : Ev X M Q kc ks S pc L (.int y :: .int x :: st) := by
  intro p e R s m args below meth c H locs ls Qm hC hI hL hR
  exact lv_icmp_eq hC.1 hC.2.1 hd ht (fun q => kt q p e R s m args below meth c H locs ls Qm hC hI hL hR) (fun q => kf q p e R s m args below meth c H locs ls Qm hC hI hL hR)
theorem ev_if_ne {x : Int32} {off : Int} (tgt : Nat) (hd : decode (mB M) pc = .ok (.ifCond .ne off, 3)) (ht : (pc : Int) + off = (tgt : Int)) (kt : ¬ x = 0 → Ev X M Q kc ks S tgt L st) (kf : x = 0 → Ev X M Q kc ks S (pc + 3) L st) : Ev X M Q kc ks S pc L (.int x :: st) := by
  intro p e R s m args below meth c H locs ls Qm hC hI hL hR
  exact lv_if_ne hC.1 hC.2.1 hd ht (fun q => kt q p e R s m args below meth c H locs ls Qm hC hI hL hR) (fun q => kf q p e R s m args below meth c H locs ls Qm hC hI hL hR)
theorem ev_icmp_ne {x y : Int32} {off : Int} (tgt : Nat) (hd : decode (mB M) pc = .ok (.if_icmp .ne off, 3)) (ht : (pc : Int) + off = (tgt : Int)) (kt : ¬ x = y → Ev X M Q kc ks S tgt L st) (kf : x = y → Ev X M Q kc ks S (pc + 3) L st) : Ev X M Q kc ks S pc L (.int y :: .int x :: st) := by
  intro p e R s m args below meth c H locs ls Qm hC hI hL hR
  exact lv_icmp_ne hC.1 hC.2.1 hd ht (fun q => kt q p e R s m args below meth c H locs ls Qm hC hI hL hR) (fun q => kf q p e R s m args below meth c H locs ls Qm hC hI hL hR)
theorem ev_if_lt {x : Int32} {off : Int} (tgt : Nat) (hd : decode (mB M) pc = .ok (.ifCond .lt off, 3)) (ht : (pc : Int) + off = (tgt : Int)) (kt : x < 0 → Ev X M Q kc ks S tgt L st) (kf : ¬ x < 0 → Ev X M Q kc ks S (pc + 3) L st) : Ev X M Q kc ks S pc L (.int x :: st) := by
  intro p e R s m args below meth c H locs ls Qm hC hI hL hR
  exact lv_if_lt hC.1 hC.2.1 hd ht (fun q => kt q p e R s m args below meth c H locs ls Qm hC hI hL hR) (fun q => kf q p e R s m args below meth c H locs ls Qm hC hI hL hR)
theorem ev_icmp_lt {x y : Int32} {off : Int} (tgt : Nat) (hd : decode (mB M) pc = .ok (.if_icmp .lt off, 3)) (ht : (pc : Int) + off = (tgt : Int)) (kt : x < y → Ev X M Q kc ks S tgt L st) (kf : ¬ x < y → Ev X M Q kc ks S (pc + 3) L st) : Ev X M Q kc ks S pc L (.int y :: .int x :: st) := by
  intro p e R s m args below meth c H locs ls Qm hC hI hL hR
  exact lv_icmp_lt hC.1 hC.2.1 hd ht (fun q => kt q p e R s m args below meth c H locs ls Qm hC hI hL hR) (fun q => kf q p e R s m args below meth c H locs ls Qm hC hI hL hR)
theorem ev_if_ge {x : Int32} {off : Int} (tgt : Nat) (hd : decode (mB M) pc = .ok (.ifCond .ge off, 3)) (ht : (pc : Int) + off = (tgt : Int)) (kt : 0 ≤ x → Ev X M Q kc ks S tgt L st) (kf : ¬ 0 ≤ x → Ev X M Q kc ks S (pc + 3) L st) : Ev X M Q kc ks S pc L (.int x :: st) := by
  intro p e R s m args below meth c H locs ls Qm hC hI hL hR
  exact lv_if_ge hC.1 hC.2.1 hd ht (fun q => kt q p e R s m args below meth c H locs ls Qm hC hI hL hR) (fun q => kf q p e R s m args below meth c H locs ls Qm hC hI hL hR)
theorem ev_icmp_ge {x y : Int32} {off : Int} (tgt : Nat) (hd : decode (mB M) pc = .ok (.if_icmp .ge off, 3)) (ht : (pc : Int) + off = (tgt : Int)) (kt : y ≤ x → Ev X M Q kc ks S tgt L st) (kf : ¬ y ≤ x → Ev X M Q kc ks S (pc + 3) L st) : Ev X M Q kc ks S pc L (.int y :: .int x :: st) := by
  intro p e R s m args below meth c H locs ls Qm hC hI hL hR
  exact lv_icmp_ge hC.1 hC.2.1 hd ht (fun q => kt q p e R s m args below meth c H locs ls Qm hC hI hL hR) (fun q => kf q p e R s m args below meth c H locs ls Qm hC hI hL hR)
theorem ev_if_gt {x : Int32} {off : Int} (tgt : Nat) (hd : decode (mB M) pc = .ok (.ifCond .gt off, 3)) (ht : (pc : Int) + off = (tgt : Int)) (kt : 0 < x → Ev X M Q kc ks S tgt L st) (kf : ¬ 0 < x → Ev X M Q kc ks S (pc + 3) L st) : Ev X M Q kc ks S pc L (.int x :: st) := by
  intro p e R s m args below meth c H locs ls Qm hC hI hL hR
  exact lv_if_gt hC.1 hC.2.1 hd ht (fun q => kt q p e R s m args below meth c H locs ls Qm hC hI hL hR) (fun q => kf q p e R s m args below meth c H locs ls Qm hC hI hL hR)
theorem ev_icmp_gt {x y : Int32} {off : Int} (tgt : Nat) (hd : decode (mB M) pc = .ok (.if_icmp .gt off, 3)) (ht : (pc : Int) + off = (tgt : Int)) (kt : y < x → Ev X M Q kc ks S tgt L st) (kf : ¬ y < x → Ev X M Q kc ks S (pc + 3) L st) : Ev X M Q kc ks S pc L (.int y :: .int x :: st) := by
  intro p e R s m args below meth c H locs ls Qm hC hI hL hR
  exact lv_icmp_gt hC.1 hC.2.1 hd ht (fun q => kt q p e R s m args below meth c H locs ls Qm hC hI hL hR) (fun q => kf q p e R s m args below meth c H locs ls Qm hC hI hL hR)
theorem ev_if_le {x : Int32} {off : Int} (tgt : Nat) (hd : decode (mB M) pc = .ok (.ifCond .le off, 3)) (ht : (pc : Int) + off = (tgt : Int)) (kt : x ≤ 0 → Ev X M Q kc ks S tgt L st) (kf : ¬ x ≤ 0 → Ev X M Q kc ks S (pc + 3) L st) : Ev X M Q kc ks S pc L (.int x :: st) := by
  intro p e R s m args below meth c H locs ls Qm hC hI hL hR
  exact lv_if_le hC.1 hC.2.1 hd ht (fun q => kt q p e R s m args below meth c H locs ls Qm hC hI hL hR) (fun q => kf q p e R s m args below meth c H locs ls Qm hC hI hL hR)
theorem ev_icmp_le {x y : Int32} {off : Int} (tgt : Nat) (hd : decode (mB M) pc = .ok (.if_icmp .le off, 3)) (ht : (pc : Int) + off = (tgt : Int)) (kt : x ≤ y → Ev X M Q kc ks S tgt L st) (kf : ¬ x ≤ y → Ev X M Q kc ks S (pc + 3) L st) : Ev X M Q kc ks S pc L (.int y :: .int x :: st) := by
  intro p e R s m args below meth c H locs ls Qm hC hI hL hR
  exact lv_icmp_le hC.1 hC.2.1 hd ht (fun q => kt q p e R s m args below meth c H locs ls Qm hC hI hL hR) (fun q => kf q p e R s m args below meth c H locs ls Qm hC hI hL hR)
theorem ev_goto {off : Int} (tgt : Nat) (hd : decode (mB M) pc = .ok (.goto off, 3)) (ht : (pc : Int) + off = (tgt : Int)) (k : Ev X M Q kc ks S tgt L st) : Ev X M Q kc ks S pc L st := by
  intro p e R s m args below meth c H locs ls Qm hC hI hL hR
  exact lv_goto hC.1 hC.2.1 hd ht (k p e R s m args below meth c H locs ls Qm hC hI hL hR)
theorem ev_tableIn {dflt lo hi : Int} {offs : Array Int} {len : Nat} {x : Int32} {off : Int} (tgt : Nat) (hd : decode (mB M) pc = .ok (.tableswitch dflt lo hi offs, len)) (h1 : ¬ x.toInt < lo) (h2 : ¬ hi < x.toInt) (ho : offs[(x.toInt - lo).toNat]? = some off) (ht : (pc : Int) + off = (tgt : Int)) (k : Ev X M Q kc ks S tgt L st) : Ev X M Q kc ks S pc L (.int x :: st) := by
  intro p e R s m args below meth c H locs ls Qm hC hI hL hR
  exact lv_tableIn hC.1 hC.2.1 hd h1 h2 ho ht (k p e R s m args below meth c H locs ls Qm hC hI hL hR)
theorem ev_tableOut {dflt lo hi : Int} {offs : Array Int} {len : Nat} {x : Int32} (tgt : Nat) (hd : decode (mB M) pc = .ok (.tableswitch dflt lo hi offs, len)) (h : x.toInt < lo ∨ hi < x.toInt) (ht : (pc : Int) + dflt = (tgt : Int)) (k : Ev X M Q kc ks S tgt L st) : Ev X M Q kc ks S pc L (.int x :: st) := by
  intro p e R s m args below meth c H locs ls Qm hC hI hL hR
  exact lv_tableOut hC.1 hC.2.1 hd h ht (k p e R s m args below meth c H locs ls Qm hC hI hL hR)
theorem ev_lookup {dflt : Int} {ps : Array (Int × Int)} {len : Nat} {x : Int32} {off : Int} (tgt : Nat) (hd : decode (mB M) pc = .ok (.lookupswitch dflt ps, len)) (hp : (ps.toList.zip (ps.toList.drop 1)).all (fun (a, next) => a.1 < next.1) = true) (ho : Op.lookupswitch.offset ps.toList dflt x.toInt = off) (ht : (pc : Int) + off = (tgt : Int)) (k : Ev X M Q kc ks S tgt L st) : Ev X M Q kc ks S pc L (.int x :: st) := by
  intro p e R s m args below meth c H locs ls Qm hC hI hL hR
  exact lv_lookup hC.1 hC.2.1 hd hp ho ht (k p e R s m args below meth c H locs ls Qm hC hI hL hR)
theorem ev_ldc {idx : Nat} {v : Int32} (hd : decode (mB M) pc = .ok (.ldc idx, 2)) (hw : Jvm.Cond.constant (mO M) idx v ∈ am_T) (k : Ev X M Q kc ks S (pc + 2) L (.int v :: st)) : Ev X M Q kc ks S pc L st := by
  intro p e R s m args below meth c H locs ls Qm hC hI hL hR
  exact lv_ldc hC.1 hC.2.1 hC.2.2.2.1 (hC.2.2.2.2.1 _ hw) hd (k p e R s m args below meth c H locs ls Qm hC hI hL hR)
theorem ev_ldc_w {idx : Nat} {v : Int32} (hd : decode (mB M) pc = .ok (.ldc_w idx, 3)) (hw : Jvm.Cond.constant (mO M) idx v ∈ am_T) (k : Ev X M Q kc ks S (pc + 3) L (.int v :: st)) : Ev X M Q kc ks S pc L st := by
  intro p e R s m args below meth c H locs ls Qm hC hI hL hR
  exact lv_ldcw hC.1 hC.2.1 hC.2.2.2.1 (hC.2.2.2.2.1 _ hw) hd (k p e R s m args below meth c H locs ls Qm hC hI hL hR)
theorem ev_ldc2_w {idx : Nat} {v : Int64} (hd : decode (mB M) pc = .ok (.ldc2_w idx, 3)) (hw : Jvm.Cond.constantLong (mO M) idx v ∈ am_T) (k : Ev X M Q kc ks S (pc + 3) L (.long v :: st)) : Ev X M Q kc ks S pc L st := by
  intro p e R s m args below meth c H locs ls Qm hC hI hL hR
  exact lv_ldc2 hC.1 hC.2.1 hC.2.2.2.1 (hC.2.2.2.2.1 _ hw) hd (k p e R s m args below meth c H locs ls Qm hC hI hL hR)
theorem ev_iret {v : Int32} {ty : FieldType} (hd : decode (mB M) pc = .ok (.ireturn, 1)) (hr : mR M = some ty) (hn : narrow ty (.int v) = .int v) (hc : kc ≤ mC M) (hs : ks ≤ mS M) (hQ : Q (some (.int v)) S) : Ev X M Q kc ks S pc L [.int v] := by
  intro p e R s m args below meth c H locs ls Qm hC hI hL hR
  exact W.widen hc hs (hR (some (.int v)) S H locs pc ls hQ hI (Or.inr (Or.inl ⟨v, ty, rfl, hr, hn, hd⟩)))
theorem ev_lret {v : Int64} (hd : decode (mB M) pc = .ok (.lreturn, 1)) (hr : mR M = some .long) (hc : kc ≤ mC M) (hs : ks ≤ mS M) (hQ : Q (some (.long v)) S) : Ev X M Q kc ks S pc L [.long v] := by
  intro p e R s m args below meth c H locs ls Qm hC hI hL hR
  exact W.widen hc hs (hR (some (.long v)) S H locs pc ls hQ hI (Or.inr (Or.inr ⟨v, rfl, hr, hd⟩)))
theorem ev_ret (hd : decode (mB M) pc = .ok (.return_, 1)) (hr : mR M = none) (hc : kc ≤ mC M) (hs : ks ≤ mS M) (hQ : Q none S) : Ev X M Q kc ks S pc L [] := by
  intro p e R s m args below meth c H locs ls Qm hC hI hL hR
  exact W.widen hc hs (hR none S H locs pc ls hQ hI (Or.inl ⟨rfl, hr, hd⟩))
end EVR
end
section
/-! ===== the heap's instructions ===== -/
theorem am_O.P1 {X : Cx} {h : Hp} {H : Heap} {a : Nat} {o : Ob} (hO : am_O X h H) (ho : h a = some o) : va_P (xG X) am_cls [(a, am_E (xc X) o)] H := by
  intro k q hq
  match k, hq with
  | 0, hq => cases hq; exact (hO a o ho).2
  | k + 1, hq => simp at hq
theorem am_O.up {X : Cx} {h : Hp} {H H' : Heap} {a : Nat} {o : Ob} (hO : am_O X h H) (ha : xlo X ≤ a) (e : ∀ q : Nat, q ≠ a → H'[q]? = H[q]?) (ho : va_at (xG X) am_cls (a, am_E (xc X) o) H') : am_O X (hup h a o) H' := by
  intro q x hq
  by_cases h1 : q = a
  · subst h1
    rw [up_s] at hq
    cases hq
    exact ⟨ha, ho⟩
  · rw [up_n h1] at hq
    exact ⟨(hO q x hq).1, (hO q x hq).2.kept (e q h1)⟩
theorem am_O.new {X : Cx} {h : Hp} {H H' : Heap} {a : Nat} {o : Ob} (hO : am_O X h H) (ha : a = H.size) (hlo : xlo X ≤ a) (e : ∀ q : Nat, q < a → H'[q]? = H[q]?) (ho : va_at (xG X) am_cls (a, am_E (xc X) o) H') : am_O X (hup h a o) H' := by
  intro q x hq
  by_cases h1 : q = a
  · subst h1
    rw [up_s] at hq
    cases hq
    exact ⟨hlo, ho⟩
  · rw [up_n h1] at hq
    have hl := (hO q x hq).2.lt
    exact ⟨(hO q x hq).1, (hO q x hq).2.kept (e q (by show q < a; rw [ha]; exact hl))⟩
theorem am_I.up {X : Cx} {s : State} {S : Hs} {H H' : Heap} {locs L : List Loc} {a : Nat} {o : Ob} (hI : am_I X s S H locs) (ha : xlo X ≤ a) (z : H'.size = H.size) (e : ∀ q : Nat, q ≠ a → H'[q]? = H[q]?) (hL : ∀ l ∈ L, l.base = a) (ho : va_at (xG X) am_cls (a, am_E (xc X) o) H') : am_I X s (hup S.1 a o, S.2) H' (locs ++ L) := by
  obtain ⟨h1, h2, h3, h4, h5, h6⟩ := hI
  refine ⟨z.trans h1, h2.up ha e ho, fun l hl => ?_, by rw [z]; exact h4, h5, fun q hq => ?_⟩
  · rcases List.mem_append.mp hl with h | h
    · exact h3 l h
    · rw [hL l h]; exact ha
  · rw [e q (by intro q2; subst q2; exact absurd hq (Nat.not_lt.mpr ha))]
    exact h6 q hq
theorem am_I.new {X : Cx} {s : State} {S : Hs} {H H' : Heap} {locs : List Loc} {o : Ob} (hI : am_I X s S H locs) (z : H'.size = H.size + 1) (e : ∀ q : Nat, q < H.size → H'[q]? = H[q]?) (ho : va_at (xG X) am_cls (H.size, am_E (xc X) o) H') : am_I X s (hup S.1 S.2 o, S.2 + 1) H' locs := by
  obtain ⟨h1, h2, h3, h4, h5, h6⟩ := hI
  rw [h1] at z e ho
  have hlo : xlo X ≤ S.2 := by omega
  refine ⟨z, h2.new (by omega) hlo e ho, h3, by omega, h5, fun q hq => ?_⟩
  rw [e q (by omega)]
  exact h6 q hq
theorem am_at_o {X : Cx} {H : Heap} {a ci : Nat} {fs : List Value} {C : String} {T : u_T} {N : Nat} (hc : am_cls[ci]? = some (C, T, N)) (h : va_at (xG X) am_cls (a, .inr (ci, fs)) H) : t_OB a ((xG X).1 ci) N ((xG X).2 ci) H (vp_V fs) := by
  obtain ⟨r, h1, h2⟩ := h
  have hr : r = (C, T, N) := Option.some.inj (h1.symm.trans hc)
  subst hr
  exact h2
theorem am_ar {X : Cx} {U : State} (h : am_K X U) {t : Nat} (ht : t < 7) : ArrOfT U (xc X t) (am_ty t) ∧ va_RA U (xc X t) (am_ty t) := by
  match t, ht with
  | 0, _ => exact h.1.2 0 _ rfl
  | 1, _ => exact h.1.2 1 _ rfl
  | 2, _ => exact h.1.2 2 _ rfl
  | 3, _ => exact h.1.2 3 _ rfl
  | 4, _ => exact h.1.2 4 _ rfl
  | 5, _ => exact h.1.2 5 _ rfl
  | 6, _ => exact h.1.2 6 _ rfl
theorem am_idx {i : Int32} {n N : Nat} (hi : i.toInt = (n : Int)) (hn : n < N) : ¬ (i < 0 ∨ N ≤ i.toNatClampNeg) ∧ i.toNatClampNeg = n := by
  have h1 : i.toNatClampNeg = n := by show i.toInt.toNat = n; rw [hi]; rfl
  refine ⟨?_, h1⟩
  rintro (h | h)
  · have := Int32.lt_iff_toInt_lt.mp h
    rw [hi] at this
    simp at this
    omega
  · omega
section EVH
variable {X : Cx} {M : Mi} {Q : Option Value → Hs → Prop} {kc ks : Nat} {S : Hs} {pc : Nat} {L st : List Value}
theorem ev_get {idx ci N k : Nat} {C ref : String} {T : u_T} {a : Nat} {fs : List Value} {v : Value} (hd : decode (mB M) pc = .ok (.getfield idx, 3)) (hc : am_cls[ci]? = some (C, T, N)) (hin : ∀ w ∈ u_ws C T N, w ∈ am_T) (hk : k < N) (hlink : Cond.fieldLink (mO M) idx ref (T k).2.1 (T k).2.2.1 ∈ am_T) (hsame : ref = (T k).1 ∨ Cond.sameField ref (T k).1 (T k).2.1 (T k).2.2.1 ∈ am_T) (ho : S.1 a = some (.inl (ci, fs))) (hv : fs[k]? = some v) (kk : Ev X M Q kc ks S (pc + 3) L (v :: st)) : Ev X M Q kc ks S pc L (.ref a :: st) := by
  intro p e R s m args below meth c H locs ls Qm hC hI hL hR
  have hts := hC.2.2.2.2.1
  refine va_get (D := xG X) (cl := am_cls) (tys := am_tys (xc X)) hC.1 hC.2.1 hts hin hC.2.2.2.1 hC.2.2.2.2.2.1.1 (hI.2.1.P1 ho) 0 rfl hc k hk (hts _ hlink) ?_ hv hd (kk p e R s m args below meth c H locs ls Qm hC hI hL hR)
  intro x hx
  rcases hsame with h | h
  · rw [h]; exact hx
  · exact u_same (hts _ h) x hx
theorem ev_put {idx ci N k : Nat} {C ref : String} {T : u_T} {ty0 : Nat → FieldType} {a : Nat} {fs fs' : List Value} {v : Value} (hd : decode (mB M) pc = .ok (.putfield idx, 3)) (hc : am_cls[ci]? = some (C, T, N)) (hin : ∀ w ∈ u_ws C T N, w ∈ am_T) (hty : ∀ k, k < N → parseFieldDescriptor (T k).2.2.1 = some (ty0 k)) (hnm : ∀ a, a < N → ∀ b, b < N → a ≠ b → (T a).2.1 ≠ (T b).2.1) (hk : k < N) (hlink : Cond.fieldLink (mO M) idx ref (T k).2.1 (T k).2.2.1 ∈ am_T) (hsame : ref = (T k).1 ∨ Cond.sameField ref (T k).1 (T k).2.1 (T k).2.2.1 ∈ am_T) (hfin : (T k).2.2.2 = false) (hn : narrow (ty0 k) v = v) (hfit : fits (ty0 k) v = true) (ho : S.1 a = some (.inl (ci, fs))) (hl : k < fs.length) (hfs : fs.set k v = fs') (kk : Ev X M Q kc ks (hup S.1 a (.inl (ci, fs')), S.2) (pc + 3) L st) : Ev X M Q kc ks S pc L (v :: .ref a :: st) := by
  intro p e R s m args below meth c H locs ls Qm hC hI hL hR
  subst hfs
  have hts := hC.2.2.2.2.1
  have hK := hC.2.2.2.2.2.1.1
  have hap := va_apart (own := mO M) hts hin ty0 hty hnm hK hc
  obtain ⟨hlo, hat⟩ := hI.2.1 a _ ho
  obtain ⟨cell, q1, q2, q3, q4⟩ := am_at_o hc hat
  obtain ⟨hS, hfc, kC, hkC, hkind⟩ := hK.1 ci _ hc
  obtain ⟨cf, kf, fi, f, hi, hsl⟩ := hS k hk
  have hlay := hts _ (hin _ (u_in_lay hk))
  unfold u_lay at hlay
  rw [if_neg (by rw [hfin]; decide)] at hlay
  have hst := (u_facts hfc hkC (u_lays hts hin hk) hi).1
  have h6 := u_store hfc hkC hkind hlay hi (hty k hk) hn hfit
  have hsame2 : s.fieldFound? ref (T k).2.1 (T k).2.2.1 = some (cf, kf, fi, f) := by
    rcases hsame with h | h
    · rw [h]; exact hi
    · exact u_same (hts _ h) _ hi
  refine W.putK hC.1 hC.2.1 (f := f) ⟨hC.2.2.2.1, hts _ hlink, ⟨_, _, _, hsame2⟩, hst⟩ (by rw [q2]; exact h6) q1 q3 (by rw [hsl]; exact k2_hasslot (q4 k hk)) rfl rfl hd fun H' e1 e2 e3 => ?_
  rw [hsl] at e1 ⊢
  refine kk p e R s m args below meth c H' _ ls Qm hC (hI.up hlo e2 e3 (by intro l hl; simp at hl; rw [hl]) ?_) hL hR
  exact ⟨_, hc, t_OB.to (V := updV (vp_V fs) k v) ⟨_, e1, q2, q3, t_set q4 hap hk v⟩ (fun j _ => vp_updV_set hl v j)⟩
theorem ev_putF {idx ci N k : Nat} {C : String} {T : u_T} {ty0 : Nat → FieldType} {a : Nat} {fs fs' : List Value} {v : Value} (hd : decode (mB M) pc = .ok (.putfield idx, 3)) (hc : am_cls[ci]? = some (C, T, N)) (hin : ∀ w ∈ u_ws C T N, w ∈ am_T) (hty : ∀ k, k < N → parseFieldDescriptor (T k).2.2.1 = some (ty0 k)) (hnm : ∀ a, a < N → ∀ b, b < N → a ≠ b → (T a).2.1 ≠ (T b).2.1) (hk : k < N) (hlink : Cond.fieldLink (mO M) idx (T k).1 (T k).2.1 (T k).2.2.1 ∈ am_T) (hfin : (T k).2.2.2 = true) (hinit : mN M = "<init>") (hdecl : (T k).1 = mO M) (hn : narrow (ty0 k) v = v) (hfit : fits (ty0 k) v = true) (ho : S.1 a = some (.inl (ci, fs))) (hl : k < fs.length) (hfs : fs.set k v = fs') (kk : Ev X M Q kc ks (hup S.1 a (.inl (ci, fs')), S.2) (pc + 3) L st) : Ev X M Q kc ks S pc L (v :: .ref a :: st) := by
  intro p e R s m args below meth c H locs ls Qm hC hI hL hR
  subst hfs
  have hts := hC.2.2.2.2.1
  have hK := hC.2.2.2.2.2.1.1
  have hown := hC.2.2.2.1
  have hap := va_apart (own := mO M) hts hin ty0 hty hnm hK hc
  obtain ⟨hlo, hat⟩ := hI.2.1 a _ ho
  obtain ⟨cell, q1, q2, q3, q4⟩ := am_at_o hc hat
  obtain ⟨hS, hfc, kC, hkC, hkind⟩ := hK.1 ci _ hc
  obtain ⟨cf, kf, fi, f, hi, hsl⟩ := hS k hk
  have hlay := hts _ (hin _ (u_in_lay hk))
  unfold u_lay at hlay
  rw [if_pos hfin] at hlay
  have hst := (u_facts hfc hkC (u_lays hts hin hk) hi).1
  have hcf : m.cls = cf := by
    obtain ⟨_, _, c', _, _, _, -, -, hf', -, -, -, hown2, -⟩ := Cond.laysFinal_spec hlay
    have e1 : c' = cf := by have := hi.symm.trans hf'; simp at this; exact this.1.symm
    rw [hdecl] at hown2
    rw [← e1]; exact Option.some.inj (hown.symm.trans hown2)
  have h6 := u_fits hfc hkC hkind (Or.inr hlay) hi (hty k hk) hn hfit
  refine W.putFinK hC.1 hC.2.1 hown (hts _ hlink) hi hst hcf (hC.2.2.2.2.2.2.2.1.trans hinit) (by rw [q2]; exact h6) q1 q3 (by rw [hsl]; exact k2_hasslot (q4 k hk)) rfl rfl hd fun H' e1 e2 e3 => ?_
  rw [hsl] at e1 ⊢
  refine kk p e R s m args below meth c H' _ ls Qm hC (hI.up hlo e2 e3 (by intro l hl; simp at hl; rw [hl]) ?_) hL hR
  exact ⟨_, hc, t_OB.to (V := updV (vp_V fs) k v) ⟨_, e1, q2, q3, t_set q4 hap hk v⟩ (fun j _ => vp_updV_set hl v j)⟩
theorem ev_new {idx ci N : Nat} {C : String} {T : u_T} {ty0 : Nat → FieldType} {fs : List Value} (hd : decode (mB M) pc = .ok (.new idx, 3)) (hc : am_cls[ci]? = some (C, T, N)) (hin : ∀ w ∈ u_ws C T N, w ∈ am_T) (hty : ∀ k, k < N → parseFieldDescriptor (T k).2.2.1 = some (ty0 k)) (hcl : Cond.classLink (mO M) idx C ∈ am_T) (hinst : Cond.instantiable C N ∈ am_T) (hini : Cond.initialized C ∈ am_T) (hfs : ∀ j, j < N → defaultValue (ty0 j) = vp_V fs j) (hcells : kc + 1 ≤ mC M) (hslots : ks + N ≤ mS M) (kk : Ev X M Q (kc + 1) (ks + N) (hup S.1 S.2 (.inl (ci, fs)), S.2 + 1) (pc + 3) L (.ref S.2 :: st)) : Ev X M Q kc ks S pc L st := by
  intro p e R s m args below meth c H locs ls Qm hC hI hL hR
  have hts := hC.2.2.2.2.1
  have hK := hC.2.2.2.2.2.1.1
  have hRR := hC.2.2.2.2.2.2.2.2.2
  have hKn := hK.1 ci _ hc
  refine W.newcK hC.1 hC.2.1 hC.2.2.2.1 (hts _ hcl) (hts _ hinst) (hts _ hini) rfl hd (by rw [hRR]; exact hcells) (by rw [hRR]; exact hslots) hKn.2.1 rfl fun H1 kC hkC e1 z1 o1 => ?_
  have hz := hI.1
  refine W.eq (g2 := F0 m (pc + 3) ls (.ref S.2 :: st)) (by rw [← hz]) (kk p e R s m args below meth c H1 _ ls Qm hC (hI.new z1 o1 ?_) hL hR)
  exact ⟨_, hc, (u_born ty0 hts hin hKn hkC e1 hty).to hfs⟩
theorem am_rep0 (N : Nat) (j : Nat) : (List.replicate N (0 : Int32)).getD j 0 = 0 := by
  rw [List.getD_eq_getElem?_getD, List.getElem?_replicate]; split <;> rfl
theorem am_rep0l (N : Nat) (j : Nat) : (List.replicate N (0 : Int64)).getD j 0 = 0 := by
  rw [List.getD_eq_getElem?_getD, List.getElem?_replicate]; split <;> rfl
theorem am_rep0q (N : Nat) (j : Nat) : (List.replicate N (none : Option Nat)).getD j none = none := by
  rw [List.getD_eq_getElem?_getD, List.getElem?_replicate]; split <;> rfl
/-- new int[], byte[], boolean[] (t is 0, 1, 2) -/
theorem ev_newi {at_ : ArrayType} {t N : Nat} {n : Int32} (hd : decode (mB M) pc = .ok (.newarray at_, 2)) (ht : t < 3) (hty : newarray.typeOf at_ = am_ty t) (hw : Cond.arrayClass (newarray.typeOf at_) ∈ am_T) (hi : n.toInt = (N : Int)) (hsm : N * componentBytes (newarray.typeOf at_) ≤ 536870912) (hcells : kc + 1 ≤ mC M) (hslots : ks + N ≤ mS M) (kk : Ev X M Q (kc + 1) (ks + N) (hup S.1 S.2 (.inr (t, .inl (List.replicate N 0))), S.2 + 1) (pc + 2) L (.ref S.2 :: st)) : Ev X M Q kc ks S pc L (.int n :: st) := by
  intro p e R s m args below meth c H locs ls Qm hC hI hL hR
  have hts := hC.2.2.2.2.1
  have hRR := hC.2.2.2.2.2.2.2.2.2
  obtain ⟨h0, h1⟩ := am_idx (N := N + 1) hi (by omega)
  refine va_newaK hC.1 hC.2.1 (hts _ hw) rfl hd rfl (fun q => h0 (Or.inl q)) h1 hsm (by rw [hRR]; exact hcells) (by rw [hRR]; exact hslots) rfl fun H1 cA e1 z1 o1 hAr hNm => ?_
  have hz := hI.1
  refine W.eq (g2 := F0 m (pc + 2) ls (.ref S.2 :: st)) (by rw [← hz]) (kk p e R s m args below meth c H1 _ ls Qm hC (hI.new z1 o1 ?_) hL hR)
  have hRA := (am_ar hC.2.2.2.2.2.1 (t := t) (by omega)).2
  have hcA : cA = xc X t := by
    rw [hty] at hNm
    match t, ht, hRA, hNm with
    | 0, _, hRA, hNm => exact Option.some.inj (hNm.symm.trans hRA)
    | 1, _, hRA, hNm => exact Option.some.inj (hNm.symm.trans hRA)
    | 2, _, hRA, hNm => exact Option.some.inj (hNm.symm.trans hRA)
  show H1[H.size]? = some (vp_cell _ _)
  rw [e1, hcA, hty, vp_cell_i]
  have hdv : defaultValue (am_ty t) = .int 0 := by
    match t, ht with
    | 0, _ => rfl
    | 1, _ => rfl
    | 2, _ => rfl
  rw [hdv, List.length_replicate]
  congr 2
  funext j
  rw [am_rep0]
theorem ev_newl {N : Nat} {n : Int32} (hd : decode (mB M) pc = .ok (.newarray .long, 2)) (hw : Cond.arrayClass (newarray.typeOf .long) ∈ am_T) (hi : n.toInt = (N : Int)) (hsm : N * componentBytes (newarray.typeOf .long) ≤ 536870912) (hcells : kc + 1 ≤ mC M) (hslots : ks + N ≤ mS M) (kk : Ev X M Q (kc + 1) (ks + N) (hup S.1 S.2 (.inr (3, .inr (.inl (List.replicate N 0)))), S.2 + 1) (pc + 2) L (.ref S.2 :: st)) : Ev X M Q kc ks S pc L (.int n :: st) := by
  intro p e R s m args below meth c H locs ls Qm hC hI hL hR
  have hts := hC.2.2.2.2.1
  have hRR := hC.2.2.2.2.2.2.2.2.2
  obtain ⟨h0, h1⟩ := am_idx (N := N + 1) hi (by omega)
  refine va_newaK hC.1 hC.2.1 (hts _ hw) rfl hd rfl (fun q => h0 (Or.inl q)) h1 hsm (by rw [hRR]; exact hcells) (by rw [hRR]; exact hslots) rfl fun H1 cA e1 z1 o1 hAr hNm => ?_
  have hz := hI.1
  refine W.eq (g2 := F0 m (pc + 2) ls (.ref S.2 :: st)) (by rw [← hz]) (kk p e R s m args below meth c H1 _ ls Qm hC (hI.new z1 o1 ?_) hL hR)
  have hRA := (am_ar hC.2.2.2.2.2.1 (t := 3) (by omega)).2
  have hcA : cA = xc X 3 := Option.some.inj (hNm.symm.trans hRA)
  show H1[H.size]? = some (vp_cell _ _)
  rw [e1, hcA, vp_cell_l, List.length_replicate]
  show some (arrV _ _ fun _ => Value.long 0) = _
  congr 2
  funext j
  rw [am_rep0l]
theorem ev_newq {idx t N : Nat} {C : String} {n : Int32} (hd : decode (mB M) pc = .ok (.anewarray idx, 3)) (ht : t < 7) (hty : am_ty t = .object C) (hw : Cond.classLink (mO M) idx C ∈ am_T) (hov : C ∈ am_over) (hi : n.toInt = (N : Int)) (hsm : N * 4 ≤ 536870912) (hcells : kc + 1 ≤ mC M) (hslots : ks + N ≤ mS M) (kk : Ev X M Q (kc + 1) (ks + N) (hup S.1 S.2 (.inr (t, .inr (.inr (List.replicate N none)))), S.2 + 1) (pc + 3) L (.ref S.2 :: st)) : Ev X M Q kc ks S pc L (.int n :: st) := by
  intro p e R s m args below meth c H locs ls Qm hC hI hL hR
  have hts := hC.2.2.2.2.1
  have hRR := hC.2.2.2.2.2.2.2.2.2
  obtain ⟨h0, h1⟩ := am_idx (N := N + 1) hi (by omega)
  refine W.anew hC.1 hC.2.1 hC.2.2.2.1 (hts _ hw) (va_AO.use (hC.2.2.2.2.2.1.2.2.2 C hov)) rfl hd rfl (fun q => h0 (Or.inl q)) (by rw [h1]; exact hsm) (by rw [hRR]; exact hcells) (by rw [hRR, h1]; exact hslots) fun cA kA comp f1 f2 f3 f4 => ?_
  rw [h1]
  have hz := hI.1
  refine W.eq (g2 := F0 m (pc + 3) ls (.ref S.2 :: st)) (by rw [← hz]) (kk p e R s m args below meth c (H.push ({ cls := cA, slots := Array.replicate N .null, vm := .none } : Cell)) _ ls Qm hC (hI.new (by rw [Array.size_push]) (fun q hq => by rw [Array.getElem?_push, if_neg (Nat.ne_of_lt hq)]) ?_) hL hR)
  have hRA := (am_ar hC.2.2.2.2.2.1 ht).2
  rw [hty] at hRA
  obtain ⟨kA2, comp2, g1, g2, g3, g4⟩ := hRA
  have hcA : cA = xc X t := Option.some.inj (f1.symm.trans g4)
  show (H.push _)[H.size]? = some (vp_cell _ _)
  rw [Array.getElem?_push_size, hcA, vp_cell_q, List.length_replicate, arrV_new]
  congr 2
  funext j
  rw [am_rep0q]
  rfl
theorem ev_iald {i : Int32} {a n : Nat} {xs : List Int32} {x : Int32} (hd : decode (mB M) pc = .ok (.iaload, 1)) (ho : S.1 a = some (.inr (0, .inl xs))) (hi : i.toInt = (n : Int)) (hx : xs[n]? = some x) (kk : Ev X M Q kc ks S (pc + 1) L (.int x :: st)) : Ev X M Q kc ks S pc L (.int i :: .ref a :: st) := by
  intro p e R s m args below meth c H locs ls Qm hC hI hL hR
  obtain ⟨h0, h1⟩ := am_idx hi (List.getElem?_eq_some_iff.mp hx).1
  have e1 : xs.getD i.toNatClampNeg 0 = x := by rw [h1, List.getD_eq_getElem?_getD, hx]; rfl
  refine va_iald (D := xG X) (cl := am_cls) (tys := am_tys (xc X)) hC.1 hC.2.1 hC.2.2.2.2.2.1.1 (hI.2.1.P1 ho) 0 0 rfl rfl h0 hd ?_
  rw [e1]
  exact kk p e R s m args below meth c H locs ls Qm hC hI hL hR
theorem ev_bald {i : Int32} {a n : Nat} {xs : List Int32} {x : Int32} (hd : decode (mB M) pc = .ok (.baload, 1)) (ho : S.1 a = some (.inr (1, .inl xs))) (hi : i.toInt = (n : Int)) (hx : xs[n]? = some x) (kk : Ev X M Q kc ks S (pc + 1) L (.int x :: st)) : Ev X M Q kc ks S pc L (.int i :: .ref a :: st) := by
  intro p e R s m args below meth c H locs ls Qm hC hI hL hR
  obtain ⟨h0, h1⟩ := am_idx hi (List.getElem?_eq_some_iff.mp hx).1
  have e1 : xs.getD i.toNatClampNeg 0 = x := by rw [h1, List.getD_eq_getElem?_getD, hx]; rfl
  refine va_bald (D := xG X) (cl := am_cls) (tys := am_tys (xc X)) hC.1 hC.2.1 hC.2.2.2.2.2.1.1 (hI.2.1.P1 ho) 0 1 rfl rfl h0 hd ?_
  rw [e1]
  exact kk p e R s m args below meth c H locs ls Qm hC hI hL hR
theorem ev_zald {i : Int32} {a n : Nat} {xs : List Int32} {x : Int32} (hd : decode (mB M) pc = .ok (.baload, 1)) (ho : S.1 a = some (.inr (2, .inl xs))) (hi : i.toInt = (n : Int)) (hx : xs[n]? = some x) (kk : Ev X M Q kc ks S (pc + 1) L (.int x :: st)) : Ev X M Q kc ks S pc L (.int i :: .ref a :: st) := by
  intro p e R s m args below meth c H locs ls Qm hC hI hL hR
  obtain ⟨h0, h1⟩ := am_idx hi (List.getElem?_eq_some_iff.mp hx).1
  have e1 : xs.getD i.toNatClampNeg 0 = x := by rw [h1, List.getD_eq_getElem?_getD, hx]; rfl
  refine va_zald (D := xG X) (cl := am_cls) (tys := am_tys (xc X)) hC.1 hC.2.1 hC.2.2.2.2.2.1.1 (hI.2.1.P1 ho) 0 2 rfl rfl h0 hd ?_
  rw [e1]
  exact kk p e R s m args below meth c H locs ls Qm hC hI hL hR
theorem ev_lald {i : Int32} {a n : Nat} {xs : List Int64} {x : Int64} (hd : decode (mB M) pc = .ok (.laload, 1)) (ho : S.1 a = some (.inr (3, .inr (.inl xs)))) (hi : i.toInt = (n : Int)) (hx : xs[n]? = some x) (kk : Ev X M Q kc ks S (pc + 1) L (.long x :: st)) : Ev X M Q kc ks S pc L (.int i :: .ref a :: st) := by
  intro p e R s m args below meth c H locs ls Qm hC hI hL hR
  obtain ⟨h0, h1⟩ := am_idx hi (List.getElem?_eq_some_iff.mp hx).1
  have e1 : xs.getD i.toNatClampNeg 0 = x := by rw [h1, List.getD_eq_getElem?_getD, hx]; rfl
  refine va_lald (D := xG X) (cl := am_cls) (tys := am_tys (xc X)) hC.1 hC.2.1 hC.2.2.2.2.2.1.1 (hI.2.1.P1 ho) 0 3 rfl rfl h0 hd ?_
  rw [e1]
  exact kk p e R s m args below meth c H locs ls Qm hC hI hL hR
theorem ev_aald {i : Int32} {a n r : Nat} {rs : List (Option Nat)} {t : Nat} {C : String} (hd : decode (mB M) pc = .ok (.aaload, 1)) (ht : (am_tys (xc X))[t]? = some (xc X t, .object C)) (ho : S.1 a = some (.inr (t, .inr (.inr rs)))) (hi : i.toInt = (n : Int)) (hx : rs[n]? = some (some r)) (kk : Ev X M Q kc ks S (pc + 1) L (.ref r :: st)) : Ev X M Q kc ks S pc L (.int i :: .ref a :: st) := by
  intro p e R s m args below meth c H locs ls Qm hC hI hL hR
  obtain ⟨h0, h1⟩ := am_idx hi (List.getElem?_eq_some_iff.mp hx).1
  have e1 : rs.getD i.toNatClampNeg none = some r := by rw [h1, List.getD_eq_getElem?_getD, hx]; rfl
  refine va_aldq (D := xG X) (cl := am_cls) (tys := am_tys (xc X)) hC.1 hC.2.1 hC.2.2.2.2.2.1.1 (hI.2.1.P1 ho) 0 t rfl ht h0 hd ?_
  rw [e1]
  exact kk p e R s m args below meth c H locs ls Qm hC hI hL hR
theorem am_set_i (xs : List Int32) (n : Nat) (x : Int32) (hn : n < xs.length) (cA : ClassId) : arrV cA xs.length (updV (fun j => .int (xs.getD j 0)) n (.int x)) = arrV cA (xs.set n x).length (fun j => .int ((xs.set n x).getD j 0)) := by
  rw [List.length_set]
  congr 1
  funext j
  simp only [updV, List.getD_eq_getElem?_getD, List.getElem?_set]
  by_cases h : j = n
  · subst h
    simp [hn]
  · simp [h, Ne.symm h]
theorem am_set_l (xs : List Int64) (n : Nat) (x : Int64) (hn : n < xs.length) (cA : ClassId) : arrV cA xs.length (updV (fun j => .long (xs.getD j 0)) n (.long x)) = arrV cA (xs.set n x).length (fun j => .long ((xs.set n x).getD j 0)) := by
  rw [List.length_set]
  congr 1
  funext j
  simp only [updV, List.getD_eq_getElem?_getD, List.getElem?_set]
  by_cases h : j = n
  · subst h
    simp [hn]
  · simp [h, Ne.symm h]
theorem am_set_q (xs : List (Option Nat)) (n : Nat) (x : Nat) (hn : n < xs.length) (cA : ClassId) : arrV cA xs.length (updV (fun j => va_rf (xs.getD j none)) n (.ref x)) = arrV cA (xs.set n (some x)).length (fun j => va_rf ((xs.set n (some x)).getD j none)) := by
  rw [List.length_set]
  congr 1
  funext j
  simp only [updV, List.getD_eq_getElem?_getD, List.getElem?_set]
  by_cases h : j = n
  · subst h
    simp [hn, va_rf]
  · simp [h, Ne.symm h]
theorem ev_iast {i x : Int32} {a n : Nat} {xs : List Int32} (hd : decode (mB M) pc = .ok (.iastore, 1)) (ho : S.1 a = some (.inr (0, .inl xs))) (hi : i.toInt = (n : Int)) (hn : n < xs.length) (kk : Ev X M Q kc ks (hup S.1 a (.inr (0, .inl (xs.set n x))), S.2) (pc + 1) L st) : Ev X M Q kc ks S pc L (.int x :: .int i :: .ref a :: st) := by
  intro p e R s m args below meth c H locs ls Qm hC hI hL hR
  obtain ⟨h0, h1⟩ := am_idx hi hn
  obtain ⟨hlo, hat⟩ := hI.2.1 a _ ho
  refine W.iast hC.1 hC.2.1 hat ((am_ar hC.2.2.2.2.2.1 (t := 0) (by omega)).1 xs.length (fun j => .int (xs.getD j 0))) (fun q => by cases q) (by show ¬ (i < 0 ∨ (arrV _ _ _).slots.size ≤ _); rw [arrV_size]; exact h0) rfl rfl hd fun H1 e1 z oq => ?_
  refine kk p e R s m args below meth c H1 _ ls Qm hC (hI.up hlo z oq (by intro l hl; simp at hl; rw [hl]) ?_) hL hR
  have e2 : H1[a]? = some (arrV (xc X 0) (xs.set n x).length (fun j => .int ((xs.set n x).getD j 0))) := by
    rw [e1, h1, ← am_set_i xs n x hn]
    exact congrArg some (arrV_store _ _ _ _ _)
  exact e2
theorem ev_bast {i x y : Int32} {a n : Nat} {xs : List Int32} (hd : decode (mB M) pc = .ok (.bastore, 1)) (ho : S.1 a = some (.inr (1, .inl xs))) (hi : i.toInt = (n : Int)) (hn : n < xs.length) (hy : narrow .byte (.int x) = .int y) (kk : Ev X M Q kc ks (hup S.1 a (.inr (1, .inl (xs.set n y))), S.2) (pc + 1) L st) : Ev X M Q kc ks S pc L (.int x :: .int i :: .ref a :: st) := by
  intro p e R s m args below meth c H locs ls Qm hC hI hL hR
  obtain ⟨h0, h1⟩ := am_idx hi hn
  obtain ⟨hlo, hat⟩ := hI.2.1 a _ ho
  refine W.bast hC.1 hC.2.1 hat ((am_ar hC.2.2.2.2.2.1 (t := 1) (by omega)).1 xs.length (fun j => .int (xs.getD j 0))) (fun q => by cases q) (by show ¬ (i < 0 ∨ (arrV _ _ _).slots.size ≤ _); rw [arrV_size]; exact h0) rfl rfl hd fun H1 e1 z oq => ?_
  refine kk p e R s m args below meth c H1 _ ls Qm hC (hI.up hlo z oq (by intro l hl; simp at hl; rw [hl]) ?_) hL hR
  have e2 : H1[a]? = some (arrV (xc X 1) (xs.set n y).length (fun j => .int ((xs.set n y).getD j 0))) := by
    rw [e1, h1, hy, ← am_set_i xs n y hn]
    exact congrArg some (arrV_store _ _ _ _ _)
  exact e2
theorem ev_zast {i x y : Int32} {a n : Nat} {xs : List Int32} (hd : decode (mB M) pc = .ok (.bastore, 1)) (ho : S.1 a = some (.inr (2, .inl xs))) (hi : i.toInt = (n : Int)) (hn : n < xs.length) (hy : narrow .boolean (.int x) = .int y) (kk : Ev X M Q kc ks (hup S.1 a (.inr (2, .inl (xs.set n y))), S.2) (pc + 1) L st) : Ev X M Q kc ks S pc L (.int x :: .int i :: .ref a :: st) := by
  intro p e R s m args below meth c H locs ls Qm hC hI hL hR
  obtain ⟨h0, h1⟩ := am_idx hi hn
  obtain ⟨hlo, hat⟩ := hI.2.1 a _ ho
  refine W.zast hC.1 hC.2.1 hat ((am_ar hC.2.2.2.2.2.1 (t := 2) (by omega)).1 xs.length (fun j => .int (xs.getD j 0))) (fun q => by cases q) (by show ¬ (i < 0 ∨ (arrV _ _ _).slots.size ≤ _); rw [arrV_size]; exact h0) rfl rfl hd fun H1 e1 z oq => ?_
  refine kk p e R s m args below meth c H1 _ ls Qm hC (hI.up hlo z oq (by intro l hl; simp at hl; rw [hl]) ?_) hL hR
  have e2 : H1[a]? = some (arrV (xc X 2) (xs.set n y).length (fun j => .int ((xs.set n y).getD j 0))) := by
    rw [e1, h1, hy, ← am_set_i xs n y hn]
    exact congrArg some (arrV_store _ _ _ _ _)
  exact e2
theorem ev_last {i : Int32} {x : Int64} {a n : Nat} {xs : List Int64} (hd : decode (mB M) pc = .ok (.lastore, 1)) (ho : S.1 a = some (.inr (3, .inr (.inl xs)))) (hi : i.toInt = (n : Int)) (hn : n < xs.length) (kk : Ev X M Q kc ks (hup S.1 a (.inr (3, .inr (.inl (xs.set n x)))), S.2) (pc + 1) L st) : Ev X M Q kc ks S pc L (.long x :: .int i :: .ref a :: st) := by
  intro p e R s m args below meth c H locs ls Qm hC hI hL hR
  obtain ⟨h0, h1⟩ := am_idx hi hn
  obtain ⟨hlo, hat⟩ := hI.2.1 a _ ho
  refine W.last hC.1 hC.2.1 hat ((am_ar hC.2.2.2.2.2.1 (t := 3) (by omega)).1 xs.length (fun j => .long (xs.getD j 0))) (fun q => by cases q) (by show ¬ (i < 0 ∨ (arrV _ _ _).slots.size ≤ _); rw [arrV_size]; exact h0) rfl rfl hd fun H1 e1 z oq => ?_
  refine kk p e R s m args below meth c H1 _ ls Qm hC (hI.up hlo z oq (by intro l hl; simp at hl; rw [hl]) ?_) hL hR
  have e2 : H1[a]? = some (arrV (xc X 3) (xs.set n x).length (fun j => .long ((xs.set n x).getD j 0))) := by
    rw [e1, h1, ← am_set_l xs n x hn]
    exact congrArg some (arrV_store _ _ _ _ _)
  exact e2
/-- the class of the cell v may stand in the array a -/
theorem ev_aast {i : Int32} {a n v t ci : Nat} {rs : List (Option Nat)} {fs : List Value} {C C2 : String} {T2 : u_T} {N2 : Nat} (hd : decode (mB M) pc = .ok (.aastore, 1)) (ht : t < 7) (hty : am_ty t = .object C) (ho : S.1 a = some (.inr (t, .inr (.inr rs)))) (hv : S.1 v = some (.inl (ci, fs))) (hc : am_cls[ci]? = some (C2, T2, N2)) (hcast : C2 = C ∨ (C2, C) ∈ am_cast) (hi : i.toInt = (n : Int)) (hn : n < rs.length) (kk : Ev X M Q kc ks (hup S.1 a (.inr (t, .inr (.inr (rs.set n (some v))))), S.2) (pc + 1) L st) : Ev X M Q kc ks S pc L (.ref v :: .int i :: .ref a :: st) := by
  intro p e R s m args below meth c H locs ls Qm hC hI hL hR
  obtain ⟨h0, h1⟩ := am_idx hi hn
  obtain ⟨hlo, hat⟩ := hI.2.1 a _ ho
  have hKK := hC.2.2.2.2.2.1
  obtain ⟨cellV, g1, g2, g3, -⟩ := am_at_o hc (hI.2.1 v _ hv).2
  have hcls := (hKK.1.1 ci _ hc).2
  have hRA := (am_ar hKK ht).2
  rw [hty] at hRA
  obtain ⟨kA, comp, k1, k2, k3, -⟩ := hRA
  obtain ⟨kC, hkC, -⟩ := hcls.2
  have hasg : s.vm.assignable cellV.cls comp = true ∧ ∃ kcomp, s.vm.classes[comp]? = some kcomp := by
    rcases hcast with h | h
    · subst h
      have hcomp : comp = (xG X).1 ci := Option.some.inj (k3.symm.trans hcls.1)
      subst hcomp
      exact ⟨by rw [g2]; exact va_assign hcls, kC, hkC⟩
    · refine ⟨vb_asgC (hKK.2.2.1 _ h) comp _ k3 (by rw [g2]; exact hcls.1), ?_⟩
      have hC7 : C = RX7 := by
        simp only [am_cast, List.mem_cons, Prod.mk.injEq, List.not_mem_nil, or_false] at h
        rcases h with h | h | h | h | h <;> exact h.2
      subst hC7
      obtain ⟨h71, k7, h72, -⟩ := (hKK.1.1 7 _ rfl).2
      cases k3.symm.trans h71
      exact ⟨k7, h72⟩
  obtain ⟨hasg, kcomp, hkcomp⟩ := hasg
  refine W.aast hC.1 hC.2.1 hat (fun q h => by cases h) (fun h => by cases h) k1 k2 rfl hkcomp ⟨fun q => h0 (Or.inl q), by show _ < (arrV _ _ _).slots.size; rw [arrV_size, h1]; exact hn⟩ g1 (fun q h => by rw [g3] at h; cases h) (by rw [g2]; exact hkC) hasg rfl rfl hd fun H1 e1 z oq => ?_
  refine kk p e R s m args below meth c H1 _ ls Qm hC (hI.up hlo z oq (by intro l hl; simp at hl; rw [hl]) ?_) hL hR
  have e2 : H1[a]? = some (arrV (xc X t) (rs.set n (some v)).length (fun j => va_rf ((rs.set n (some v)).getD j none))) := by
    rw [e1, h1, ← am_set_q rs n v hn]
    exact congrArg some (arrV_store _ _ _ _ _)
  exact e2
def am_len (o : Ob) : Nat := match o with
  | .inl _ => 0
  | .inr (_, .inl xs) => xs.length
  | .inr (_, .inr (.inl xs)) => xs.length
  | .inr (_, .inr (.inr xs)) => xs.length
theorem ev_alen {a t : Nat} {o : List Int32 ⊕ (List Int64 ⊕ List (Option Nat))} (hd : decode (mB M) pc = .ok (.arraylength, 1)) (ht : t < 7) (ho : S.1 a = some (.inr (t, o))) (kk : Ev X M Q kc ks S (pc + 1) L (.int (nI (am_len (.inr (t, o)))) :: st)) : Ev X M Q kc ks S pc L (.ref a :: st) := by
  intro p e R s m args below meth c H locs ls Qm hC hI hL hR
  have h7 : (am_tys (xc X))[t]? = some (xc X t, am_ty t) := by
    match t, ht with
    | 0, _ => rfl
    | 1, _ => rfl
    | 2, _ => rfl
    | 3, _ => rfl
    | 4, _ => rfl
    | 5, _ => rfl
    | 6, _ => rfl
  have kk2 := kk p e R s m args below meth c H locs ls Qm hC hI hL hR
  match o, ho, kk2 with
  | .inl xs, ho, kk2 => exact va_alen (D := xG X) (cl := am_cls) (tys := am_tys (xc X)) hC.1 hC.2.1 hC.2.2.2.2.2.1.1 (hI.2.1.P1 ho) 0 t rfl h7 rfl hd kk2
  | .inr (.inl xs), ho, kk2 => exact va_alen (D := xG X) (cl := am_cls) (tys := am_tys (xc X)) hC.1 hC.2.1 hC.2.2.2.2.2.1.1 (hI.2.1.P1 ho) 0 t rfl h7 rfl hd kk2
  | .inr (.inr xs), ho, kk2 => exact va_alen (D := xG X) (cl := am_cls) (tys := am_tys (xc X)) hC.1 hC.2.1 hC.2.2.2.2.2.1.1 (hI.2.1.P1 ho) 0 t rfl h7 rfl hd kk2
theorem ev_slen (hd : decode (mB M) pc = .ok (.arraylength, 1)) (kk : Ev X M Q kc ks S (pc + 1) L (.int (nI (xL X)) :: st)) : Ev X M Q kc ks S pc L (.ref (xb X) :: st) := by
  intro p e R s m args below meth c H locs ls Qm hC hI hL hR
  obtain ⟨⟨scr, h1, h2, h3, h4, h5⟩, hlt⟩ := hC.2.2.2.2.2.2.1
  exact W.alen (n := Int32.ofNat (xL X)) hC.1 hC.2.1 (by rw [hI.2.2.2.2.2 _ hlt]; exact h1) h2 (by rw [h4] <;> rfl) rfl rfl hd (kk p e R s m args below meth c H locs ls Qm hC hI hL hR)
theorem ev_sld {i : Int32} {n : Nat} (hd : decode (mB M) pc = .ok (.iaload, 1)) (hi : i.toInt = (n : Int)) (hn : n < xL X) (kk : Ev X M Q kc ks S (pc + 1) L (.int (xs X n) :: st)) : Ev X M Q kc ks S pc L (.int i :: .ref (xb X) :: st) := by
  intro p e R s m args below meth c H locs ls Qm hC hI hL hR
  obtain ⟨⟨scr, h1, h2, h3, h4, h5⟩, hlt⟩ := hC.2.2.2.2.2.2.1
  obtain ⟨h0, e1⟩ := am_idx hi hn
  exact W.iald (v := .int (xs X n)) hC.1 hC.2.1 (by rw [hI.2.2.2.2.2 _ hlt]; exact h1) h2 h3 (by rw [h4]; exact h0) (by rw [e1]; exact h5 _ hn) rfl rfl hd (kk p e R s m args below meth c H locs ls Qm hC hI hL hR)
end EVH
end
section
/-! ===== calls by contract ===== -/
theorem am_good {ws : List Cond} (h : ∀ w ∈ ws, w ∈ am_T) : GoodIn am_T ws := fun w hw => ⟨h w hw, good_of_word (am_in (h w hw)).2⟩
theorem am_wsT {y : MethodName} {b : ByteArray} {n : Nat} {r : Option FieldType} (h : Cond.code y b n r ∈ am_T) : ∀ w ∈ am_ws y b n r, w ∈ am_T := fun w hw => by
  rcases List.mem_cons.mp hw with e | e
  · rw [e]; exact h
  · exact e
theorem am_blind {X : Cx} {av : List Value} {S : Hs} : FrameBlind (am_Pc X av S) := fun _ U _ _ h => ⟨h.1, h.2.1, h.2.2.1, am_K.calling h.2.2.2.1, h.2.2.2.2.1, va_X.moved (Vm.Alike.refl U.vm) h.2.2.2.2.2.1, h.2.2.2.2.2.2⟩
theorem am_pre {X : Cx} {s : State} {S : Hs} {H : Heap} {locs : List Loc} (hI : am_I X s S H locs) (hK : am_K X s) (hX : am_X X s) (av : List Value) (U : State) (hU : U.heap = H) (hW : s.WarmedH U.vm) : am_Pc X av S av.toArray U := by
  refine ⟨rfl, by rw [hU]; exact hI.1, by rw [hU]; exact hI.2.1, am_K.warm hW hK, ?_, ?_, hX.2⟩
  · rw [← hI.1]; exact Nat.le_trans hI.2.2.2.2.1 hI.2.2.2.1
  · rw [hU]
    exact (va_X.moved hW.alike hX.1).kept (hI.2.2.2.2.2 _ hX.2)
theorem am_recv {X : Cx} {s : State} {h : Hp} {H : Heap} (hK : am_K X s) (hO : am_O X h H) {a ci N : Nat} {fs : List Value} {C : String} {T : u_T} (hc : am_cls[ci]? = some (C, T, N)) (ho : h a = some (.inl (ci, fs))) : ∃ cellB : Cell, H[a]? = some cellB ∧ cellB.vm.isStatics = false ∧ s.vm.findClass C = some cellB.cls := by
  obtain ⟨cell, g1, g2, g3, -⟩ := am_at_o hc (hO a _ ho).2
  exact ⟨cell, g1, by rw [g3]; rfl, by rw [g2]; exact (hK.1.1 ci _ hc).2.1⟩
section EVC
variable {X : Cx} {M : Mi} {Q Qc' : Option Value → Hs → Prop} {kc ks : Nat} {S : Hs} {pc : Nat} {L st st0 As : List Value}
theorem am_goon {p : Program} {e : Env} {R : Room} {s : State} {m : MethodId} {args : Array Value} {below : List Frame} {meth : Method} {c : Code} {H : Heap} {locs : List Loc} {ls : Array Slot} {Qm : State → Prop} {k n : Nat} {a : Array Value} (hr : va_Run p (xl X) e R s m args below meth c H locs kc ks k n (F0 m pc ls st0) st (am_Qc X Qc' a) (fun q => xlo X ≤ q)) (hI : am_I X s S H locs)
    (kk : ∀ (r : Option Value) (S' : Hs) (H1 : Heap) (locs1 : List Loc), Qc' r S' → am_I X s S' H1 locs1 → W p (xl X) e R s m args below meth c H1 locs1 (kc + k) (ks + n) Qm (F0 m (pc + 3) ls (r.toList ++ st))) : W p (xl X) e R s m args below meth c H locs kc ks Qm (F0 m pc ls st0) := by
  intro T hT Z
  obtain ⟨v, st₀, t, T', Lx, h0, Z', hLx, e1, e2, ⟨r, S', hv, hQ, hz, hO, hle, hlow⟩, stp⟩ := hr T hT Z
  cases hv
  obtain ⟨i1, i2, i3, i4, i5, i6⟩ := hI
  obtain ⟨t2, a1, b1⟩ := kk v S' T'.heap (locs ++ Lx) hQ ⟨by rw [e1]; exact hz, by rw [e1]; exact hO, fun l hl => by
      rcases List.mem_append.mp hl with h | h
      · exact i3 l h
      · exact hLx l h, by rw [e1]; rw [h0] at hle; exact Nat.le_trans i4 hle, i5, fun q hq => by rw [e1, hlow q hq, h0]; exact i6 q hq⟩ T' rfl Z'
  exact ⟨t2, stp t2 a1, b1⟩
theorem am_room {D D2 maxL : Nat} (hD : D + 1 ≤ D2) (hm : maxL ≤ 15) {k n k2 n2 : Nat} : (am_rm D k n).frames + 1 ≤ (am_rm D2 k2 n2).frames ∧ 8 + (maxL + 11) + (am_rm D k n).locals ≤ (am_rm D2 k2 n2).locals := ⟨hD, by show 8 + (maxL + 11) + 34 * D ≤ 34 * D2; omega⟩
/-- invokevirtual of a method of the receiver's own class -/
theorem ev_callV {idx ci N D k n nA maxL : Nat} {T : u_T} {y : MethodName} {b : ByteArray} {rt : Option FieldType} {a : Nat} {fs : List Value} (hd : decode (mB M) pc = .ok (.invokevirtual idx, 3)) (w1 : Cond.methodLink (mO M) idx y ∈ am_T) (w2 : Cond.instanceMethod y ∈ am_T) (w3 : Cond.selects y.cls y y ∈ am_T) (w4 : Cond.initialized y.cls ∈ am_T) (w5 : Cond.code y b maxL rt ∈ am_T) (hn : y.cls ≠ "java/lang/invoke/MethodHandle" ∧ y.cls ≠ "java/lang/invoke/VarHandle" ∧ (parseMethodDescriptor y.desc).map (fun d => d.parameters.length) = some nA) (hc : am_cls[ci]? = some (y.cls, T, N)) (hm : maxL ≤ 15) (ho : S.1 a = some (.inl (ci, fs))) (hD : D + 1 ≤ mD M) (hst : st0 = As.reverse ++ .ref a :: st) (hAs : As.length = nA) (hcat : (st.map fun v => v.category).sum ≤ 8) (hk : kc + k ≤ mC M) (hs : ks + n ≤ mS M)
    (hM : Ct X D (y, b, maxL, rt) (.ref a :: As) S k n Qc') (kk : ∀ (r : Option Value) (S' : Hs), Qc' r S' → Ev X M Q (kc + k) (ks + n) S' (pc + 3) L (r.toList ++ st)) : Ev X M Q kc ks S pc L st0 := by
  intro p e R s m args below meth c H locs ls Qm hC hI hL hR
  have hts := hC.2.2.2.2.1
  have hRR := hC.2.2.2.2.2.2.2.2.2
  subst hRR
  have hG : GoodIn am_T (wsV (mO M) idx y.cls y (am_ws y b maxL rt)) := am_good fun w hw => by
    rcases List.mem_append.mp hw with h | h
    · simp only [List.mem_cons, List.not_mem_nil, or_false] at h
      rcases h with h | h | h | h
      · rw [h]; exact w1
      · rw [h]; exact w2
      · rw [h]; exact w3
      · rw [h]; exact w4
    · exact am_wsT w5 w h
  refine am_goon (va_runV (n := nA) (As := As) (rest := st) (C := y.cls) ⟨hC.1, hC.2.1, hC.2.2.1, hC.2.2.2.1, hts⟩ hM (cwV nA hts hG rfl rfl rfl ⟨rfl, hn⟩ (am_room hD hm)) ⟨am_blind, am_recv hC.2.2.2.2.2.1 hI.2.1 hc ho, am_pre hI hC.2.2.2.2.2.1 hC.2.2.2.2.2.2.1 _⟩ rfl hAs hL.2.1 hst (lv_room hcat) hd ⟨hk, hs⟩) hI fun r S' H1 locs1 hQ hI1 => ?_
  exact kk r S' hQ p e _ s m args below meth c H1 locs1 ls Qm hC hI1 hL hR
/-- invokestatic -/
theorem ev_callS {idx D k n nA maxL : Nat} {y : MethodName} {b : ByteArray} {rt : Option FieldType} (hd : decode (mB M) pc = .ok (.invokestatic idx, 3)) (w1 : Cond.methodLink (mO M) idx y ∈ am_T) (w2 : Cond.static y ∈ am_T) (w4 : Cond.initialized y.cls ∈ am_T) (w5 : Cond.code y b maxL rt ∈ am_T) (hn : y.cls ≠ "java/lang/invoke/MethodHandle" ∧ y.cls ≠ "java/lang/invoke/VarHandle" ∧ (parseMethodDescriptor y.desc).map (fun d => d.parameters.length) = some nA) (hm : maxL ≤ 15) (hD : D + 1 ≤ mD M) (hst : st0 = As.reverse ++ st) (hAs : As.length = nA) (hcat : (st.map fun v => v.category).sum ≤ 8) (hk : kc + k ≤ mC M) (hs : ks + n ≤ mS M)
    (hM : Ct X D (y, b, maxL, rt) As S k n Qc') (kk : ∀ (r : Option Value) (S' : Hs), Qc' r S' → Ev X M Q (kc + k) (ks + n) S' (pc + 3) L (r.toList ++ st)) : Ev X M Q kc ks S pc L st0 := by
  intro p e R s m args below meth c H locs ls Qm hC hI hL hR
  have hts := hC.2.2.2.2.1
  have hRR := hC.2.2.2.2.2.2.2.2.2
  subst hRR
  have hG : GoodIn am_T (va_wsS (mO M) idx y (am_ws y b maxL rt)) := am_good fun w hw => by
    rcases List.mem_append.mp hw with h | h
    · simp only [List.mem_cons, List.not_mem_nil, or_false] at h
      rcases h with h | h | h
      · rw [h]; exact w1
      · rw [h]; exact w2
      · rw [h]; exact w4
    · exact am_wsT w5 w h
  refine am_goon (va_runS (n := nA) (As := As) (rest := st) ⟨hC.1, hC.2.1, hC.2.2.1, hC.2.2.2.1, hts⟩ hM (va_cwS nA hts hG rfl rfl rfl hn (am_room hD hm)) ⟨am_blind, am_pre hI hC.2.2.2.2.2.1 hC.2.2.2.2.2.2.1 _⟩ rfl hAs hL.2.1 hst (lv_room hcat) hd ⟨hk, hs⟩) hI fun r S' H1 locs1 hQ hI1 => ?_
  exact kk r S' hQ p e _ s m args below meth c H1 locs1 ls Qm hC hI1 hL hR
/-- a constructor, by its ordinary link -/
theorem ev_callI {idx D k n nA maxL a : Nat} {y : MethodName} {b : ByteArray} (hd : decode (mB M) pc = .ok (.invokespecial idx, 3)) (w1 : Cond.methodLink (mO M) idx y ∈ am_T) (w2 : Cond.instanceMethod y ∈ am_T) (w4 : Cond.initialized y.cls ∈ am_T) (w5 : Cond.code y b maxL none ∈ am_T) (hini : y.name = "<init>") (hn : y.cls ≠ "java/lang/invoke/MethodHandle" ∧ y.cls ≠ "java/lang/invoke/VarHandle" ∧ (parseMethodDescriptor y.desc).map (fun d => d.parameters.length) = some nA) (hm : maxL ≤ 15) (hD : D + 1 ≤ mD M) (hst : st0 = As.reverse ++ .ref a :: st) (hAs : As.length = nA) (hcat : (st.map fun v => v.category).sum ≤ 8) (hk : kc + k ≤ mC M) (hs : ks + n ≤ mS M)
    (hM : Ct X D (y, b, maxL, none) (.ref a :: As) S k n Qc') (kk : ∀ (r : Option Value) (S' : Hs), Qc' r S' → Ev X M Q (kc + k) (ks + n) S' (pc + 3) L (r.toList ++ st)) : Ev X M Q kc ks S pc L st0 := by
  intro p e R s m args below meth c H locs ls Qm hC hI hL hR
  have hts := hC.2.2.2.2.1
  have hRR := hC.2.2.2.2.2.2.2.2.2
  subst hRR
  refine am_goon (va_runI (n := nA) (As := As) (rest := st) ⟨hC.1, hC.2.1, hC.2.2.1, hC.2.2.2.1, hts⟩ hM (cwI nA hts (am_good (am_wsT w5)) rfl rfl rfl (hts _ w4) (hts _ w1) (hts _ w2) hini hn (am_room hD hm)) ⟨am_blind, am_pre hI hC.2.2.2.2.2.1 hC.2.2.2.2.2.2.1 _⟩ rfl hAs hL.2.1 hst (lv_room hcat) hd ⟨hk, hs⟩) hI fun r S' H1 locs1 hQ hI1 => ?_
  exact kk r S' hQ p e _ s m args below meth c H1 locs1 ls Qm hC hI1 hL hR
/-- a private constructor of a nest mate -/
theorem ev_callN {idx D k n nA maxL a : Nat} {host : String} {y : MethodName} {b : ByteArray} (hd : decode (mB M) pc = .ok (.invokespecial idx, 3)) (w1 : (mO M, idx, y, host) ∈ am_nest) (w2 : Cond.instanceMethod y ∈ am_T) (w4 : Cond.initialized y.cls ∈ am_T) (w5 : Cond.code y b maxL none ∈ am_T) (hini : y.name = "<init>") (hn : y.cls ≠ "java/lang/invoke/MethodHandle" ∧ y.cls ≠ "java/lang/invoke/VarHandle" ∧ (parseMethodDescriptor y.desc).map (fun d => d.parameters.length) = some nA) (hm : maxL ≤ 15) (hD : D + 1 ≤ mD M) (hst : st0 = As.reverse ++ .ref a :: st) (hAs : As.length = nA) (hcat : (st.map fun v => v.category).sum ≤ 8) (hk : kc + k ≤ mC M) (hs : ks + n ≤ mS M)
    (hM : Ct X D (y, b, maxL, none) (.ref a :: As) S k n Qc') (kk : ∀ (r : Option Value) (S' : Hs), Qc' r S' → Ev X M Q (kc + k) (ks + n) S' (pc + 3) L (r.toList ++ st)) : Ev X M Q kc ks S pc L st0 := by
  intro p e R s m args below meth c H locs ls Qm hC hI hL hR
  have hts := hC.2.2.2.2.1
  have hRR := hC.2.2.2.2.2.2.2.2.2
  subst hRR
  refine am_goon (va_runIN (n := nA) (As := As) (rest := st) (host := host) ⟨hC.1, hC.2.1, hC.2.2.1, hC.2.2.2.1, hts⟩ hM ⟨va_cnB nA hts (am_good (am_wsT w5)) rfl rfl rfl (hC.2.2.2.2.2.1.2.1 _ w1) (hts _ w4) hn (am_room hD hm), hini, hts _ w2⟩ ⟨am_blind, am_pre hI hC.2.2.2.2.2.1 hC.2.2.2.2.2.2.1 _⟩ rfl hAs hL.2.1 hst (lv_room hcat) hd ⟨hk, hs⟩) hI fun r S' H1 locs1 hQ hI1 => ?_
  exact kk r S' hQ p e _ s m args below meth c H1 locs1 ls Qm hC hI1 hL hR
/-- super.m(..) -/
theorem ev_callU {idx D k n nA maxL a ci N : Nat} {C : String} {T : u_T} {fs : List Value} {y : MethodName} {b : ByteArray} {rt : Option FieldType} (hd : decode (mB M) pc = .ok (.invokespecial idx, 3)) (w1 : Cond.methodLink (mO M) idx y ∈ am_T) (w6 : Cond.sameMethod y.cls y.cls y.name y.desc ∈ am_T) (w7 : Cond.superclass (mO M) y.cls ∈ am_T) (w2 : Cond.instanceMethod y ∈ am_T) (w4 : Cond.initialized y.cls ∈ am_T) (w5 : Cond.code y b maxL rt ∈ am_T) (hn : y.name ≠ "<init>" ∧ (parseMethodDescriptor y.desc).map (fun d => d.parameters.length) = some nA) (hc : am_cls[ci]? = some (C, T, N)) (hm : maxL ≤ 15) (ho : S.1 a = some (.inl (ci, fs))) (hD : D + 1 ≤ mD M) (hst : st0 = As.reverse ++ .ref a :: st) (hAs : As.length = nA) (hcat : (st.map fun v => v.category).sum ≤ 8) (hk : kc + k ≤ mC M) (hs : ks + n ≤ mS M)
    (hM : Ct X D (y, b, maxL, rt) (.ref a :: As) S k n Qc') (kk : ∀ (r : Option Value) (S' : Hs), Qc' r S' → Ev X M Q (kc + k) (ks + n) S' (pc + 3) L (r.toList ++ st)) : Ev X M Q kc ks S pc L st0 := by
  intro p e R s m args below meth c H locs ls Qm hC hI hL hR
  have hts := hC.2.2.2.2.1
  have hRR := hC.2.2.2.2.2.2.2.2.2
  subst hRR
  have hG : GoodIn am_T (va_wsSU (mO M) idx y (am_ws y b maxL rt)) := am_good fun w hw => by
    rcases List.mem_append.mp hw with h | h
    · simp only [List.mem_cons, List.not_mem_nil, or_false] at h
      rcases h with h | h | h | h | h
      · rw [h]; exact w1
      · rw [h]; exact w6
      · rw [h]; exact w7
      · rw [h]; exact w2
      · rw [h]; exact w4
    · exact am_wsT w5 w h
  refine am_goon (va_runSU (n := nA) (As := As) (rest := st) (C := C) (hC.2.2.2.2.2.1.1.1 ci _ hc).2 ⟨hC.1, hC.2.1, hC.2.2.1, hC.2.2.2.1, hts⟩ hM (va_cwSU nA hts hG rfl rfl rfl hn (am_room hD hm)) ⟨am_blind, am_recv hC.2.2.2.2.2.1 hI.2.1 hc ho, am_pre hI hC.2.2.2.2.2.1 hC.2.2.2.2.2.2.1 _⟩ rfl hAs hL.2.1 hst (lv_room hcat) hd ⟨hk, hs⟩) hI fun r S' H1 locs1 hQ hI1 => ?_
  exact kk r S' hQ p e _ s m args below meth c H1 locs1 ls Qm hC hI1 hL hR
/-- invokevirtual of a method that the receiver's class overrides -/
theorem ev_callO {idx ci N D k n nA maxL m0 : Nat} {T : u_T} {C owner : String} {x y : MethodName} {b b0 : ByteArray} {rt r0 : Option FieldType} {a : Nat} {fs : List Value} (hd : decode (mB M) pc = .ok (.invokevirtual idx, 3)) (w1 : Cond.methodLink (mO M) idx x ∈ am_T) (w6 : Cond.sameMethod x.cls owner x.name x.desc ∈ am_T) (w7 : Cond.instanceMethod ⟨owner, x.name, x.desc⟩ ∈ am_T) (w3 : Cond.selects C x y ∈ am_T) (w2 : Cond.instanceMethod y ∈ am_T) (w4 : Cond.initialized y.cls ∈ am_T) (w5 : Cond.code y b maxL rt ∈ am_T) (w8 : Cond.code ⟨owner, x.name, x.desc⟩ b0 m0 r0 ∈ am_T) (hn : owner ≠ "java/lang/invoke/MethodHandle" ∧ owner ≠ "java/lang/invoke/VarHandle" ∧ (parseMethodDescriptor x.desc).map (fun d => d.parameters.length) = some nA) (hc : am_cls[ci]? = some (C, T, N)) (hm : maxL ≤ 15) (ho : S.1 a = some (.inl (ci, fs))) (hD : D + 1 ≤ mD M) (hst : st0 = As.reverse ++ .ref a :: st) (hAs : As.length = nA) (hcat : (st.map fun v => v.category).sum ≤ 8) (hk : kc + k ≤ mC M) (hs : ks + n ≤ mS M)
    (hM : Ct X D (y, b, maxL, rt) (.ref a :: As) S k n Qc') (kk : ∀ (r : Option Value) (S' : Hs), Qc' r S' → Ev X M Q (kc + k) (ks + n) S' (pc + 3) L (r.toList ++ st)) : Ev X M Q kc ks S pc L st0 := by
  intro p e R s m args below meth c H locs ls Qm hC hI hL hR
  have hts := hC.2.2.2.2.1
  have hRR := hC.2.2.2.2.2.2.2.2.2
  subst hRR
  have hG : GoodIn am_T (va_wsO (mO M) idx C owner x y (am_ws y b maxL rt)) := am_good fun w hw => by
    rcases List.mem_append.mp hw with h | h
    · simp only [List.mem_cons, List.not_mem_nil, or_false] at h
      rcases h with h | h | h | h | h | h
      · rw [h]; exact w1
      · rw [h]; exact w6
      · rw [h]; exact w7
      · rw [h]; exact w3
      · rw [h]; exact w2
      · rw [h]; exact w4
    · exact am_wsT w5 w h
  refine am_goon (va_runU (n := nA) (As := As) (rest := st) (C := C) ⟨hC.1, hC.2.1, hC.2.2.1, hC.2.2.2.1, hts⟩ hM (va_cwO nA hts hG rfl rfl rfl w8 hn (am_room hD hm)) ⟨am_blind, am_recv hC.2.2.2.2.2.1 hI.2.1 hc ho, am_pre hI hC.2.2.2.2.2.1 hC.2.2.2.2.2.2.1 _⟩ rfl hAs hL.2.1 hst (lv_room hcat) hd ⟨hk, hs⟩) hI fun r S' H1 locs1 hQ hI1 => ?_
  exact kk r S' hQ p e _ s m args below meth c H1 locs1 ls Qm hC hI1 hL hR
/-- Object.<init> -/
theorem ev_objInit {idx a : Nat} (hd : decode (mB M) pc = .ok (.invokespecial idx, 3)) (w1 : Cond.methodLink (mO M) idx Lib.objectInit ∈ am_T) (w2 : Cond.instanceMethod Lib.objectInit ∈ am_T) (w3 : Cond.code Lib.objectInit ⟨#[0xb1]⟩ 1 none ∈ am_T) (hD : 1 ≤ mD M) (hcat : (st.map fun v => v.category).sum ≤ 8) (kk : Ev X M Q kc ks S (pc + 3) L st) : Ev X M Q kc ks S pc L (.ref a :: st) := by
  intro p e R s m args below meth c H locs ls Qm hC hI hL hR
  have hts := hC.2.2.2.2.1
  have hRR := hC.2.2.2.2.2.2.2.2.2
  refine W.objInit hC.1 hC.2.1 hC.2.2.2.1 (hts _ w1) (hts _ w2) (hts _ w3) rfl (hL.2.1.trans hC.2.2.1.symm) rfl hd (by rw [hRR]; exact hD) (by rw [hRR]; show 2 * 0 + _ + 12 ≤ 34 * mD M; omega) ?_
  exact kk p e R s m args below meth c H locs ls Qm hC hI hL hR
theorem ev_mmax {idx : Nat} {x y : Int32} (hd : decode (mB M) pc = .ok (.invokestatic idx, 3)) (w1 : Cond.methodLink (mO M) idx Lib.Math.max.name ∈ am_T) (hD : 1 ≤ mD M) (hcat : (st.map fun v => v.category).sum ≤ 8) (hk : kc ≤ mC M) (hs : ks ≤ mS M) (kk : Ev X M Q kc ks S (pc + 3) L (.int (if x < y then y else x) :: st)) : Ev X M Q kc ks S pc L (.int y :: .int x :: st) := by
  intro p e R s m args below meth c H locs ls Qm hC hI hL hR
  have hts := hC.2.2.2.2.1
  have hRR := hC.2.2.2.2.2.2.2.2.2
  exact va_mmax hC.1 hC.2.1 (hC.2.2.1.trans hL.2.1.symm) hC.2.2.2.1 (hts _ w1) (hts _ tw_585) (hts _ tw_14) (hts _ tw_586) (by rw [hRR]; exact hD) (by rw [hRR]; show _ + 13 ≤ 34 * mD M; omega) (by rw [hRR]; exact hk) (by rw [hRR]; exact hs) hd (kk p e R s m args below meth c H locs ls Qm hC hI hL hR)
theorem ev_mmin {idx : Nat} {x y : Int32} (hd : decode (mB M) pc = .ok (.invokestatic idx, 3)) (w1 : Cond.methodLink (mO M) idx Lib.Math.min.name ∈ am_T) (hD : 1 ≤ mD M) (hcat : (st.map fun v => v.category).sum ≤ 8) (hk : kc ≤ mC M) (hs : ks ≤ mS M) (kk : Ev X M Q kc ks S (pc + 3) L (.int (if y < x then y else x) :: st)) : Ev X M Q kc ks S pc L (.int y :: .int x :: st) := by
  intro p e R s m args below meth c H locs ls Qm hC hI hL hR
  have hts := hC.2.2.2.2.1
  have hRR := hC.2.2.2.2.2.2.2.2.2
  exact va_mmin hC.1 hC.2.1 (hC.2.2.1.trans hL.2.1.symm) hC.2.2.2.1 (hts _ w1) (hts _ tw_403) (hts _ tw_14) (hts _ tw_404) (by rw [hRR]; exact hD) (by rw [hRR]; show _ + 13 ≤ 34 * mD M; omega) (by rw [hRR]; exact hk) (by rw [hRR]; exact hs) hd (kk p e R s m args below meth c H locs ls Qm hC hI hL hR)
end EVC
/-- a method's contract out of its walk -/
theorem ct_of_ev {X : Cx} {D nL k n : Nat} {y : MethodName} {b : ByteArray} {rt : Option FieldType} {av L : List Value} {S : Hs} {Q : Option Value → Hs → Prop} (hpl : plainName y.cls = true) (hsl : (lg_sl av).length ≤ nL) (hen : am_en nL av = L) (h : Ev X (y.cls, b, nL, y.name, rt, D, k, n) Q 0 0 S 0 L []) : Ct X D (y, b, nL, rt) av S k n Q := by
  refine Met.ofW (cc := b) (maxL := nL) (ret := rt) hpl rfl ?_
  intro p e s m args below meth c s₁ B hml hv
  obtain ⟨rfl, hsz, hO, hK, hlo, hX⟩ := hv
  have hts := atoms_spec (ws := am_ws y b nL rt) B.pre
  rw [lg_entry_eq]
  refine h p e _ s m _ below meth c s.heap [] _ _ ⟨B.exec, B.bytes, hml, findClass_of_methodNamed B.named, fun w hw => hts w (List.mem_cons_of_mem _ hw), hK, hX, (name_of_methodNamed B.named B.method).1, B.returns, rfl⟩ ⟨hsz, hO, fun l hl => by simp at hl, Nat.le_refl _, by rw [hsz]; exact hlo, fun _ _ => rfl⟩ ⟨by rw [← hen]; exact am_en_len _ _, lv_has_mono (lv_entry av hsl) (fun q hq => am_en_mem nL av 0 q.1 q.2 (by rw [hen]; exact hq))⟩ ?_
  intro r S' H' locs' pc' ls' hQ hI hR
  rcases hR with ⟨rfl, hr, hd⟩ | ⟨v, ty, rfl, hr, hn, hd⟩ | ⟨v, rfl, hr, hd⟩
  · exact W.vret B.exec B.bytes (B.returns.trans hr) (fun t ht hW => ⟨none, S', rfl, hQ, by rw [ht]; exact hI.1, by rw [ht]; exact hI.2.1, by rw [ht]; exact hI.2.2.2.1, fun q hq => by rw [ht]; exact hI.2.2.2.2.2 q hq⟩) hI.2.2.1 hd
  · exact W.zret B.exec B.bytes (B.returns.trans hr) hn (fun t ht hW => ⟨_, S', rfl, hQ, by rw [ht]; exact hI.1, by rw [ht]; exact hI.2.1, by rw [ht]; exact hI.2.2.2.1, fun q hq => by rw [ht]; exact hI.2.2.2.2.2 q hq⟩) hI.2.2.1 hd
  · exact W.lret B.exec B.bytes (B.returns.trans hr) (fun t ht hW => ⟨_, S', rfl, hQ, by rw [ht]; exact hI.1, by rw [ht]; exact hI.2.1, by rw [ht]; exact hI.2.2.2.1, fun q hq => by rw [ht]; exact hI.2.2.2.2.2 q hq⟩) hI.2.2.1 hd
end
section
/-! ===== System.arraycopy ===== -/
def am_cp {α : Type} (d : α) (xs ys : List α) (sp dp n : Nat) : List α := (List.range ys.length).map (fun j => if dp ≤ j ∧ j < dp + n then xs.getD (sp + (j - dp)) d else ys.getD j d)
theorem am_cp_len {α : Type} (d : α) (xs ys : List α) (sp dp n : Nat) : (am_cp d xs ys sp dp n).length = ys.length := by simp [am_cp]
theorem am_cp_get {α : Type} {d : α} {xs ys : List α} {sp dp n j : Nat} (h : j < ys.length) : (am_cp d xs ys sp dp n)[j]? = some (if dp ≤ j ∧ j < dp + n then xs.getD (sp + (j - dp)) d else ys.getD j d) := by
  simp [am_cp, h]
theorem am_cp_getD {α : Type} (d : α) (xs ys : List α) (sp dp n j : Nat) (h5 : dp + n ≤ ys.length) : (am_cp d xs ys sp dp n).getD j d = va_cpy (fun i => xs.getD i d) (fun i => ys.getD i d) sp dp n j := by
  by_cases h : j < ys.length
  · rw [List.getD_eq_getElem?_getD, am_cp_get h]
    rfl
  · have h1 : ¬ (dp ≤ j ∧ j < dp + n) := by omega
    simp only [va_cpy, if_neg h1]
    rw [List.getD_eq_getElem?_getD, List.getElem?_eq_none (by rw [am_cp_len]; omega), List.getD_eq_getElem?_getD, List.getElem?_eq_none (by omega)]
theorem am_cp_all {α : Type} (d : α) (xs ys : List α) {n : Nat} (h1 : xs.length = n) (h2 : ys.length = n) : am_cp d xs ys 0 0 n = xs := by
  apply List.ext_getElem?
  intro j
  by_cases h : j < n
  · rw [am_cp_get (by omega), if_pos ⟨Nat.zero_le _, by omega⟩]
    simp [List.getD_eq_getElem?_getD, h1, h]
  · rw [List.getElem?_eq_none (by rw [am_cp_len]; omega), List.getElem?_eq_none (by omega)]
section EVP
variable {X : Cx} {M : Mi} {Q : Option Value → Hs → Prop} {kc ks : Nat} {S : Hs} {pc : Nat} {L st : List Value}
theorem am_copy {p : Program} {e : Env} {R : Room} {s : State} {m : MethodId} {args : Array Value} {below : List Frame} {meth : Method} {c : Code} {H : Heap} {locs : List Loc} {ls : Array Slot} {Qm : State → Prop} {idx a0 a t n0 n1 sp dp n : Nat} {α : Type} {mk : α → Value} {f g : Nat → α} {i j k : Int32} {o : Ob} (hd : decode (mB M) pc = .ok (.invokestatic idx, 3)) (w1 : Cond.methodLink (mO M) idx arraycopyName ∈ am_T) (hD : 1 ≤ mD M) (hcat : (st.map fun v => v.category).sum ≤ 8) (ht : t < 7) (hprim : refKind (am_ty t) = false)
    (h0 : H[a0]? = some (arrV (xc X t) n0 (fun j => mk (f j)))) (h1 : H[a]? = some (arrV (xc X t) n1 (fun j => mk (g j)))) (hi : i.toInt = (sp : Int)) (hj : j.toInt = (dp : Int)) (hk : k.toInt = (n : Int)) (hs : sp + n ≤ n0) (he : dp + n ≤ n1) (hlo : xlo X ≤ a) (hfit : ∀ x : α, fits (am_ty t) (mk x) = true) (hmk : ∀ (vm : Vm) (T : State) (dC : ClassId) (x : α), (T.setVm vm).takes dC (mk x)) (hout : va_at (xG X) am_cls (a, am_E (xc X) o) #[] ∨ ∀ H' : Heap, H'[a]? = some (arrV (xc X t) n1 (fun j => mk (va_cpy f g sp dp n j))) → va_at (xG X) am_cls (a, am_E (xc X) o) H')
    (hC : am_C X M p R s m args meth c) (hI : am_I X s S H locs) (hL : am_L (mL M) L ls) (kk : ∀ (H1 : Heap) (locs1 : List Loc), am_I X s (hup S.1 a o, S.2) H1 locs1 → W p (xl X) e R s m args below meth c H1 locs1 kc ks Qm (F0 m (pc + 3) ls st)) : W p (xl X) e R s m args below meth c H locs kc ks Qm (F0 m pc ls (.int k :: .int j :: .ref a :: .int i :: .ref a0 :: st)) := by
  have hts := hC.2.2.2.2.1
  have hRR := hC.2.2.2.2.2.2.2.2.2
  have z1 : i.toNatClampNeg = sp := by show i.toInt.toNat = sp; rw [hi]; rfl
  have z2 : j.toNatClampNeg = dp := by show j.toInt.toNat = dp; rw [hj]; rfl
  have z3 : k.toNatClampNeg = n := by show k.toInt.toNat = n; rw [hk]; rfl
  have nn : ∀ (z : Int32) (w : Nat), z.toInt = (w : Int) → ¬ z < 0 := fun z w hz q => by
    have := Int32.lt_iff_toInt_lt.mp q
    rw [hz] at this
    simp at this
    omega
  intro T hT Z
  obtain ⟨-, k0, hk0, cm0, hkk0⟩ := (am_ar hC.2.2.2.2.2.1 ht).1 n0 (fun j => mk (f j))
  obtain ⟨-, k1, hk1, cm1, hkk1⟩ := (am_ar hC.2.2.2.2.2.1 ht).1 n1 (fun j => mk (g j))
  obtain ⟨vm', Z', step⟩ := Z.arraycopy hC.1 hC.2.2.2.1 (hts _ w1) (hts _ tw_441) (hts _ tw_440) (hts _ tw_15) (src := a0) (dst := a) (srcPos := i) (destPos := j) (n := k) (by rw [hT]; exact h0) (by rw [hT]; exact h1)
    (fun _ h => by cases h) (fun _ h => by cases h) (fun h => by cases h) (fun h => by cases h) hk0 hk1 hkk0 hkk1 (by simp [hprim]) (nn i sp hi) (nn j dp hj) (nn k n hk)
    (by rw [hi, hk, arrV_size]; omega)
    (by rw [hj, hk, arrV_size]; omega)
    (fun vm₁ _ q hq => by
      rw [z3] at hq
      have e : (arrV (xc X t) n0 (fun j => mk (f j))).slots.getD (i.toNatClampNeg + q) .null = mk (f (i.toNatClampNeg + q)) := by
        rw [Array.getD_eq_getD_getElem?, arrV_read _ _ (by omega)]
        rfl
      rw [e]
      exact ⟨hfit _, hmk _ _ _ _⟩)
    (g := F0 m pc ls (.int k :: .int j :: .ref a :: .int i :: .ref a0 :: st)) rfl (hL.2.1.trans hC.2.2.1.symm) (rest := st) rfl (by rw [hC.2.1]; exact hd) (by rw [hRR]; exact hD) (by
      rw [hRR]
      have : nativeFrameWords "java/lang/System" "arraycopy" 5 = 7 := by decide +kernel
      rw [this]
      show 2 * 0 + _ + _ ≤ 34 * mD M
      omega)
  have e1 : copied (arrV (xc X t) n0 (fun j => mk (f j))) (arrV (xc X t) n1 (fun j => mk (g j))) i j k = arrV (xc X t) n1 (fun q => mk (va_cpy f g sp dp n q)) := by
    have := va_copied mk (xc X t) (xc X t) (n0 := n0) (n1 := n1) (sp := sp) (dp := dp) (n := n) f g hs
    unfold copied
    rw [z1, z2, z3]
    exact this
  rw [e1] at Z' step
  have hl : a < H.size := (Array.getElem?_eq_some_iff.mp h1).1
  have hheap : ((T.setVm vm').setCell a (arrV (xc X t) n1 (fun q => mk (va_cpy f g sp dp n q)))).heap = H.setIfInBounds a (arrV (xc X t) n1 (fun q => mk (va_cpy f g sp dp n q))) := by rw [← hT]; rfl
  have hset : (H.setIfInBounds a (arrV (xc X t) n1 (fun q => mk (va_cpy f g sp dp n q))))[a]? = some (arrV (xc X t) n1 (fun q => mk (va_cpy f g sp dp n q))) := by simp [Array.getElem?_setIfInBounds, hl]
  obtain ⟨t2, a1, b1⟩ := kk _ _ (hI.up (o := o) hlo (by simp) (fun q hq => by simp [Array.getElem?_setIfInBounds, Ne.symm hq]) (by
      intro l hl
      obtain ⟨z, -, hz⟩ := List.mem_map.mp hl
      rw [← hz]) (by
      rcases hout with h | h
      · exact absurd h.lt (by simp)
      · exact h _ hset)) _ hheap Z'
  exact ⟨t2, step t2 a1, b1⟩
theorem ev_copyi {idx a0 a sp dp n : Nat} {xs ys : List Int32} {i j k : Int32} (hd : decode (mB M) pc = .ok (.invokestatic idx, 3)) (w1 : Cond.methodLink (mO M) idx arraycopyName ∈ am_T) (hD : 1 ≤ mD M) (hcat : (st.map fun v => v.category).sum ≤ 8) (h0 : S.1 a0 = some (.inr (0, .inl xs))) (h1 : S.1 a = some (.inr (0, .inl ys))) (hi : i.toInt = (sp : Int)) (hj : j.toInt = (dp : Int)) (hk : k.toInt = (n : Int)) (hs : sp + n ≤ xs.length) (he : dp + n ≤ ys.length) (kk : Ev X M Q kc ks (hup S.1 a (.inr (0, .inl (am_cp 0 xs ys sp dp n))), S.2) (pc + 3) L st) : Ev X M Q kc ks S pc L (.int k :: .int j :: .ref a :: .int i :: .ref a0 :: st) := by
  intro p e R s m args below meth c H locs ls Qm hC hI hL hR
  refine am_copy (t := 0) (mk := Value.int) (f := fun j => xs.getD j 0) (g := fun j => ys.getD j 0) (o := .inr (0, .inl (am_cp 0 xs ys sp dp n))) hd w1 hD hcat (by omega) rfl (hI.2.1 a0 _ h0).2 (hI.2.1 a _ h1).2 hi hj hk hs he (hI.2.1 a _ h1).1 (fun _ => rfl) (fun _ _ _ _ => trivial) (Or.inr fun H' hH => ?_) hC hI hL fun H1 locs1 hI1 => kk p e R s m args below meth c H1 locs1 ls Qm hC hI1 hL hR
  have e2 : H'[a]? = some (arrV (xc X 0) (am_cp 0 xs ys sp dp n).length (fun j => .int ((am_cp 0 xs ys sp dp n).getD j 0))) := by
    rw [hH, am_cp_len]
    congr 2
    funext q
    rw [am_cp_getD 0 xs ys sp dp n q he]
  exact e2
theorem ev_copyl {idx a0 a sp dp n : Nat} {xs ys : List Int64} {i j k : Int32} (hd : decode (mB M) pc = .ok (.invokestatic idx, 3)) (w1 : Cond.methodLink (mO M) idx arraycopyName ∈ am_T) (hD : 1 ≤ mD M) (hcat : (st.map fun v => v.category).sum ≤ 8) (h0 : S.1 a0 = some (.inr (3, .inr (.inl xs)))) (h1 : S.1 a = some (.inr (3, .inr (.inl ys)))) (hi : i.toInt = (sp : Int)) (hj : j.toInt = (dp : Int)) (hk : k.toInt = (n : Int)) (hs : sp + n ≤ xs.length) (he : dp + n ≤ ys.length) (kk : Ev X M Q kc ks (hup S.1 a (.inr (3, .inr (.inl (am_cp 0 xs ys sp dp n)))), S.2) (pc + 3) L st) : Ev X M Q kc ks S pc L (.int k :: .int j :: .ref a :: .int i :: .ref a0 :: st) := by
  intro p e R s m args below meth c H locs ls Qm hC hI hL hR
  refine am_copy (t := 3) (mk := Value.long) (f := fun j => xs.getD j 0) (g := fun j => ys.getD j 0) (o := .inr (3, .inr (.inl (am_cp 0 xs ys sp dp n)))) hd w1 hD hcat (by omega) rfl (hI.2.1 a0 _ h0).2 (hI.2.1 a _ h1).2 hi hj hk hs he (hI.2.1 a _ h1).1 (fun _ => rfl) (fun _ _ _ _ => trivial) (Or.inr fun H' hH => ?_) hC hI hL fun H1 locs1 hI1 => kk p e R s m args below meth c H1 locs1 ls Qm hC hI1 hL hR
  have e2 : H'[a]? = some (arrV (xc X 3) (am_cp 0 xs ys sp dp n).length (fun j => .long ((am_cp 0 xs ys sp dp n).getD j 0))) := by
    rw [hH, am_cp_len]
    congr 2
    funext q
    rw [am_cp_getD 0 xs ys sp dp n q he]
  exact e2
end EVP
end
