section
-- ===== PART A: goes FIRST, ahead of the names: the tables' words, and 'selects' of the private methods out of them =====
/-- a private method of a class that the tables say can be made, by its rows of tables_1 -/
def lw_okq (q : MethodName × Nat) : Prop := (q.1.cls ≠ "java/lang/invoke/MethodHandle" ∧ q.1.cls ≠ "java/lang/invoke/VarHandle") ∧ Cond.instantiable q.1.cls q.2 ∈ tables_1 ∧ Cond.privateMethod q.1 ∈ tables_1 ∧ Cond.instanceMethod q.1 ∈ tables_1
theorem lw_p0 : lw_okq (⟨"DawnTales", "startAnew", "()V"⟩, 11) := ⟨⟨by decide +kernel, by decide +kernel⟩, List.mem_of_getElem? (i := 19) (by decide +kernel), List.mem_of_getElem? (i := 294) (by decide +kernel), List.mem_of_getElem? (i := 295) (by decide +kernel)⟩
theorem lw_p1 : lw_okq (⟨"DawnTales", "isAsHeard", "(I)Z"⟩, 11) := ⟨⟨by decide +kernel, by decide +kernel⟩, List.mem_of_getElem? (i := 19) (by decide +kernel), List.mem_of_getElem? (i := 747) (by decide +kernel), List.mem_of_getElem? (i := 748) (by decide +kernel)⟩
theorem lw_p2 : lw_okq (⟨"DawnTalesModel", "plain", "()V"⟩, 37) := ⟨⟨by decide +kernel, by decide +kernel⟩, List.mem_of_getElem? (i := 831) (by decide +kernel), List.mem_of_getElem? (i := 837) (by decide +kernel), List.mem_of_getElem? (i := 838) (by decide +kernel)⟩
theorem lw_p3 : lw_okq (⟨"DawnTalesModel", "takes", "()V"⟩, 37) := ⟨⟨by decide +kernel, by decide +kernel⟩, List.mem_of_getElem? (i := 831) (by decide +kernel), List.mem_of_getElem? (i := 841) (by decide +kernel), List.mem_of_getElem? (i := 842) (by decide +kernel)⟩
theorem lw_p4 : lw_okq (⟨"DawnTalesModel", "beginsAnew", "()V"⟩, 37) := ⟨⟨by decide +kernel, by decide +kernel⟩, List.mem_of_getElem? (i := 831) (by decide +kernel), List.mem_of_getElem? (i := 845) (by decide +kernel), List.mem_of_getElem? (i := 846) (by decide +kernel)⟩
theorem lw_p5 : lw_okq (⟨"DawnTalesModel", "hoursOf", "(I)I"⟩, 37) := ⟨⟨by decide +kernel, by decide +kernel⟩, List.mem_of_getElem? (i := 831) (by decide +kernel), List.mem_of_getElem? (i := 849) (by decide +kernel), List.mem_of_getElem? (i := 850) (by decide +kernel)⟩
theorem lw_p6 : lw_okq (⟨"DawnTalesModel", "reads", "()V"⟩, 37) := ⟨⟨by decide +kernel, by decide +kernel⟩, List.mem_of_getElem? (i := 831) (by decide +kernel), List.mem_of_getElem? (i := 981) (by decide +kernel), List.mem_of_getElem? (i := 982) (by decide +kernel)⟩
theorem lw_p7 : lw_okq (⟨"DawnTalesModel", "readLetters", "()V"⟩, 37) := ⟨⟨by decide +kernel, by decide +kernel⟩, List.mem_of_getElem? (i := 831) (by decide +kernel), List.mem_of_getElem? (i := 990) (by decide +kernel), List.mem_of_getElem? (i := 991) (by decide +kernel)⟩
theorem lw_p8 : lw_okq (⟨"DawnTalesModel", "readNumber", "()V"⟩, 37) := ⟨⟨by decide +kernel, by decide +kernel⟩, List.mem_of_getElem? (i := 831) (by decide +kernel), List.mem_of_getElem? (i := 999) (by decide +kernel), List.mem_of_getElem? (i := 1000) (by decide +kernel)⟩
theorem lw_p9 : lw_okq (⟨"DawnTalesModel", "readItem", "()Z"⟩, 37) := ⟨⟨by decide +kernel, by decide +kernel⟩, List.mem_of_getElem? (i := 831) (by decide +kernel), List.mem_of_getElem? (i := 1003) (by decide +kernel), List.mem_of_getElem? (i := 1004) (by decide +kernel)⟩
theorem lw_p10 : lw_okq (⟨"DawnTalesModel", "readTale", "()Z"⟩, 37) := ⟨⟨by decide +kernel, by decide +kernel⟩, List.mem_of_getElem? (i := 831) (by decide +kernel), List.mem_of_getElem? (i := 1007) (by decide +kernel), List.mem_of_getElem? (i := 1008) (by decide +kernel)⟩
theorem lw_p11 : lw_okq (⟨"DawnTalesModel", "number", "(II)Z"⟩, 37) := ⟨⟨by decide +kernel, by decide +kernel⟩, List.mem_of_getElem? (i := 831) (by decide +kernel), List.mem_of_getElem? (i := 1011) (by decide +kernel), List.mem_of_getElem? (i := 1012) (by decide +kernel)⟩
theorem lw_p12 : lw_okq (⟨"DawnTalesModel", "readNights", "()Z"⟩, 37) := ⟨⟨by decide +kernel, by decide +kernel⟩, List.mem_of_getElem? (i := 831) (by decide +kernel), List.mem_of_getElem? (i := 1015) (by decide +kernel), List.mem_of_getElem? (i := 1016) (by decide +kernel)⟩
theorem lw_p13 : lw_okq (⟨"DawnTalesModel", "isTale", "(I)Z"⟩, 37) := ⟨⟨by decide +kernel, by decide +kernel⟩, List.mem_of_getElem? (i := 831) (by decide +kernel), List.mem_of_getElem? (i := 1024) (by decide +kernel), List.mem_of_getElem? (i := 1025) (by decide +kernel)⟩
theorem lw_p14 : lw_okq (⟨"DawnTalesModel", "has", "()Z"⟩, 37) := ⟨⟨by decide +kernel, by decide +kernel⟩, List.mem_of_getElem? (i := 831) (by decide +kernel), List.mem_of_getElem? (i := 1037) (by decide +kernel), List.mem_of_getElem? (i := 1038) (by decide +kernel)⟩
theorem lw_p15 : lw_okq (⟨"DawnTalesModel", "mayBegin", "([II)Z"⟩, 37) := ⟨⟨by decide +kernel, by decide +kernel⟩, List.mem_of_getElem? (i := 831) (by decide +kernel), List.mem_of_getElem? (i := 1041) (by decide +kernel), List.mem_of_getElem? (i := 1042) (by decide +kernel)⟩
def lw_privs_1 : List (MethodName × Nat) := [(⟨"DawnTales", "startAnew", "()V"⟩, 11), (⟨"DawnTales", "isAsHeard", "(I)Z"⟩, 11), (⟨"DawnTalesModel", "plain", "()V"⟩, 37), (⟨"DawnTalesModel", "takes", "()V"⟩, 37), (⟨"DawnTalesModel", "beginsAnew", "()V"⟩, 37), (⟨"DawnTalesModel", "hoursOf", "(I)I"⟩, 37), (⟨"DawnTalesModel", "reads", "()V"⟩, 37), (⟨"DawnTalesModel", "readLetters", "()V"⟩, 37), (⟨"DawnTalesModel", "readNumber", "()V"⟩, 37), (⟨"DawnTalesModel", "readItem", "()Z"⟩, 37), (⟨"DawnTalesModel", "readTale", "()Z"⟩, 37), (⟨"DawnTalesModel", "number", "(II)Z"⟩, 37), (⟨"DawnTalesModel", "readNights", "()Z"⟩, 37), (⟨"DawnTalesModel", "isTale", "(I)Z"⟩, 37), (⟨"DawnTalesModel", "has", "()Z"⟩, 37), (⟨"DawnTalesModel", "mayBegin", "([II)Z"⟩, 37)]
theorem lw_r1 : ∀ q ∈ lw_privs_1, lw_okq q := List.forall_mem_cons.mpr ⟨lw_p0, List.forall_mem_cons.mpr ⟨lw_p1, List.forall_mem_cons.mpr ⟨lw_p2, List.forall_mem_cons.mpr ⟨lw_p3, List.forall_mem_cons.mpr ⟨lw_p4, List.forall_mem_cons.mpr ⟨lw_p5, List.forall_mem_cons.mpr ⟨lw_p6, List.forall_mem_cons.mpr ⟨lw_p7, List.forall_mem_cons.mpr ⟨lw_p8, List.forall_mem_cons.mpr ⟨lw_p9, List.forall_mem_cons.mpr ⟨lw_p10, List.forall_mem_cons.mpr ⟨lw_p11, List.forall_mem_cons.mpr ⟨lw_p12, List.forall_mem_cons.mpr ⟨lw_p13, List.forall_mem_cons.mpr ⟨lw_p14, List.forall_mem_cons.mpr ⟨lw_p15, fun _ h => absurd h List.not_mem_nil⟩⟩⟩⟩⟩⟩⟩⟩⟩⟩⟩⟩⟩⟩⟩⟩
theorem lw_p16 : lw_okq (⟨"DawnTalesModel", "notes", "()V"⟩, 37) := ⟨⟨by decide +kernel, by decide +kernel⟩, List.mem_of_getElem? (i := 831) (by decide +kernel), List.mem_of_getElem? (i := 1048) (by decide +kernel), List.mem_of_getElem? (i := 1049) (by decide +kernel)⟩
theorem lw_p17 : lw_okq (⟨"DawnTalesModel", "dawns", "([I)Z"⟩, 37) := ⟨⟨by decide +kernel, by decide +kernel⟩, List.mem_of_getElem? (i := 831) (by decide +kernel), List.mem_of_getElem? (i := 1070) (by decide +kernel), List.mem_of_getElem? (i := 1071) (by decide +kernel)⟩
theorem lw_p18 : lw_okq (⟨"DawnTalesModel", "saves", "()I"⟩, 37) := ⟨⟨by decide +kernel, by decide +kernel⟩, List.mem_of_getElem? (i := 831) (by decide +kernel), List.mem_of_getElem? (i := 1091) (by decide +kernel), List.mem_of_getElem? (i := 1092) (by decide +kernel)⟩
theorem lw_p19 : lw_okq (⟨"DawnTalesModel", "finds", "()V"⟩, 37) := ⟨⟨by decide +kernel, by decide +kernel⟩, List.mem_of_getElem? (i := 831) (by decide +kernel), List.mem_of_getElem? (i := 1099) (by decide +kernel), List.mem_of_getElem? (i := 1100) (by decide +kernel)⟩
theorem lw_p20 : lw_okq (⟨"DawnTalesModel", "starts", "(I)Z"⟩, 37) := ⟨⟨by decide +kernel, by decide +kernel⟩, List.mem_of_getElem? (i := 831) (by decide +kernel), List.mem_of_getElem? (i := 1103) (by decide +kernel), List.mem_of_getElem? (i := 1104) (by decide +kernel)⟩
theorem lw_p21 : lw_okq (⟨"DawnTalesModel", "fills", "(I)Z"⟩, 37) := ⟨⟨by decide +kernel, by decide +kernel⟩, List.mem_of_getElem? (i := 831) (by decide +kernel), List.mem_of_getElem? (i := 1107) (by decide +kernel), List.mem_of_getElem? (i := 1108) (by decide +kernel)⟩
theorem lw_p22 : lw_okq (⟨"DawnTalesModel", "isMet", "(I)Z"⟩, 37) := ⟨⟨by decide +kernel, by decide +kernel⟩, List.mem_of_getElem? (i := 831) (by decide +kernel), List.mem_of_getElem? (i := 1111) (by decide +kernel), List.mem_of_getElem? (i := 1112) (by decide +kernel)⟩
theorem lw_p23 : lw_okq (⟨"DawnTalesModel", "code", "()I"⟩, 37) := ⟨⟨by decide +kernel, by decide +kernel⟩, List.mem_of_getElem? (i := 831) (by decide +kernel), List.mem_of_getElem? (i := 1115) (by decide +kernel), List.mem_of_getElem? (i := 1116) (by decide +kernel)⟩
theorem lw_p24 : lw_okq (⟨"DawnTalesModel", "turns", "()Z"⟩, 37) := ⟨⟨by decide +kernel, by decide +kernel⟩, List.mem_of_getElem? (i := 831) (by decide +kernel), List.mem_of_getElem? (i := 1119) (by decide +kernel), List.mem_of_getElem? (i := 1120) (by decide +kernel)⟩
theorem lw_p25 : lw_okq (⟨"DawnTalesModel", "isHeard", "(I)Z"⟩, 37) := ⟨⟨by decide +kernel, by decide +kernel⟩, List.mem_of_getElem? (i := 831) (by decide +kernel), List.mem_of_getElem? (i := 1153) (by decide +kernel), List.mem_of_getElem? (i := 1154) (by decide +kernel)⟩
def lw_privs_2 : List (MethodName × Nat) := [(⟨"DawnTalesModel", "notes", "()V"⟩, 37), (⟨"DawnTalesModel", "dawns", "([I)Z"⟩, 37), (⟨"DawnTalesModel", "saves", "()I"⟩, 37), (⟨"DawnTalesModel", "finds", "()V"⟩, 37), (⟨"DawnTalesModel", "starts", "(I)Z"⟩, 37), (⟨"DawnTalesModel", "fills", "(I)Z"⟩, 37), (⟨"DawnTalesModel", "isMet", "(I)Z"⟩, 37), (⟨"DawnTalesModel", "code", "()I"⟩, 37), (⟨"DawnTalesModel", "turns", "()Z"⟩, 37), (⟨"DawnTalesModel", "isHeard", "(I)Z"⟩, 37)]
theorem lw_r2 : ∀ q ∈ lw_privs_2, lw_okq q := List.forall_mem_cons.mpr ⟨lw_p16, List.forall_mem_cons.mpr ⟨lw_p17, List.forall_mem_cons.mpr ⟨lw_p18, List.forall_mem_cons.mpr ⟨lw_p19, List.forall_mem_cons.mpr ⟨lw_p20, List.forall_mem_cons.mpr ⟨lw_p21, List.forall_mem_cons.mpr ⟨lw_p22, List.forall_mem_cons.mpr ⟨lw_p23, List.forall_mem_cons.mpr ⟨lw_p24, List.forall_mem_cons.mpr ⟨lw_p25, fun _ h => absurd h List.not_mem_nil⟩⟩⟩⟩⟩⟩⟩⟩⟩⟩
def lw_privs : List (MethodName × Nat) := lw_privs_1 ++ (lw_privs_2)
def lw_tbl : List Cond := k2_sels lw_privs ++ tables_1
theorem lw_privs_ok : ∀ q ∈ lw_privs, lw_okq q := by
  show ∀ q ∈ lw_privs_1 ++ (lw_privs_2), lw_okq q
  exact List.forall_mem_append.mpr ⟨lw_r1, lw_r2⟩
end
section
def RX0 : String := "DawnTales$Book"
def TX0 : u_T := fun k => match k with
  | 0 => ("DawnTales$Book", "tales", "I", false)
  | 1 => ("DawnTales$Book", "parts", "[I", true)
  | 2 => ("DawnTales$Book", "within", "[I", true)
  | 3 => ("DawnTales$Book", "nights", "I", false)
  | 4 => ("DawnTales$Book", "nightHours", "[I", true)
  | 5 => ("DawnTales$Book", "memory", "I", false)
  | _ => ("DawnTales$Book", "depth", "I", false)
def tyX0 : Nat → FieldType := fun k => match k with
  | 0 => .int
  | 1 => .array .int
  | 2 => .array .int
  | 3 => .int
  | 4 => .array .int
  | 5 => .int
  | _ => .int
abbrev wsX00 : List Cond := u_ws RX0 TX0 7
theorem nmX0 : ∀ a, a < 7 → ∀ b, b < 7 → a ≠ b → (TX0 a).2.1 ≠ (TX0 b).2.1 := by decide +kernel
theorem tyX0_ok : ∀ k, k < 7 → parseFieldDescriptor (TX0 k).2.2.1 = some (tyX0 k) := by decide +kernel
abbrev cX0_init : ByteArray := prog_2_method_1_code
def yX0_init : MethodName := ⟨RX0, "<init>", "()V"⟩
abbrev cX0_wipe : ByteArray := prog_2_method_2_code
def yX0_wipe : MethodName := ⟨RX0, "wipe", "()V"⟩
abbrev cX0_settle : ByteArray := prog_2_method_3_code
def yX0_settle : MethodName := ⟨RX0, "settle", "()V"⟩
abbrev cX0_copyFrom : ByteArray := prog_2_method_4_code
def yX0_copyFrom : MethodName := ⟨RX0, "copyFrom", "(LDawnTales$Book;)V"⟩
abbrev cX0_lengthenNights : ByteArray := prog_2_method_5_code
def yX0_lengthenNights : MethodName := ⟨RX0, "lengthenNights", "()V"⟩
abbrev cX0_addTale : ByteArray := prog_2_method_6_code
def yX0_addTale : MethodName := ⟨RX0, "addTale", "(II)V"⟩
abbrev cX0_addNight : ByteArray := prog_2_method_7_code
def yX0_addNight : MethodName := ⟨RX0, "addNight", "(I)V"⟩
abbrev cX0_isTale : ByteArray := prog_2_method_8_code
def yX0_isTale : MethodName := ⟨RX0, "isTale", "(I)Z"⟩
abbrev cX0_partsOf : ByteArray := prog_2_method_9_code
def yX0_partsOf : MethodName := ⟨RX0, "partsOf", "(I)I"⟩
abbrev cX0_withinOf : ByteArray := prog_2_method_10_code
def yX0_withinOf : MethodName := ⟨RX0, "withinOf", "(I)I"⟩
abbrev cX0_toldWithin : ByteArray := prog_2_method_11_code
def yX0_toldWithin : MethodName := ⟨RX0, "toldWithin", "(I)I"⟩
abbrev cX0_hoursOf : ByteArray := prog_2_method_12_code
def yX0_hoursOf : MethodName := ⟨RX0, "hoursOf", "(I)I"⟩
def RX1 : String := "DawnTales$BorrowedKind"
def TX1 : u_T := fun k => match k with
  | _ => ("DawnTales$TaleKind", "traced", "J", false)
def tyX1 : Nat → FieldType := fun k => match k with
  | _ => .long
abbrev wsX10 : List Cond := u_ws RX1 TX1 1
theorem nmX1 : ∀ a, a < 1 → ∀ b, b < 1 → a ≠ b → (TX1 a).2.1 ≠ (TX1 b).2.1 := by decide +kernel
theorem tyX1_ok : ∀ k, k < 1 → parseFieldDescriptor (TX1 k).2.2.1 = some (tyX1 k) := by decide +kernel
abbrev cX1_init : ByteArray := prog_3_method_1_code
def yX1_init : MethodName := ⟨RX1, "<init>", "()V"⟩
abbrev cX1_marked : ByteArray := prog_3_method_2_code
def yX1_marked : MethodName := ⟨RX1, "marked", "(LDawnTales$Book;LDawnTales$Telling;I)I"⟩
def RX2 : String := "DawnTales$EndlessKind"
def TX2 : u_T := fun k => match k with
  | _ => ("DawnTales$TaleKind", "traced", "J", false)
def tyX2 : Nat → FieldType := fun k => match k with
  | _ => .long
abbrev wsX20 : List Cond := u_ws RX2 TX2 1
theorem nmX2 : ∀ a, a < 1 → ∀ b, b < 1 → a ≠ b → (TX2 a).2.1 ≠ (TX2 b).2.1 := by decide +kernel
theorem tyX2_ok : ∀ k, k < 1 → parseFieldDescriptor (TX2 k).2.2.1 = some (tyX2 k) := by decide +kernel
abbrev cX2_init : ByteArray := prog_4_method_1_code
def yX2_init : MethodName := ⟨RX2, "<init>", "()V"⟩
abbrev cX2_marked : ByteArray := prog_4_method_2_code
def yX2_marked : MethodName := ⟨RX2, "marked", "(LDawnTales$Book;LDawnTales$Telling;I)I"⟩
def RX3 : String := "DawnTales$JokeKind"
def TX3 : u_T := fun k => match k with
  | _ => ("DawnTales$TaleKind", "traced", "J", false)
def tyX3 : Nat → FieldType := fun k => match k with
  | _ => .long
abbrev wsX30 : List Cond := u_ws RX3 TX3 1
theorem nmX3 : ∀ a, a < 1 → ∀ b, b < 1 → a ≠ b → (TX3 a).2.1 ≠ (TX3 b).2.1 := by decide +kernel
theorem tyX3_ok : ∀ k, k < 1 → parseFieldDescriptor (TX3 k).2.2.1 = some (tyX3 k) := by decide +kernel
abbrev cX3_init : ByteArray := prog_5_method_1_code
def yX3_init : MethodName := ⟨RX3, "<init>", "()V"⟩
abbrev cX3_marked : ByteArray := prog_5_method_2_code
def yX3_marked : MethodName := ⟨RX3, "marked", "(LDawnTales$Book;LDawnTales$Telling;I)I"⟩
def RX4 : String := "DawnTales$RingKind"
def TX4 : u_T := fun k => match k with
  | _ => ("DawnTales$TaleKind", "traced", "J", false)
def tyX4 : Nat → FieldType := fun k => match k with
  | _ => .long
abbrev wsX40 : List Cond := u_ws RX4 TX4 1
theorem nmX4 : ∀ a, a < 1 → ∀ b, b < 1 → a ≠ b → (TX4 a).2.1 ≠ (TX4 b).2.1 := by decide +kernel
theorem tyX4_ok : ∀ k, k < 1 → parseFieldDescriptor (TX4 k).2.2.1 = some (tyX4 k) := by decide +kernel
abbrev cX4_init : ByteArray := prog_6_method_1_code
def yX4_init : MethodName := ⟨RX4, "<init>", "()V"⟩
abbrev cX4_marked : ByteArray := prog_6_method_2_code
def yX4_marked : MethodName := ⟨RX4, "marked", "(LDawnTales$Book;LDawnTales$Telling;I)I"⟩
def RX5 : String := "DawnTales$Rows"
def TX5 : u_T := fun k => match k with
  | 0 => ("DawnTales$Rows", "row", "[I", true)
  | 1 => ("DawnTales$Rows", "saved", "[B", true)
  | 2 => ("DawnTales$Rows", "opened", "[J", true)
  | 3 => ("DawnTales$Rows", "isStuck", "[Z", true)
  | 4 => ("DawnTales$Rows", "size", "I", false)
  | 5 => ("DawnTales$Rows", "fullFrom", "I", false)
  | 6 => ("DawnTales$Rows", "known", "Z", false)
  | 7 => ("DawnTales$Rows", "longerBest", "I", false)
  | 8 => ("DawnTales$Rows", "walker", "LDawnTales$Telling;", true)
  | 9 => ("DawnTales$Rows", "walkedOpen", "[J", true)
  | 10 => ("DawnTales$Rows", "order", "[I", true)
  | 11 => ("DawnTales$Rows", "orderSize", "I", false)
  | 12 => ("DawnTales$Rows", "next", "I", false)
  | _ => ("DawnTales$Rows", "longerBook", "LDawnTales$Book;", true)
def tyX5 : Nat → FieldType := fun k => match k with
  | 0 => .array .int
  | 1 => .array .byte
  | 2 => .array .long
  | 3 => .array .boolean
  | 4 => .int
  | 5 => .int
  | 6 => .boolean
  | 7 => .int
  | 8 => .object "DawnTales$Telling"
  | 9 => .array .long
  | 10 => .array .int
  | 11 => .int
  | 12 => .int
  | _ => .object "DawnTales$Book"
abbrev wsX50 : List Cond := u_ws RX5 TX5 14
theorem nmX5 : ∀ a, a < 14 → ∀ b, b < 14 → a ≠ b → (TX5 a).2.1 ≠ (TX5 b).2.1 := by decide +kernel
theorem tyX5_ok : ∀ k, k < 14 → parseFieldDescriptor (TX5 k).2.2.1 = some (tyX5 k) := by decide +kernel
abbrev cX5_init : ByteArray := prog_7_method_1_code
def yX5_init : MethodName := ⟨RX5, "<init>", "()V"⟩
abbrev cX5_spread : ByteArray := prog_7_method_2_code
def yX5_spread : MethodName := ⟨RX5, "spread", "(II)Z"⟩
abbrev cX5_walk : ByteArray := prog_7_method_3_code
def yX5_walk : MethodName := ⟨RX5, "walk", "(LDawnTales$Book;)I"⟩
abbrev cX5_walkNight : ByteArray := prog_7_method_4_code
def yX5_walkNight : MethodName := ⟨RX5, "walkNight", "(LDawnTales$Book;)V"⟩
abbrev cX5_walkOn : ByteArray := prog_7_method_5_code
def yX5_walkOn : MethodName := ⟨RX5, "walkOn", "(LDawnTales$Book;LDawnTales$Telling;)I"⟩
abbrev cX5_drop : ByteArray := prog_7_method_6_code
def yX5_drop : MethodName := ⟨RX5, "drop", "()V"⟩
abbrev cX5_know : ByteArray := prog_7_method_7_code
def yX5_know : MethodName := ⟨RX5, "know", "(LDawnTales$Book;)V"⟩
abbrev cX5_walkAll : ByteArray := prog_7_method_8_code
def yX5_walkAll : MethodName := ⟨RX5, "walkAll", "(LDawnTales$Book;)V"⟩
abbrev cX5_takeOver : ByteArray := prog_7_method_9_code
def yX5_takeOver : MethodName := ⟨RX5, "takeOver", "(II)V"⟩
abbrev cX5_list : ByteArray := prog_7_method_10_code
def yX5_list : MethodName := ⟨RX5, "list", "(I)V"⟩
abbrev cX5_listLonger : ByteArray := prog_7_method_11_code
def yX5_listLonger : MethodName := ⟨RX5, "listLonger", "(II)V"⟩
abbrev cX5_bestIfLonger : ByteArray := prog_7_method_12_code
def yX5_bestIfLonger : MethodName := ⟨RX5, "bestIfLonger", "(LDawnTales$Book;)I"⟩
abbrev cX5_bestPlace : ByteArray := prog_7_method_13_code
def yX5_bestPlace : MethodName := ⟨RX5, "bestPlace", "()I"⟩
abbrev cX5_fewestPlace : ByteArray := prog_7_method_14_code
def yX5_fewestPlace : MethodName := ⟨RX5, "fewestPlace", "(I)I"⟩
abbrev cX5_mindPlace : ByteArray := prog_7_method_15_code
def yX5_mindPlace : MethodName := ⟨RX5, "mindPlace", "(I)I"⟩
abbrev cX5_inAllThatReach : ByteArray := prog_7_method_16_code
def yX5_inAllThatReach : MethodName := ⟨RX5, "inAllThatReach", "(I)I"⟩
abbrev cX5_mostOpen : ByteArray := prog_7_method_17_code
def yX5_mostOpen : MethodName := ⟨RX5, "mostOpen", "(II)I"⟩
abbrev cX5_rowAt : ByteArray := prog_7_method_18_code
def yX5_rowAt : MethodName := ⟨RX5, "rowAt", "(I)I"⟩
abbrev cX5_savedBy : ByteArray := prog_7_method_19_code
def yX5_savedBy : MethodName := ⟨RX5, "savedBy", "(I)I"⟩
abbrev cX5_sizeAt : ByteArray := prog_7_method_20_code
def yX5_sizeAt : MethodName := ⟨RX5, "sizeAt", "(I)I"⟩
abbrev cX5_openAt : ByteArray := prog_7_method_21_code
def yX5_openAt : MethodName := ⟨RX5, "openAt", "(II)I"⟩
abbrev cX5_shiftOf : ByteArray := prog_7_method_22_code
def yX5_shiftOf : MethodName := ⟨RX5, "shiftOf", "(I)I"⟩
abbrev cX5_bitsOf : ByteArray := prog_7_method_23_code
def yX5_bitsOf : MethodName := ⟨RX5, "bitsOf", "(I)I"⟩
def RX6 : String := "DawnTales$Stand"
def TX6 : u_T := fun k => match k with
  | 0 => ("DawnTales$Stand", "now", "LDawnTales$Telling;", true)
  | 1 => ("DawnTales$Stand", "past", "[LDawnTales$Telling;", true)
  | _ => ("DawnTales$Stand", "known", "I", false)
def tyX6 : Nat → FieldType := fun k => match k with
  | 0 => .object "DawnTales$Telling"
  | 1 => .array (.object "DawnTales$Telling")
  | _ => .int
abbrev wsX60 : List Cond := u_ws RX6 TX6 3
theorem nmX6 : ∀ a, a < 3 → ∀ b, b < 3 → a ≠ b → (TX6 a).2.1 ≠ (TX6 b).2.1 := by decide +kernel
theorem tyX6_ok : ∀ k, k < 3 → parseFieldDescriptor (TX6 k).2.2.1 = some (tyX6 k) := by decide +kernel
abbrev cX6_init : ByteArray := prog_8_method_1_code
def yX6_init : MethodName := ⟨RX6, "<init>", "()V"⟩
abbrev cX6_start : ByteArray := prog_8_method_2_code
def yX6_start : MethodName := ⟨RX6, "start", "(LDawnTales$Book;)V"⟩
abbrev cX6_copyFrom : ByteArray := prog_8_method_3_code
def yX6_copyFrom : MethodName := ⟨RX6, "copyFrom", "(LDawnTales$Stand;)V"⟩
abbrev cX6_remember : ByteArray := prog_8_method_4_code
def yX6_remember : MethodName := ⟨RX6, "remember", "()V"⟩
abbrev cX6_loseOldest : ByteArray := prog_8_method_5_code
def yX6_loseOldest : MethodName := ⟨RX6, "loseOldest", "()V"⟩
abbrev cX6_takeBack : ByteArray := prog_8_method_6_code
def yX6_takeBack : MethodName := ⟨RX6, "takeBack", "()Z"⟩
def RX7 : String := "DawnTales$TaleKind"
def TX7 : u_T := fun k => match k with
  | _ => ("DawnTales$TaleKind", "traced", "J", false)
def tyX7 : Nat → FieldType := fun k => match k with
  | _ => .long
abbrev wsX70 : List Cond := u_ws RX7 TX7 1
theorem nmX7 : ∀ a, a < 1 → ∀ b, b < 1 → a ≠ b → (TX7 a).2.1 ≠ (TX7 b).2.1 := by decide +kernel
theorem tyX7_ok : ∀ k, k < 1 → parseFieldDescriptor (TX7 k).2.2.1 = some (tyX7 k) := by decide +kernel
abbrev cX7_init : ByteArray := prog_9_method_1_code
def yX7_init : MethodName := ⟨RX7, "<init>", "()V"⟩
abbrev cX7_marked : ByteArray := prog_9_method_2_code
def yX7_marked : MethodName := ⟨RX7, "marked", "(LDawnTales$Book;LDawnTales$Telling;I)I"⟩
def RX8 : String := "DawnTales$Telling"
def TX8 : u_T := fun k => match k with
  | 0 => ("DawnTales$Telling", "night", "I", false)
  | 1 => ("DawnTales$Telling", "hoursLeft", "I", false)
  | 2 => ("DawnTales$Telling", "saved", "I", false)
  | 3 => ("DawnTales$Telling", "lives", "Z", false)
  | 4 => ("DawnTales$Telling", "begun", "I", false)
  | 5 => ("DawnTales$Telling", "openBits", "I", false)
  | 6 => ("DawnTales$Telling", "deep", "I", false)
  | 7 => ("DawnTales$Telling", "open", "[I", true)
  | 8 => ("DawnTales$Telling", "left", "[I", true)
  | _ => ("DawnTales$Telling", "lastNight", "[I", true)
def tyX8 : Nat → FieldType := fun k => match k with
  | 0 => .int
  | 1 => .int
  | 2 => .int
  | 3 => .boolean
  | 4 => .int
  | 5 => .int
  | 6 => .int
  | 7 => .array .int
  | 8 => .array .int
  | _ => .array .int
abbrev wsX80 : List Cond := u_ws RX8 TX8 10
theorem nmX8 : ∀ a, a < 10 → ∀ b, b < 10 → a ≠ b → (TX8 a).2.1 ≠ (TX8 b).2.1 := by decide +kernel
theorem tyX8_ok : ∀ k, k < 10 → parseFieldDescriptor (TX8 k).2.2.1 = some (tyX8 k) := by decide +kernel
abbrev cX8_init : ByteArray := prog_10_method_1_code
def yX8_init : MethodName := ⟨RX8, "<init>", "()V"⟩
abbrev cX8_start : ByteArray := prog_10_method_2_code
def yX8_start : MethodName := ⟨RX8, "start", "(LDawnTales$Book;)V"⟩
abbrev cX8_copyFrom : ByteArray := prog_10_method_3_code
def yX8_copyFrom : MethodName := ⟨RX8, "copyFrom", "(LDawnTales$Telling;)V"⟩
abbrev cX8_leftOf : ByteArray := prog_10_method_4_code
def yX8_leftOf : MethodName := ⟨RX8, "leftOf", "(I)I"⟩
abbrev cX8_lastNightOf : ByteArray := prog_10_method_5_code
def yX8_lastNightOf : MethodName := ⟨RX8, "lastNightOf", "(I)I"⟩
abbrev cX8_isBegun : ByteArray := prog_10_method_6_code
def yX8_isBegun : MethodName := ⟨RX8, "isBegun", "(I)Z"⟩
abbrev cX8_openAt : ByteArray := prog_10_method_7_code
def yX8_openAt : MethodName := ⟨RX8, "openAt", "(I)I"⟩
abbrev cX8_innermost : ByteArray := prog_10_method_8_code
def yX8_innermost : MethodName := ⟨RX8, "innermost", "()I"⟩
abbrev cX8_placeOf : ByteArray := prog_10_method_9_code
def yX8_placeOf : MethodName := ⟨RX8, "placeOf", "(I)I"⟩
abbrev cX8_endedBits : ByteArray := prog_10_method_10_code
def yX8_endedBits : MethodName := ⟨RX8, "endedBits", "()I"⟩
abbrev cX8_mayBeginBits : ByteArray := prog_10_method_11_code
def yX8_mayBeginBits : MethodName := ⟨RX8, "mayBeginBits", "(LDawnTales$Book;)I"⟩
abbrev cX8_bitOf : ByteArray := prog_10_method_12_code
def yX8_bitOf : MethodName := ⟨RX8, "bitOf", "(I)I"⟩
abbrev cX8_hasHour : ByteArray := prog_10_method_13_code
def yX8_hasHour : MethodName := ⟨RX8, "hasHour", "()Z"⟩
abbrev cX8_mayBegin : ByteArray := prog_10_method_14_code
def yX8_mayBegin : MethodName := ⟨RX8, "mayBegin", "(LDawnTales$Book;I)Z"⟩
abbrev cX8_mayDawn : ByteArray := prog_10_method_15_code
def yX8_mayDawn : MethodName := ⟨RX8, "mayDawn", "()Z"⟩
abbrev cX8_beginTale : ByteArray := prog_10_method_16_code
def yX8_beginTale : MethodName := ⟨RX8, "beginTale", "(I)V"⟩
abbrev cX8_tellParts : ByteArray := prog_10_method_17_code
def yX8_tellParts : MethodName := ⟨RX8, "tellParts", "(II)V"⟩
abbrev cX8_passHour : ByteArray := prog_10_method_18_code
def yX8_passHour : MethodName := ⟨RX8, "passHour", "()V"⟩
abbrev cX8_goOn : ByteArray := prog_10_method_19_code
def yX8_goOn : MethodName := ⟨RX8, "goOn", "()V"⟩
abbrev cX8_isPause : ByteArray := prog_10_method_20_code
def yX8_isPause : MethodName := ⟨RX8, "isPause", "()Z"⟩
abbrev cX8_isForgotten : ByteArray := prog_10_method_21_code
def yX8_isForgotten : MethodName := ⟨RX8, "isForgotten", "(LDawnTales$Book;)Z"⟩
abbrev cX8_meetDawn : ByteArray := prog_10_method_22_code
def yX8_meetDawn : MethodName := ⟨RX8, "meetDawn", "(LDawnTales$Book;)Z"⟩
def RX9 : String := "DawnTales$Text"
def TX9 : u_T := fun k => match k with
  | 0 => ("DawnTales$Text", "bytes", "[I", true)
  | 1 => ("DawnTales$Text", "length", "I", false)
  | 2 => ("DawnTales$Text", "at", "I", false)
  | 3 => ("DawnTales$Text", "after", "I", false)
  | 4 => ("DawnTales$Text", "token", "I", false)
  | _ => ("DawnTales$Text", "value", "I", false)
def tyX9 : Nat → FieldType := fun k => match k with
  | 0 => .array .int
  | 1 => .int
  | 2 => .int
  | 3 => .int
  | 4 => .int
  | _ => .int
abbrev wsX90 : List Cond := u_ws RX9 TX9 6
theorem nmX9 : ∀ a, a < 6 → ∀ b, b < 6 → a ≠ b → (TX9 a).2.1 ≠ (TX9 b).2.1 := by decide +kernel
theorem tyX9_ok : ∀ k, k < 6 → parseFieldDescriptor (TX9 k).2.2.1 = some (tyX9 k) := by decide +kernel
abbrev cX9_init : ByteArray := prog_11_method_1_code
def yX9_init : MethodName := ⟨RX9, "<init>", "()V"⟩
abbrev cX9_add : ByteArray := prog_11_method_2_code
def yX9_add : MethodName := ⟨RX9, "add", "(I)Z"⟩
abbrev cX9_empty : ByteArray := prog_11_method_3_code
def yX9_empty : MethodName := ⟨RX9, "empty", "()I"⟩
abbrev cX9_readInto : ByteArray := prog_11_method_4_code
def yX9_readInto : MethodName := ⟨RX9, "readInto", "(LDawnTales$Book;)I"⟩
abbrev cX9_readItem : ByteArray := prog_11_method_5_code
def yX9_readItem : MethodName := ⟨RX9, "readItem", "(LDawnTales$Book;)Z"⟩
abbrev cX9_readTale : ByteArray := prog_11_method_6_code
def yX9_readTale : MethodName := ⟨RX9, "readTale", "(LDawnTales$Book;)Z"⟩
abbrev cX9_readNights : ByteArray := prog_11_method_7_code
def yX9_readNights : MethodName := ⟨RX9, "readNights", "(LDawnTales$Book;)Z"⟩
abbrev cX9_readMemory : ByteArray := prog_11_method_8_code
def yX9_readMemory : MethodName := ⟨RX9, "readMemory", "(LDawnTales$Book;)Z"⟩
abbrev cX9_readDepth : ByteArray := prog_11_method_9_code
def yX9_readDepth : MethodName := ⟨RX9, "readDepth", "(LDawnTales$Book;)Z"⟩
abbrev cX9_isNumber : ByteArray := prog_11_method_10_code
def yX9_isNumber : MethodName := ⟨RX9, "isNumber", "(II)Z"⟩
abbrev cX9_nextToken : ByteArray := prog_11_method_11_code
def yX9_nextToken : MethodName := ⟨RX9, "nextToken", "()V"⟩
abbrev cX9_takeLetters : ByteArray := prog_11_method_12_code
def yX9_takeLetters : MethodName := ⟨RX9, "takeLetters", "()V"⟩
abbrev cX9_takeNumber : ByteArray := prog_11_method_13_code
def yX9_takeNumber : MethodName := ⟨RX9, "takeNumber", "()V"⟩
abbrev cX9_byteAt : ByteArray := prog_11_method_14_code
def yX9_byteAt : MethodName := ⟨RX9, "byteAt", "(I)I"⟩
abbrev cX9_isLetter : ByteArray := prog_11_method_15_code
def yX9_isLetter : MethodName := ⟨RX9, "isLetter", "(I)Z"⟩
abbrev cX9_isDigit : ByteArray := prog_11_method_16_code
def yX9_isDigit : MethodName := ⟨RX9, "isDigit", "(I)Z"⟩
def RX10 : String := "DawnTales$TrueKind"
def TX10 : u_T := fun k => match k with
  | _ => ("DawnTales$TaleKind", "traced", "J", false)
def tyX10 : Nat → FieldType := fun k => match k with
  | _ => .long
abbrev wsX100 : List Cond := u_ws RX10 TX10 1
theorem nmX10 : ∀ a, a < 1 → ∀ b, b < 1 → a ≠ b → (TX10 a).2.1 ≠ (TX10 b).2.1 := by decide +kernel
theorem tyX10_ok : ∀ k, k < 1 → parseFieldDescriptor (TX10 k).2.2.1 = some (tyX10 k) := by decide +kernel
abbrev cX10_init : ByteArray := prog_12_method_1_code
def yX10_init : MethodName := ⟨RX10, "<init>", "()V"⟩
abbrev cX10_marked : ByteArray := prog_12_method_2_code
def yX10_marked : MethodName := ⟨RX10, "marked", "(LDawnTales$Book;LDawnTales$Telling;I)I"⟩
def RX11 : String := "DawnTales"
def TX11 : u_T := fun k => match k with
  | 0 => ("DawnTales", "text", "LDawnTales$Text;", true)
  | 1 => ("DawnTales", "book", "LDawnTales$Book;", true)
  | 2 => ("DawnTales", "draft", "LDawnTales$Book;", true)
  | 3 => ("DawnTales", "stand", "LDawnTales$Stand;", true)
  | 4 => ("DawnTales", "images", "[LDawnTales$Stand;", true)
  | 5 => ("DawnTales", "kept", "I", false)
  | 6 => ("DawnTales", "rows", "LDawnTales$Rows;", true)
  | 7 => ("DawnTales", "heardDawn", "[I", true)
  | 8 => ("DawnTales", "heardOpen", "[I", true)
  | 9 => ("DawnTales", "heardCount", "I", false)
  | _ => ("DawnTales", "kinds", "[LDawnTales$TaleKind;", true)
def tyX11 : Nat → FieldType := fun k => match k with
  | 0 => .object "DawnTales$Text"
  | 1 => .object "DawnTales$Book"
  | 2 => .object "DawnTales$Book"
  | 3 => .object "DawnTales$Stand"
  | 4 => .array (.object "DawnTales$Stand")
  | 5 => .int
  | 6 => .object "DawnTales$Rows"
  | 7 => .array .int
  | 8 => .array .int
  | 9 => .int
  | _ => .array (.object "DawnTales$TaleKind")
abbrev wsX110 : List Cond := u_ws RX11 TX11 11
theorem nmX11 : ∀ a, a < 11 → ∀ b, b < 11 → a ≠ b → (TX11 a).2.1 ≠ (TX11 b).2.1 := by decide +kernel
theorem tyX11_ok : ∀ k, k < 11 → parseFieldDescriptor (TX11 k).2.2.1 = some (tyX11 k) := by decide +kernel
abbrev cX11_init : ByteArray := prog_1_method_1_code
def yX11_init : MethodName := ⟨RX11, "<init>", "()V"⟩
abbrev cX11_type : ByteArray := prog_1_method_2_code
def yX11_type : MethodName := ⟨RX11, "type", "(I)I"⟩
abbrev cX11_clear : ByteArray := prog_1_method_3_code
def yX11_clear : MethodName := ⟨RX11, "clear", "()I"⟩
abbrev cX11_tales : ByteArray := prog_1_method_4_code
def yX11_tales : MethodName := ⟨RX11, "tales", "()I"⟩
abbrev cX11_tale : ByteArray := prog_1_method_5_code
def yX11_tale : MethodName := ⟨RX11, "tale", "(II)I"⟩
abbrev cX11_hours : ByteArray := prog_1_method_6_code
def yX11_hours : MethodName := ⟨RX11, "hours", "(I)I"⟩
abbrev cX11_begins : ByteArray := prog_1_method_7_code
def yX11_begins : MethodName := ⟨RX11, "begins", "(I)I"⟩
abbrev cX11_tells : ByteArray := prog_1_method_8_code
def yX11_tells : MethodName := ⟨RX11, "tells", "()I"⟩
abbrev cX11_silent : ByteArray := prog_1_method_9_code
def yX11_silent : MethodName := ⟨RX11, "silent", "()I"⟩
abbrev cX11_dawn : ByteArray := prog_1_method_10_code
def yX11_dawn : MethodName := ⟨RX11, "dawn", "()I"⟩
abbrev cX11_undo : ByteArray := prog_1_method_11_code
def yX11_undo : MethodName := ⟨RX11, "undo", "()I"⟩
abbrev cX11_now : ByteArray := prog_1_method_12_code
def yX11_now : MethodName := ⟨RX11, "now", "(I)I"⟩
abbrev cX11_on : ByteArray := prog_1_method_13_code
def yX11_on : MethodName := ⟨RX11, "on", "()I"⟩
abbrev cX11_by : ByteArray := prog_1_method_14_code
def yX11_by : MethodName := ⟨RX11, "by", "(I)I"⟩
abbrev cX11_best : ByteArray := prog_1_method_15_code
def yX11_best : MethodName := ⟨RX11, "best", "(I)I"⟩
abbrev cX11_fewest : ByteArray := prog_1_method_16_code
def yX11_fewest : MethodName := ⟨RX11, "fewest", "(II)I"⟩
abbrev cX11_mind : ByteArray := prog_1_method_17_code
def yX11_mind : MethodName := ⟨RX11, "mind", "(II)I"⟩
abbrev cX11_bars : ByteArray := prog_1_method_18_code
def yX11_bars : MethodName := ⟨RX11, "bars", "(I)I"⟩
abbrev cX11_longer : ByteArray := prog_1_method_19_code
def yX11_longer : MethodName := ⟨RX11, "longer", "()I"⟩
abbrev cX11_heard : ByteArray := prog_1_method_20_code
def yX11_heard : MethodName := ⟨RX11, "heard", "(II)I"⟩
abbrev cX11_forget : ByteArray := prog_1_method_21_code
def yX11_forget : MethodName := ⟨RX11, "forget", "()I"⟩
abbrev cX11_orders : ByteArray := prog_1_method_22_code
def yX11_orders : MethodName := ⟨RX11, "orders", "(I)I"⟩
abbrev cX11_surely : ByteArray := prog_1_method_23_code
def yX11_surely : MethodName := ⟨RX11, "surely", "(I)I"⟩
abbrev cX11_odds : ByteArray := prog_1_method_24_code
def yX11_odds : MethodName := ⟨RX11, "odds", "(III)J"⟩
abbrev cX11_mark : ByteArray := prog_1_method_25_code
def yX11_mark : MethodName := ⟨RX11, "mark", "(II)I"⟩
abbrev cX11_keep : ByteArray := prog_1_method_26_code
def yX11_keep : MethodName := ⟨RX11, "keep", "(I)I"⟩
abbrev cX11_back : ByteArray := prog_1_method_27_code
def yX11_back : MethodName := ⟨RX11, "back", "(I)I"⟩
abbrev cX11_count : ByteArray := prog_1_method_28_code
def yX11_count : MethodName := ⟨RX11, "count", "(I)I"⟩
abbrev cX11_trace : ByteArray := prog_1_method_29_code
def yX11_trace : MethodName := ⟨RX11, "trace", "()J"⟩
abbrev cX11_startAnew : ByteArray := prog_1_method_30_code
def yX11_startAnew : MethodName := ⟨RX11, "startAnew", "()V"⟩
abbrev cX11_isAsHeard : ByteArray := prog_1_method_31_code
def yX11_isAsHeard : MethodName := ⟨RX11, "isAsHeard", "(I)Z"⟩
abbrev cX11_isDawn : ByteArray := prog_1_method_32_code
def yX11_isDawn : MethodName := ⟨RX11, "isDawn", "(I)Z"⟩
abbrev cX11_isPairPart : ByteArray := prog_1_method_33_code
def yX11_isPairPart : MethodName := ⟨RX11, "isPairPart", "(I)Z"⟩
abbrev cX11_isImage : ByteArray := prog_1_method_34_code
def yX11_isImage : MethodName := ⟨RX11, "isImage", "(I)Z"⟩
abbrev cX11_firstOf : ByteArray := prog_1_method_35_code
def yX11_firstOf : MethodName := ⟨RX11, "firstOf", "(I)I"⟩
abbrev cX11_commonDivisor : ByteArray := prog_1_method_36_code
def yX11_commonDivisor : MethodName := ⟨RX11, "commonDivisor", "(II)I"⟩
def RX12 : String := "DawnTalesModel"
def TX12 : u_T := fun k => match k with
  | 0 => ("DawnTalesModel", "text", "[I", true)
  | 1 => ("DawnTalesModel", "size", "I", false)
  | 2 => ("DawnTalesModel", "at", "I", false)
  | 3 => ("DawnTalesModel", "begin", "I", false)
  | 4 => ("DawnTalesModel", "token", "I", false)
  | 5 => ("DawnTalesModel", "told", "I", false)
  | 6 => ("DawnTalesModel", "readTales", "I", false)
  | 7 => ("DawnTalesModel", "readNights", "I", false)
  | 8 => ("DawnTalesModel", "readMemory", "I", false)
  | 9 => ("DawnTalesModel", "readDepth", "I", false)
  | 10 => ("DawnTalesModel", "readParts", "[I", true)
  | 11 => ("DawnTalesModel", "readWithin", "[I", true)
  | 12 => ("DawnTalesModel", "readHours", "[I", true)
  | 13 => ("DawnTalesModel", "tales", "I", false)
  | 14 => ("DawnTalesModel", "nights", "I", false)
  | 15 => ("DawnTalesModel", "memory", "I", false)
  | 16 => ("DawnTalesModel", "depth", "I", false)
  | 17 => ("DawnTalesModel", "parts", "[I", true)
  | 18 => ("DawnTalesModel", "within", "[I", true)
  | 19 => ("DawnTalesModel", "hours", "[I", true)
  | 20 => ("DawnTalesModel", "longer", "I", false)
  | 21 => ("DawnTalesModel", "now", "[I", true)
  | 22 => ("DawnTalesModel", "row", "[I", true)
  | 23 => ("DawnTalesModel", "saved", "I", false)
  | 24 => ("DawnTalesModel", "undone", "[I", true)
  | 25 => ("DawnTalesModel", "undos", "I", false)
  | 26 => ("DawnTalesModel", "order", "[I", true)
  | 27 => ("DawnTalesModel", "many", "I", false)
  | 28 => ("DawnTalesModel", "opens", "[I", true)
  | 29 => ("DawnTalesModel", "sets", "[I", true)
  | 30 => ("DawnTalesModel", "bestDawns", "I", false)
  | 31 => ("DawnTalesModel", "bestRow", "I", false)
  | 32 => ("DawnTalesModel", "heards", "I", false)
  | 33 => ("DawnTalesModel", "heardWhen", "[I", true)
  | 34 => ("DawnTalesModel", "heardOpen", "[I", true)
  | 35 => ("DawnTalesModel", "trace", "J", false)
  | _ => ("DawnTalesModel", "kept", "[I", true)
def tyX12 : Nat → FieldType := fun k => match k with
  | 0 => .array .int
  | 1 => .int
  | 2 => .int
  | 3 => .int
  | 4 => .int
  | 5 => .int
  | 6 => .int
  | 7 => .int
  | 8 => .int
  | 9 => .int
  | 10 => .array .int
  | 11 => .array .int
  | 12 => .array .int
  | 13 => .int
  | 14 => .int
  | 15 => .int
  | 16 => .int
  | 17 => .array .int
  | 18 => .array .int
  | 19 => .array .int
  | 20 => .int
  | 21 => .array .int
  | 22 => .array .int
  | 23 => .int
  | 24 => .array .int
  | 25 => .int
  | 26 => .array .int
  | 27 => .int
  | 28 => .array .int
  | 29 => .array .int
  | 30 => .int
  | 31 => .int
  | 32 => .int
  | 33 => .array .int
  | 34 => .array .int
  | 35 => .long
  | _ => .array .int
abbrev wsX120 : List Cond := u_ws RX12 TX12 37
theorem nmX12 : ∀ a, a < 37 → ∀ b, b < 37 → a ≠ b → (TX12 a).2.1 ≠ (TX12 b).2.1 := by decide +kernel
theorem tyX12_ok : ∀ k, k < 37 → parseFieldDescriptor (TX12 k).2.2.1 = some (tyX12 k) := by decide +kernel
abbrev cX12_in : ByteArray := prog_14_method_2_code
def yX12_in : MethodName := ⟨RX12, "in", "(JJJ)Z"⟩
abbrev cX12_init : ByteArray := prog_14_method_3_code
def yX12_init : MethodName := ⟨RX12, "<init>", "()V"⟩
abbrev cX12_type : ByteArray := prog_14_method_4_code
def yX12_type : MethodName := ⟨RX12, "type", "(I)I"⟩
abbrev cX12_clear : ByteArray := prog_14_method_5_code
def yX12_clear : MethodName := ⟨RX12, "clear", "()I"⟩
abbrev cX12_isLetter : ByteArray := prog_14_method_6_code
def yX12_isLetter : MethodName := ⟨RX12, "isLetter", "(I)Z"⟩
abbrev cX12_isFigure : ByteArray := prog_14_method_7_code
def yX12_isFigure : MethodName := ⟨RX12, "isFigure", "(I)Z"⟩
abbrev cX12_readLetters : ByteArray := prog_14_method_8_code
def yX12_readLetters : MethodName := ⟨RX12, "readLetters", "()V"⟩
abbrev cX12_readNumber : ByteArray := prog_14_method_9_code
def yX12_readNumber : MethodName := ⟨RX12, "readNumber", "()V"⟩
abbrev cX12_reads : ByteArray := prog_14_method_10_code
def yX12_reads : MethodName := ⟨RX12, "reads", "()V"⟩
abbrev cX12_number : ByteArray := prog_14_method_11_code
def yX12_number : MethodName := ⟨RX12, "number", "(II)Z"⟩
abbrev cX12_readTale : ByteArray := prog_14_method_12_code
def yX12_readTale : MethodName := ⟨RX12, "readTale", "()Z"⟩
abbrev cX12_readNights : ByteArray := prog_14_method_13_code
def yX12_readNights : MethodName := ⟨RX12, "readNights", "()Z"⟩
abbrev cX12_readItem : ByteArray := prog_14_method_14_code
def yX12_readItem : MethodName := ⟨RX12, "readItem", "()Z"⟩
abbrev cX12_tales : ByteArray := prog_14_method_15_code
def yX12_tales : MethodName := ⟨RX12, "tales", "()I"⟩
abbrev cX12_takes : ByteArray := prog_14_method_16_code
def yX12_takes : MethodName := ⟨RX12, "takes", "()V"⟩
abbrev cX12_plain : ByteArray := prog_14_method_17_code
def yX12_plain : MethodName := ⟨RX12, "plain", "()V"⟩
abbrev cX12_isTale : ByteArray := prog_14_method_18_code
def yX12_isTale : MethodName := ⟨RX12, "isTale", "(I)Z"⟩
abbrev cX12_hoursOf : ByteArray := prog_14_method_19_code
def yX12_hoursOf : MethodName := ⟨RX12, "hoursOf", "(I)I"⟩
abbrev cX12_beginsAnew : ByteArray := prog_14_method_20_code
def yX12_beginsAnew : MethodName := ⟨RX12, "beginsAnew", "()V"⟩
abbrev cX12_inner : ByteArray := prog_14_method_21_code
def yX12_inner : MethodName := ⟨RX12, "inner", "([I)I"⟩
abbrev cX12_mayBegin : ByteArray := prog_14_method_22_code
def yX12_mayBegin : MethodName := ⟨RX12, "mayBegin", "([II)Z"⟩
abbrev cX12_goesOn : ByteArray := prog_14_method_23_code
def yX12_goesOn : MethodName := ⟨RX12, "goesOn", "([I)V"⟩
abbrev cX12_goesIn : ByteArray := prog_14_method_24_code
def yX12_goesIn : MethodName := ⟨RX12, "goesIn", "([II)V"⟩
abbrev cX12_dawns : ByteArray := prog_14_method_25_code
def yX12_dawns : MethodName := ⟨RX12, "dawns", "([I)Z"⟩
abbrev cX12_tale : ByteArray := prog_14_method_26_code
def yX12_tale : MethodName := ⟨RX12, "tale", "(II)I"⟩
abbrev cX12_hours : ByteArray := prog_14_method_27_code
def yX12_hours : MethodName := ⟨RX12, "hours", "(I)I"⟩
abbrev cX12_notes : ByteArray := prog_14_method_28_code
def yX12_notes : MethodName := ⟨RX12, "notes", "()V"⟩
abbrev cX12_has : ByteArray := prog_14_method_29_code
def yX12_has : MethodName := ⟨RX12, "has", "()Z"⟩
abbrev cX12_begins : ByteArray := prog_14_method_30_code
def yX12_begins : MethodName := ⟨RX12, "begins", "(I)I"⟩
abbrev cX12_tells : ByteArray := prog_14_method_31_code
def yX12_tells : MethodName := ⟨RX12, "tells", "()I"⟩
abbrev cX12_silent : ByteArray := prog_14_method_32_code
def yX12_silent : MethodName := ⟨RX12, "silent", "()I"⟩
abbrev cX12_dawn : ByteArray := prog_14_method_33_code
def yX12_dawn : MethodName := ⟨RX12, "dawn", "()I"⟩
abbrev cX12_undo : ByteArray := prog_14_method_34_code
def yX12_undo : MethodName := ⟨RX12, "undo", "()I"⟩
abbrev cX12_now : ByteArray := prog_14_method_35_code
def yX12_now : MethodName := ⟨RX12, "now", "(I)I"⟩
abbrev cX12_on : ByteArray := prog_14_method_36_code
def yX12_on : MethodName := ⟨RX12, "on", "()I"⟩
abbrev cX12_saves : ByteArray := prog_14_method_37_code
def yX12_saves : MethodName := ⟨RX12, "saves", "()I"⟩
abbrev cX12_by : ByteArray := prog_14_method_38_code
def yX12_by : MethodName := ⟨RX12, "by", "(I)I"⟩
abbrev cX12_code : ByteArray := prog_14_method_39_code
def yX12_code : MethodName := ⟨RX12, "code", "()I"⟩
abbrev cX12_turns : ByteArray := prog_14_method_40_code
def yX12_turns : MethodName := ⟨RX12, "turns", "()Z"⟩
abbrev cX12_isMet : ByteArray := prog_14_method_41_code
def yX12_isMet : MethodName := ⟨RX12, "isMet", "(I)Z"⟩
abbrev cX12_fills : ByteArray := prog_14_method_42_code
def yX12_fills : MethodName := ⟨RX12, "fills", "(I)Z"⟩
abbrev cX12_starts : ByteArray := prog_14_method_43_code
def yX12_starts : MethodName := ⟨RX12, "starts", "(I)Z"⟩
abbrev cX12_finds : ByteArray := prog_14_method_44_code
def yX12_finds : MethodName := ⟨RX12, "finds", "()V"⟩
abbrev cX12_best : ByteArray := prog_14_method_45_code
def yX12_best : MethodName := ⟨RX12, "best", "(I)I"⟩
abbrev cX12_fewest : ByteArray := prog_14_method_46_code
def yX12_fewest : MethodName := ⟨RX12, "fewest", "(II)I"⟩
abbrev cX12_mind : ByteArray := prog_14_method_47_code
def yX12_mind : MethodName := ⟨RX12, "mind", "(II)I"⟩
abbrev cX12_bars : ByteArray := prog_14_method_48_code
def yX12_bars : MethodName := ⟨RX12, "bars", "(I)I"⟩
abbrev cX12_longer : ByteArray := prog_14_method_49_code
def yX12_longer : MethodName := ⟨RX12, "longer", "()I"⟩
abbrev cX12_heard : ByteArray := prog_14_method_50_code
def yX12_heard : MethodName := ⟨RX12, "heard", "(II)I"⟩
abbrev cX12_forget : ByteArray := prog_14_method_51_code
def yX12_forget : MethodName := ⟨RX12, "forget", "()I"⟩
abbrev cX12_isHeard : ByteArray := prog_14_method_52_code
def yX12_isHeard : MethodName := ⟨RX12, "isHeard", "(I)Z"⟩
abbrev cX12_orders : ByteArray := prog_14_method_53_code
def yX12_orders : MethodName := ⟨RX12, "orders", "(I)I"⟩
abbrev cX12_surely : ByteArray := prog_14_method_54_code
def yX12_surely : MethodName := ⟨RX12, "surely", "(I)I"⟩
abbrev cX12_odds : ByteArray := prog_14_method_55_code
def yX12_odds : MethodName := ⟨RX12, "odds", "(III)J"⟩
abbrev cX12_mark : ByteArray := prog_14_method_56_code
def yX12_mark : MethodName := ⟨RX12, "mark", "(II)I"⟩
abbrev cX12_trace : ByteArray := prog_14_method_57_code
def yX12_trace : MethodName := ⟨RX12, "trace", "()J"⟩
abbrev cX12_keep : ByteArray := prog_14_method_58_code
def yX12_keep : MethodName := ⟨RX12, "keep", "(I)I"⟩
abbrev cX12_back : ByteArray := prog_14_method_59_code
def yX12_back : MethodName := ⟨RX12, "back", "(I)I"⟩
abbrev cX12_count : ByteArray := prog_14_method_60_code
def yX12_count : MethodName := ⟨RX12, "count", "(I)I"⟩
def RJ6 : String := "java/lang/Integer"
def TJ6 : u_T := fun k => match k with
  | _ => ("", "", "", false)
def tyJ6 : Nat → FieldType := fun k => match k with
  | _ => .int
abbrev wsJ60 : List Cond := u_ws RJ6 TJ6 0
theorem nmJ6 : ∀ a, a < 0 → ∀ b, b < 0 → a ≠ b → (TJ6 a).2.1 ≠ (TJ6 b).2.1 := by decide +kernel
theorem tyJ6_ok : ∀ k, k < 0 → parseFieldDescriptor (TJ6 k).2.2.1 = some (tyJ6 k) := by decide +kernel
abbrev cJ6_bitCount_0f7a4 : ByteArray := prog_15_method_49_code
def yJ6_bitCount_0f7a4 : MethodName := ⟨RJ6, "bitCount", "(I)I"⟩
def RJ9 : String := "java/lang/Math"
def TJ9 : u_T := fun k => match k with
  | _ => ("", "", "", false)
def tyJ9 : Nat → FieldType := fun k => match k with
  | _ => .int
abbrev wsJ90 : List Cond := u_ws RJ9 TJ9 0
theorem nmJ9 : ∀ a, a < 0 → ∀ b, b < 0 → a ≠ b → (TJ9 a).2.1 ≠ (TJ9 b).2.1 := by decide +kernel
theorem tyJ9_ok : ∀ k, k < 0 → parseFieldDescriptor (TJ9 k).2.2.1 = some (tyJ9 k) := by decide +kernel
abbrev cJ9_max_7cf53 : ByteArray := prog_16_method_65_code
def yJ9_max_7cf53 : MethodName := ⟨RJ9, "max", "(II)I"⟩
abbrev cJ9_min_7cf53 : ByteArray := prog_16_method_69_code
def yJ9_min_7cf53 : MethodName := ⟨RJ9, "min", "(II)I"⟩
def RJ10 : String := "java/lang/System"
def TJ10 : u_T := fun k => match k with
  | _ => ("", "", "", false)
def tyJ10 : Nat → FieldType := fun k => match k with
  | _ => .int
abbrev wsJ100 : List Cond := u_ws RJ10 TJ10 0
theorem nmJ10 : ∀ a, a < 0 → ∀ b, b < 0 → a ≠ b → (TJ10 a).2.1 ≠ (TJ10 b).2.1 := by decide +kernel
theorem tyJ10_ok : ∀ k, k < 0 → parseFieldDescriptor (TJ10 k).2.2.1 = some (tyJ10 k) := by decide +kernel
def RJ7 : String := "java/util/Arrays"
def TJ7 : u_T := fun k => match k with
  | _ => ("", "", "", false)
def tyJ7 : Nat → FieldType := fun k => match k with
  | _ => .int
abbrev wsJ70 : List Cond := u_ws RJ7 TJ7 0
theorem nmJ7 : ∀ a, a < 0 → ∀ b, b < 0 → a ≠ b → (TJ7 a).2.1 ≠ (TJ7 b).2.1 := by decide +kernel
theorem tyJ7_ok : ∀ k, k < 0 → parseFieldDescriptor (TJ7 k).2.2.1 = some (tyJ7 k) := by decide +kernel
abbrev cJ7_fill_d0a16 : ByteArray := prog_18_method_101_code
def yJ7_fill_d0a16 : MethodName := ⟨RJ7, "fill", "([JJ)V"⟩
def RL : String := "DawnTalesLaw"
abbrev cL_law : ByteArray := code
def yL_law : MethodName := ⟨RL, "law", "([I)Z"⟩
end
section
def am_T : List Cond := lw_tbl.filter goodWord
theorem am_mem {w : Cond} (h : w ∈ lw_tbl) (hg : goodWord w = true) : w ∈ am_T := List.mem_filter.mpr ⟨h, hg⟩
theorem am_in {w : Cond} (h : w ∈ am_T) : w ∈ lw_tbl ∧ goodWord w = true := List.mem_filter.mp h
theorem am_tb {w : Cond} (h : w ∈ tables_1) : w ∈ lw_tbl := List.mem_append_right _ h
theorem am_c1 {w : Cond} (h : w ∈ tables_1_1) : w ∈ lw_tbl := am_tb (List.mem_append_left _ h)
theorem am_c2 {w : Cond} (h : w ∈ tables_1_2) : w ∈ lw_tbl := am_tb (List.mem_append_right _ (List.mem_append_left _ h))
theorem am_c3 {w : Cond} (h : w ∈ tables_1_3) : w ∈ lw_tbl := am_tb (List.mem_append_right _ (List.mem_append_right _ (List.mem_append_left _ h)))
theorem am_c4 {w : Cond} (h : w ∈ tables_1_4) : w ∈ lw_tbl := am_tb (List.mem_append_right _ (List.mem_append_right _ (List.mem_append_right _ (List.mem_append_left _ h))))
theorem am_c5 {w : Cond} (h : w ∈ tables_1_5) : w ∈ lw_tbl := am_tb (List.mem_append_right _ (List.mem_append_right _ (List.mem_append_right _ (List.mem_append_right _ h))))
theorem am_pv {q : MethodName × Nat} (h : q ∈ lw_privs) : Cond.selects q.1.cls q.1 q.1 ∈ lw_tbl := List.mem_append_left _ (List.mem_map.mpr ⟨q, h, rfl⟩)
theorem tw_0 : ((Jvm.Cond.initialized "DawnTalesLaw") : Jvm.Cond) ∈ am_T := am_mem (am_c1 (List.mem_of_getElem? (i := 0) rfl)) rfl
theorem tw_1 : ((Jvm.Cond.initialized "DawnTales") : Jvm.Cond) ∈ am_T := am_mem (am_c1 (List.mem_of_getElem? (i := 1) rfl)) rfl
theorem tw_2 : ((Jvm.Cond.initialized "DawnTales$Text") : Jvm.Cond) ∈ am_T := am_mem (am_c1 (List.mem_of_getElem? (i := 2) rfl)) rfl
theorem tw_3 : ((Jvm.Cond.initialized "DawnTales$Book") : Jvm.Cond) ∈ am_T := am_mem (am_c1 (List.mem_of_getElem? (i := 3) rfl)) rfl
theorem tw_4 : ((Jvm.Cond.initialized "DawnTales$Stand") : Jvm.Cond) ∈ am_T := am_mem (am_c1 (List.mem_of_getElem? (i := 4) rfl)) rfl
theorem tw_5 : ((Jvm.Cond.initialized "DawnTales$Telling") : Jvm.Cond) ∈ am_T := am_mem (am_c1 (List.mem_of_getElem? (i := 5) rfl)) rfl
theorem tw_6 : ((Jvm.Cond.initialized "DawnTales$Rows") : Jvm.Cond) ∈ am_T := am_mem (am_c1 (List.mem_of_getElem? (i := 6) rfl)) rfl
theorem tw_7 : ((Jvm.Cond.initialized "DawnTales$TaleKind") : Jvm.Cond) ∈ am_T := am_mem (am_c1 (List.mem_of_getElem? (i := 7) rfl)) rfl
theorem tw_8 : ((Jvm.Cond.initialized "DawnTales$BorrowedKind") : Jvm.Cond) ∈ am_T := am_mem (am_c1 (List.mem_of_getElem? (i := 8) rfl)) rfl
theorem tw_9 : ((Jvm.Cond.initialized "DawnTales$RingKind") : Jvm.Cond) ∈ am_T := am_mem (am_c1 (List.mem_of_getElem? (i := 9) rfl)) rfl
theorem tw_10 : ((Jvm.Cond.initialized "DawnTales$TrueKind") : Jvm.Cond) ∈ am_T := am_mem (am_c1 (List.mem_of_getElem? (i := 10) rfl)) rfl
theorem tw_11 : ((Jvm.Cond.initialized "DawnTales$EndlessKind") : Jvm.Cond) ∈ am_T := am_mem (am_c1 (List.mem_of_getElem? (i := 11) rfl)) rfl
theorem tw_12 : ((Jvm.Cond.initialized "DawnTales$JokeKind") : Jvm.Cond) ∈ am_T := am_mem (am_c1 (List.mem_of_getElem? (i := 12) rfl)) rfl
theorem tw_13 : ((Jvm.Cond.initialized "DawnTalesModel") : Jvm.Cond) ∈ am_T := am_mem (am_c1 (List.mem_of_getElem? (i := 13) rfl)) rfl
theorem tw_14 : ((Jvm.Cond.initialized "java/lang/Math") : Jvm.Cond) ∈ am_T := am_mem (am_c1 (List.mem_of_getElem? (i := 14) rfl)) rfl
theorem tw_15 : ((Jvm.Cond.initialized "java/lang/System") : Jvm.Cond) ∈ am_T := am_mem (am_c1 (List.mem_of_getElem? (i := 15) rfl)) rfl
theorem tw_16 : ((Jvm.Cond.initialized "java/util/Arrays") : Jvm.Cond) ∈ am_T := am_mem (am_c1 (List.mem_of_getElem? (i := 16) rfl)) rfl
theorem tw_17 : ((Jvm.Cond.initialized "java/lang/Integer") : Jvm.Cond) ∈ am_T := am_mem (am_c1 (List.mem_of_getElem? (i := 17) rfl)) rfl
theorem tw_18 : ((Jvm.Cond.classLink "DawnTalesLaw" (7 : Nat) "DawnTales") : Jvm.Cond) ∈ am_T := am_mem (am_c1 (List.mem_of_getElem? (i := 18) rfl)) rfl
theorem tw_19 : ((Jvm.Cond.instantiable "DawnTales" (11 : Nat)) : Jvm.Cond) ∈ am_T := am_mem (am_c1 (List.mem_of_getElem? (i := 19) rfl)) rfl
theorem tw_20 : ((Jvm.Cond.methodLink "DawnTalesLaw" (9 : Nat) ({ cls := "DawnTales", name := "<init>", desc := "()V" } : Jvm.MethodName)) : Jvm.Cond) ∈ am_T := am_mem (am_c1 (List.mem_of_getElem? (i := 20) rfl)) rfl
theorem tw_21 : ((Jvm.Cond.instanceMethod ({ cls := "DawnTales", name := "<init>", desc := "()V" } : Jvm.MethodName)) : Jvm.Cond) ∈ am_T := am_mem (am_c1 (List.mem_of_getElem? (i := 21) rfl)) rfl
theorem tw_22 : ((Jvm.Cond.code ({ cls := "DawnTales", name := "<init>", desc := "()V" } : Jvm.MethodName) prog_1_method_1_code (2 : Nat) (Option.none : Option Jvm.ClassFile.FieldType)) : Jvm.Cond) ∈ am_T := am_mem (am_c1 (List.mem_of_getElem? (i := 22) rfl)) rfl
theorem tw_23 : ((Jvm.Cond.methodLink "DawnTales" (1 : Nat) ({ cls := "java/lang/Object", name := "<init>", desc := "()V" } : Jvm.MethodName)) : Jvm.Cond) ∈ am_T := am_mem (am_c1 (List.mem_of_getElem? (i := 23) rfl)) rfl
theorem tw_24 : ((Jvm.Cond.instanceMethod ({ cls := "java/lang/Object", name := "<init>", desc := "()V" } : Jvm.MethodName)) : Jvm.Cond) ∈ am_T := am_mem (am_c1 (List.mem_of_getElem? (i := 24) rfl)) rfl
theorem tw_25 : ((Jvm.Cond.code ({ cls := "java/lang/Object", name := "<init>", desc := "()V" } : Jvm.MethodName) object_method_1_code (1 : Nat) (Option.none : Option Jvm.ClassFile.FieldType)) : Jvm.Cond) ∈ am_T := am_mem (am_c1 (List.mem_of_getElem? (i := 25) rfl)) rfl
theorem tw_26 : ((Jvm.Cond.classLink "DawnTales" (7 : Nat) "DawnTales$Text") : Jvm.Cond) ∈ am_T := am_mem (am_c1 (List.mem_of_getElem? (i := 26) rfl)) rfl
theorem tw_27 : ((Jvm.Cond.instantiable "DawnTales$Text" (6 : Nat)) : Jvm.Cond) ∈ am_T := am_mem (am_c1 (List.mem_of_getElem? (i := 27) rfl)) rfl
theorem tw_28 : ((Jvm.Cond.methodLinkNest "DawnTales" (9 : Nat) ({ cls := "DawnTales$Text", name := "<init>", desc := "()V" } : Jvm.MethodName) "DawnTales") : Jvm.Cond) ∈ lw_tbl := am_c1 (List.mem_of_getElem? (i := 28) rfl)
theorem tw_29 : ((Jvm.Cond.instanceMethod ({ cls := "DawnTales$Text", name := "<init>", desc := "()V" } : Jvm.MethodName)) : Jvm.Cond) ∈ am_T := am_mem (am_c1 (List.mem_of_getElem? (i := 29) rfl)) rfl
theorem tw_30 : ((Jvm.Cond.code ({ cls := "DawnTales$Text", name := "<init>", desc := "()V" } : Jvm.MethodName) prog_11_method_1_code (1 : Nat) (Option.none : Option Jvm.ClassFile.FieldType)) : Jvm.Cond) ∈ am_T := am_mem (am_c1 (List.mem_of_getElem? (i := 30) rfl)) rfl
theorem tw_31 : ((Jvm.Cond.methodLink "DawnTales$Text" (3 : Nat) ({ cls := "java/lang/Object", name := "<init>", desc := "()V" } : Jvm.MethodName)) : Jvm.Cond) ∈ am_T := am_mem (am_c1 (List.mem_of_getElem? (i := 31) rfl)) rfl
theorem tw_32 : ((Jvm.Cond.fieldLink "DawnTales$Text" (9 : Nat) "DawnTales$Text" "bytes" "[I") : Jvm.Cond) ∈ am_T := am_mem (am_c1 (List.mem_of_getElem? (i := 32) rfl)) rfl
theorem tw_33 : ((Jvm.Cond.fieldLink "DawnTales$Text" (15 : Nat) "DawnTales$Text" "length" "I") : Jvm.Cond) ∈ am_T := am_mem (am_c1 (List.mem_of_getElem? (i := 33) rfl)) rfl
theorem tw_34 : ((Jvm.Cond.fieldLink "DawnTales" (80 : Nat) "DawnTales$Text" "length" "I") : Jvm.Cond) ∈ am_T := am_mem (am_c1 (List.mem_of_getElem? (i := 34) rfl)) rfl
theorem tw_35 : ((Jvm.Cond.fieldLink "DawnTales" (92 : Nat) "DawnTales$Text" "at" "I") : Jvm.Cond) ∈ am_T := am_mem (am_c1 (List.mem_of_getElem? (i := 35) rfl)) rfl
theorem tw_36 : ((Jvm.Cond.fieldLink "DawnTales$Text" (83 : Nat) "DawnTales$Text" "at" "I") : Jvm.Cond) ∈ am_T := am_mem (am_c1 (List.mem_of_getElem? (i := 36) rfl)) rfl
theorem tw_37 : ((Jvm.Cond.fieldLink "DawnTales$Text" (24 : Nat) "DawnTales$Text" "after" "I") : Jvm.Cond) ∈ am_T := am_mem (am_c1 (List.mem_of_getElem? (i := 37) rfl)) rfl
theorem tw_38 : ((Jvm.Cond.fieldLink "DawnTales$Text" (30 : Nat) "DawnTales$Text" "token" "I") : Jvm.Cond) ∈ am_T := am_mem (am_c1 (List.mem_of_getElem? (i := 38) rfl)) rfl
theorem tw_39 : ((Jvm.Cond.fieldLink "DawnTales$Text" (40 : Nat) "DawnTales$Text" "value" "I") : Jvm.Cond) ∈ am_T := am_mem (am_c1 (List.mem_of_getElem? (i := 39) rfl)) rfl
theorem tw_40 : ((Jvm.Cond.laysFinal "DawnTales$Text" "DawnTales$Text" "bytes" "[I") : Jvm.Cond) ∈ am_T := am_mem (am_c1 (List.mem_of_getElem? (i := 40) rfl)) rfl
theorem tw_42 : ((Jvm.Cond.lays "DawnTales$Text" "DawnTales$Text" "length" "I") : Jvm.Cond) ∈ am_T := am_mem (am_c1 (List.mem_of_getElem? (i := 42) rfl)) rfl
theorem tw_44 : ((Jvm.Cond.lays "DawnTales$Text" "DawnTales$Text" "at" "I") : Jvm.Cond) ∈ am_T := am_mem (am_c1 (List.mem_of_getElem? (i := 44) rfl)) rfl
theorem tw_46 : ((Jvm.Cond.lays "DawnTales$Text" "DawnTales$Text" "after" "I") : Jvm.Cond) ∈ am_T := am_mem (am_c1 (List.mem_of_getElem? (i := 46) rfl)) rfl
theorem tw_48 : ((Jvm.Cond.lays "DawnTales$Text" "DawnTales$Text" "token" "I") : Jvm.Cond) ∈ am_T := am_mem (am_c1 (List.mem_of_getElem? (i := 48) rfl)) rfl
theorem tw_50 : ((Jvm.Cond.lays "DawnTales$Text" "DawnTales$Text" "value" "I") : Jvm.Cond) ∈ am_T := am_mem (am_c1 (List.mem_of_getElem? (i := 50) rfl)) rfl
theorem tw_52 : ((Jvm.Cond.superclass "DawnTales$Text" "java/lang/Object") : Jvm.Cond) ∈ am_T := am_mem (am_c1 (List.mem_of_getElem? (i := 52) rfl)) rfl
theorem tw_53 : ((Jvm.Cond.arrayClass Jvm.ClassFile.FieldType.int) : Jvm.Cond) ∈ am_T := am_mem (am_c1 (List.mem_of_getElem? (i := 53) rfl)) rfl
theorem tw_54 : ((Jvm.Cond.classLink "DawnTales" (16 : Nat) "DawnTales$Book") : Jvm.Cond) ∈ am_T := am_mem (am_c1 (List.mem_of_getElem? (i := 54) rfl)) rfl
theorem tw_55 : ((Jvm.Cond.instantiable "DawnTales$Book" (7 : Nat)) : Jvm.Cond) ∈ am_T := am_mem (am_c1 (List.mem_of_getElem? (i := 55) rfl)) rfl
theorem tw_56 : ((Jvm.Cond.methodLink "DawnTales" (18 : Nat) ({ cls := "DawnTales$Book", name := "<init>", desc := "()V" } : Jvm.MethodName)) : Jvm.Cond) ∈ am_T := am_mem (am_c1 (List.mem_of_getElem? (i := 56) rfl)) rfl
theorem tw_57 : ((Jvm.Cond.instanceMethod ({ cls := "DawnTales$Book", name := "<init>", desc := "()V" } : Jvm.MethodName)) : Jvm.Cond) ∈ am_T := am_mem (am_c1 (List.mem_of_getElem? (i := 57) rfl)) rfl
theorem tw_58 : ((Jvm.Cond.code ({ cls := "DawnTales$Book", name := "<init>", desc := "()V" } : Jvm.MethodName) prog_2_method_1_code (1 : Nat) (Option.none : Option Jvm.ClassFile.FieldType)) : Jvm.Cond) ∈ am_T := am_mem (am_c1 (List.mem_of_getElem? (i := 58) rfl)) rfl
theorem tw_59 : ((Jvm.Cond.methodLink "DawnTales$Book" (3 : Nat) ({ cls := "java/lang/Object", name := "<init>", desc := "()V" } : Jvm.MethodName)) : Jvm.Cond) ∈ am_T := am_mem (am_c1 (List.mem_of_getElem? (i := 59) rfl)) rfl
theorem tw_60 : ((Jvm.Cond.methodLink "DawnTales$Book" (21 : Nat) ({ cls := "DawnTales$Book", name := "wipe", desc := "()V" } : Jvm.MethodName)) : Jvm.Cond) ∈ am_T := am_mem (am_c1 (List.mem_of_getElem? (i := 60) rfl)) rfl
theorem tw_61 : ((Jvm.Cond.instanceMethod ({ cls := "DawnTales$Book", name := "wipe", desc := "()V" } : Jvm.MethodName)) : Jvm.Cond) ∈ am_T := am_mem (am_c1 (List.mem_of_getElem? (i := 61) rfl)) rfl
theorem tw_62 : ((Jvm.Cond.selects "DawnTales$Book" ({ cls := "DawnTales$Book", name := "wipe", desc := "()V" } : Jvm.MethodName) ({ cls := "DawnTales$Book", name := "wipe", desc := "()V" } : Jvm.MethodName)) : Jvm.Cond) ∈ am_T := am_mem (am_c1 (List.mem_of_getElem? (i := 62) rfl)) rfl
theorem tw_63 : ((Jvm.Cond.code ({ cls := "DawnTales$Book", name := "wipe", desc := "()V" } : Jvm.MethodName) prog_2_method_2_code (1 : Nat) (Option.none : Option Jvm.ClassFile.FieldType)) : Jvm.Cond) ∈ am_T := am_mem (am_c1 (List.mem_of_getElem? (i := 63) rfl)) rfl
theorem tw_64 : ((Jvm.Cond.methodLink "DawnTales$Book" (24 : Nat) ({ cls := "DawnTales$Book", name := "settle", desc := "()V" } : Jvm.MethodName)) : Jvm.Cond) ∈ am_T := am_mem (am_c1 (List.mem_of_getElem? (i := 64) rfl)) rfl
theorem tw_65 : ((Jvm.Cond.instanceMethod ({ cls := "DawnTales$Book", name := "settle", desc := "()V" } : Jvm.MethodName)) : Jvm.Cond) ∈ am_T := am_mem (am_c1 (List.mem_of_getElem? (i := 65) rfl)) rfl
theorem tw_66 : ((Jvm.Cond.selects "DawnTales$Book" ({ cls := "DawnTales$Book", name := "settle", desc := "()V" } : Jvm.MethodName) ({ cls := "DawnTales$Book", name := "settle", desc := "()V" } : Jvm.MethodName)) : Jvm.Cond) ∈ am_T := am_mem (am_c1 (List.mem_of_getElem? (i := 66) rfl)) rfl
theorem tw_67 : ((Jvm.Cond.code ({ cls := "DawnTales$Book", name := "settle", desc := "()V" } : Jvm.MethodName) prog_2_method_3_code (1 : Nat) (Option.none : Option Jvm.ClassFile.FieldType)) : Jvm.Cond) ∈ am_T := am_mem (am_c1 (List.mem_of_getElem? (i := 67) rfl)) rfl
theorem tw_68 : ((Jvm.Cond.methodLink "DawnTales$Book" (40 : Nat) ({ cls := "DawnTales$Book", name := "addNight", desc := "(I)V" } : Jvm.MethodName)) : Jvm.Cond) ∈ am_T := am_mem (am_c1 (List.mem_of_getElem? (i := 68) rfl)) rfl
theorem tw_69 : ((Jvm.Cond.instanceMethod ({ cls := "DawnTales$Book", name := "addNight", desc := "(I)V" } : Jvm.MethodName)) : Jvm.Cond) ∈ am_T := am_mem (am_c1 (List.mem_of_getElem? (i := 69) rfl)) rfl
theorem tw_70 : ((Jvm.Cond.selects "DawnTales$Book" ({ cls := "DawnTales$Book", name := "addNight", desc := "(I)V" } : Jvm.MethodName) ({ cls := "DawnTales$Book", name := "addNight", desc := "(I)V" } : Jvm.MethodName)) : Jvm.Cond) ∈ am_T := am_mem (am_c1 (List.mem_of_getElem? (i := 70) rfl)) rfl
theorem tw_71 : ((Jvm.Cond.code ({ cls := "DawnTales$Book", name := "addNight", desc := "(I)V" } : Jvm.MethodName) prog_2_method_7_code (2 : Nat) (Option.none : Option Jvm.ClassFile.FieldType)) : Jvm.Cond) ∈ am_T := am_mem (am_c1 (List.mem_of_getElem? (i := 71) rfl)) rfl
theorem tw_72 : ((Jvm.Cond.fieldLink "DawnTales$Book" (27 : Nat) "DawnTales$Book" "tales" "I") : Jvm.Cond) ∈ am_T := am_mem (am_c1 (List.mem_of_getElem? (i := 72) rfl)) rfl
theorem tw_73 : ((Jvm.Cond.fieldLink "DawnTales$Text" (55 : Nat) "DawnTales$Book" "tales" "I") : Jvm.Cond) ∈ am_T := am_mem (am_c1 (List.mem_of_getElem? (i := 73) rfl)) rfl
theorem tw_74 : ((Jvm.Cond.fieldLink "DawnTales$Rows" (122 : Nat) "DawnTales$Book" "tales" "I") : Jvm.Cond) ∈ am_T := am_mem (am_c1 (List.mem_of_getElem? (i := 74) rfl)) rfl
theorem tw_75 : ((Jvm.Cond.fieldLink "DawnTales$Telling" (66 : Nat) "DawnTales$Book" "tales" "I") : Jvm.Cond) ∈ am_T := am_mem (am_c1 (List.mem_of_getElem? (i := 75) rfl)) rfl
theorem tw_76 : ((Jvm.Cond.fieldLink "DawnTales" (194 : Nat) "DawnTales$Book" "tales" "I") : Jvm.Cond) ∈ am_T := am_mem (am_c1 (List.mem_of_getElem? (i := 76) rfl)) rfl
theorem tw_77 : ((Jvm.Cond.fieldLink "DawnTales$Book" (9 : Nat) "DawnTales$Book" "parts" "[I") : Jvm.Cond) ∈ am_T := am_mem (am_c1 (List.mem_of_getElem? (i := 77) rfl)) rfl
theorem tw_78 : ((Jvm.Cond.fieldLink "DawnTales$Book" (15 : Nat) "DawnTales$Book" "within" "[I") : Jvm.Cond) ∈ am_T := am_mem (am_c1 (List.mem_of_getElem? (i := 78) rfl)) rfl
theorem tw_79 : ((Jvm.Cond.fieldLink "DawnTales$Telling" (83 : Nat) "DawnTales$Book" "within" "[I") : Jvm.Cond) ∈ am_T := am_mem (am_c1 (List.mem_of_getElem? (i := 79) rfl)) rfl
theorem tw_80 : ((Jvm.Cond.fieldLink "DawnTales$Book" (31 : Nat) "DawnTales$Book" "nights" "I") : Jvm.Cond) ∈ am_T := am_mem (am_c1 (List.mem_of_getElem? (i := 80) rfl)) rfl
theorem tw_81 : ((Jvm.Cond.fieldLink "DawnTales$Text" (66 : Nat) "DawnTales$Book" "nights" "I") : Jvm.Cond) ∈ am_T := am_mem (am_c1 (List.mem_of_getElem? (i := 81) rfl)) rfl
theorem tw_82 : ((Jvm.Cond.fieldLink "DawnTales" (283 : Nat) "DawnTales$Book" "nights" "I") : Jvm.Cond) ∈ am_T := am_mem (am_c1 (List.mem_of_getElem? (i := 82) rfl)) rfl
theorem tw_83 : ((Jvm.Cond.fieldLink "DawnTales$Book" (18 : Nat) "DawnTales$Book" "nightHours" "[I") : Jvm.Cond) ∈ am_T := am_mem (am_c1 (List.mem_of_getElem? (i := 83) rfl)) rfl
theorem tw_84 : ((Jvm.Cond.fieldLink "DawnTales$Book" (34 : Nat) "DawnTales$Book" "memory" "I") : Jvm.Cond) ∈ am_T := am_mem (am_c1 (List.mem_of_getElem? (i := 84) rfl)) rfl
theorem tw_85 : ((Jvm.Cond.fieldLink "DawnTales$Text" (73 : Nat) "DawnTales$Book" "memory" "I") : Jvm.Cond) ∈ am_T := am_mem (am_c1 (List.mem_of_getElem? (i := 85) rfl)) rfl
theorem tw_86 : ((Jvm.Cond.fieldLink "DawnTales$Telling" (109 : Nat) "DawnTales$Book" "memory" "I") : Jvm.Cond) ∈ am_T := am_mem (am_c1 (List.mem_of_getElem? (i := 86) rfl)) rfl
theorem tw_87 : ((Jvm.Cond.fieldLink "DawnTales" (286 : Nat) "DawnTales$Book" "memory" "I") : Jvm.Cond) ∈ am_T := am_mem (am_c1 (List.mem_of_getElem? (i := 87) rfl)) rfl
theorem tw_88 : ((Jvm.Cond.fieldLink "DawnTales$Book" (37 : Nat) "DawnTales$Book" "depth" "I") : Jvm.Cond) ∈ am_T := am_mem (am_c1 (List.mem_of_getElem? (i := 88) rfl)) rfl
theorem tw_89 : ((Jvm.Cond.fieldLink "DawnTales$Text" (76 : Nat) "DawnTales$Book" "depth" "I") : Jvm.Cond) ∈ am_T := am_mem (am_c1 (List.mem_of_getElem? (i := 89) rfl)) rfl
theorem tw_90 : ((Jvm.Cond.fieldLink "DawnTales$Telling" (80 : Nat) "DawnTales$Book" "depth" "I") : Jvm.Cond) ∈ am_T := am_mem (am_c1 (List.mem_of_getElem? (i := 90) rfl)) rfl
theorem tw_91 : ((Jvm.Cond.fieldLink "DawnTales" (289 : Nat) "DawnTales$Book" "depth" "I") : Jvm.Cond) ∈ am_T := am_mem (am_c1 (List.mem_of_getElem? (i := 91) rfl)) rfl
theorem tw_92 : ((Jvm.Cond.lays "DawnTales$Book" "DawnTales$Book" "tales" "I") : Jvm.Cond) ∈ am_T := am_mem (am_c1 (List.mem_of_getElem? (i := 92) rfl)) rfl
theorem tw_94 : ((Jvm.Cond.laysFinal "DawnTales$Book" "DawnTales$Book" "parts" "[I") : Jvm.Cond) ∈ am_T := am_mem (am_c1 (List.mem_of_getElem? (i := 94) rfl)) rfl
theorem tw_96 : ((Jvm.Cond.laysFinal "DawnTales$Book" "DawnTales$Book" "within" "[I") : Jvm.Cond) ∈ am_T := am_mem (am_c1 (List.mem_of_getElem? (i := 96) rfl)) rfl
theorem tw_98 : ((Jvm.Cond.lays "DawnTales$Book" "DawnTales$Book" "nights" "I") : Jvm.Cond) ∈ am_T := am_mem (am_c1 (List.mem_of_getElem? (i := 98) rfl)) rfl
theorem tw_100 : ((Jvm.Cond.laysFinal "DawnTales$Book" "DawnTales$Book" "nightHours" "[I") : Jvm.Cond) ∈ am_T := am_mem (am_c1 (List.mem_of_getElem? (i := 100) rfl)) rfl
theorem tw_102 : ((Jvm.Cond.lays "DawnTales$Book" "DawnTales$Book" "memory" "I") : Jvm.Cond) ∈ am_T := am_mem (am_c1 (List.mem_of_getElem? (i := 102) rfl)) rfl
theorem tw_104 : ((Jvm.Cond.lays "DawnTales$Book" "DawnTales$Book" "depth" "I") : Jvm.Cond) ∈ am_T := am_mem (am_c1 (List.mem_of_getElem? (i := 104) rfl)) rfl
theorem tw_106 : ((Jvm.Cond.superclass "DawnTales$Book" "java/lang/Object") : Jvm.Cond) ∈ am_T := am_mem (am_c1 (List.mem_of_getElem? (i := 106) rfl)) rfl
theorem tw_107 : ((Jvm.Cond.classLink "DawnTales" (26 : Nat) "DawnTales$Stand") : Jvm.Cond) ∈ am_T := am_mem (am_c1 (List.mem_of_getElem? (i := 107) rfl)) rfl
theorem tw_108 : ((Jvm.Cond.instantiable "DawnTales$Stand" (3 : Nat)) : Jvm.Cond) ∈ am_T := am_mem (am_c1 (List.mem_of_getElem? (i := 108) rfl)) rfl
theorem tw_109 : ((Jvm.Cond.methodLink "DawnTales" (28 : Nat) ({ cls := "DawnTales$Stand", name := "<init>", desc := "()V" } : Jvm.MethodName)) : Jvm.Cond) ∈ am_T := am_mem (am_c1 (List.mem_of_getElem? (i := 109) rfl)) rfl
theorem tw_110 : ((Jvm.Cond.instanceMethod ({ cls := "DawnTales$Stand", name := "<init>", desc := "()V" } : Jvm.MethodName)) : Jvm.Cond) ∈ am_T := am_mem (am_c1 (List.mem_of_getElem? (i := 110) rfl)) rfl
theorem tw_111 : ((Jvm.Cond.code ({ cls := "DawnTales$Stand", name := "<init>", desc := "()V" } : Jvm.MethodName) prog_8_method_1_code (2 : Nat) (Option.none : Option Jvm.ClassFile.FieldType)) : Jvm.Cond) ∈ am_T := am_mem (am_c1 (List.mem_of_getElem? (i := 111) rfl)) rfl
theorem tw_112 : ((Jvm.Cond.methodLink "DawnTales$Stand" (3 : Nat) ({ cls := "java/lang/Object", name := "<init>", desc := "()V" } : Jvm.MethodName)) : Jvm.Cond) ∈ am_T := am_mem (am_c1 (List.mem_of_getElem? (i := 112) rfl)) rfl
theorem tw_113 : ((Jvm.Cond.classLink "DawnTales$Stand" (9 : Nat) "DawnTales$Telling") : Jvm.Cond) ∈ am_T := am_mem (am_c1 (List.mem_of_getElem? (i := 113) rfl)) rfl
theorem tw_114 : ((Jvm.Cond.instantiable "DawnTales$Telling" (10 : Nat)) : Jvm.Cond) ∈ am_T := am_mem (am_c1 (List.mem_of_getElem? (i := 114) rfl)) rfl
theorem tw_115 : ((Jvm.Cond.methodLinkNest "DawnTales$Stand" (11 : Nat) ({ cls := "DawnTales$Telling", name := "<init>", desc := "()V" } : Jvm.MethodName) "DawnTales") : Jvm.Cond) ∈ lw_tbl := am_c1 (List.mem_of_getElem? (i := 115) rfl)
theorem tw_116 : ((Jvm.Cond.instanceMethod ({ cls := "DawnTales$Telling", name := "<init>", desc := "()V" } : Jvm.MethodName)) : Jvm.Cond) ∈ am_T := am_mem (am_c1 (List.mem_of_getElem? (i := 116) rfl)) rfl
theorem tw_117 : ((Jvm.Cond.code ({ cls := "DawnTales$Telling", name := "<init>", desc := "()V" } : Jvm.MethodName) prog_10_method_1_code (1 : Nat) (Option.none : Option Jvm.ClassFile.FieldType)) : Jvm.Cond) ∈ am_T := am_mem (am_c1 (List.mem_of_getElem? (i := 117) rfl)) rfl
theorem tw_118 : ((Jvm.Cond.methodLink "DawnTales$Telling" (3 : Nat) ({ cls := "java/lang/Object", name := "<init>", desc := "()V" } : Jvm.MethodName)) : Jvm.Cond) ∈ am_T := am_mem (am_c1 (List.mem_of_getElem? (i := 118) rfl)) rfl
theorem tw_119 : ((Jvm.Cond.fieldLink "DawnTales$Telling" (21 : Nat) "DawnTales$Telling" "night" "I") : Jvm.Cond) ∈ am_T := am_mem (am_c1 (List.mem_of_getElem? (i := 119) rfl)) rfl
theorem tw_120 : ((Jvm.Cond.fieldLink "DawnTales$JokeKind" (19 : Nat) "DawnTales$Telling" "night" "I") : Jvm.Cond) ∈ am_T := am_mem (am_c1 (List.mem_of_getElem? (i := 120) rfl)) rfl
theorem tw_121 : ((Jvm.Cond.fieldLink "DawnTales" (174 : Nat) "DawnTales$Telling" "night" "I") : Jvm.Cond) ∈ am_T := am_mem (am_c1 (List.mem_of_getElem? (i := 121) rfl)) rfl
theorem tw_122 : ((Jvm.Cond.fieldLink "DawnTales$Telling" (31 : Nat) "DawnTales$Telling" "hoursLeft" "I") : Jvm.Cond) ∈ am_T := am_mem (am_c1 (List.mem_of_getElem? (i := 122) rfl)) rfl
theorem tw_123 : ((Jvm.Cond.fieldLink "DawnTales$Rows" (84 : Nat) "DawnTales$Telling" "hoursLeft" "I") : Jvm.Cond) ∈ am_T := am_mem (am_c1 (List.mem_of_getElem? (i := 123) rfl)) rfl
theorem tw_124 : ((Jvm.Cond.fieldLink "DawnTales" (141 : Nat) "DawnTales$Telling" "hoursLeft" "I") : Jvm.Cond) ∈ am_T := am_mem (am_c1 (List.mem_of_getElem? (i := 124) rfl)) rfl
theorem tw_125 : ((Jvm.Cond.fieldLink "DawnTales$Telling" (34 : Nat) "DawnTales$Telling" "saved" "I") : Jvm.Cond) ∈ am_T := am_mem (am_c1 (List.mem_of_getElem? (i := 125) rfl)) rfl
theorem tw_126 : ((Jvm.Cond.fieldLink "DawnTales" (181 : Nat) "DawnTales$Telling" "saved" "I") : Jvm.Cond) ∈ am_T := am_mem (am_c1 (List.mem_of_getElem? (i := 126) rfl)) rfl
theorem tw_127 : ((Jvm.Cond.fieldLink "DawnTales$Telling" (37 : Nat) "DawnTales$Telling" "lives" "Z") : Jvm.Cond) ∈ am_T := am_mem (am_c1 (List.mem_of_getElem? (i := 127) rfl)) rfl
theorem tw_128 : ((Jvm.Cond.fieldLink "DawnTales" (177 : Nat) "DawnTales$Telling" "lives" "Z") : Jvm.Cond) ∈ am_T := am_mem (am_c1 (List.mem_of_getElem? (i := 128) rfl)) rfl
theorem tw_129 : ((Jvm.Cond.fieldLink "DawnTales$Telling" (41 : Nat) "DawnTales$Telling" "begun" "I") : Jvm.Cond) ∈ am_T := am_mem (am_c1 (List.mem_of_getElem? (i := 129) rfl)) rfl
theorem tw_130 : ((Jvm.Cond.fieldLink "DawnTales$Telling" (44 : Nat) "DawnTales$Telling" "openBits" "I") : Jvm.Cond) ∈ am_T := am_mem (am_c1 (List.mem_of_getElem? (i := 130) rfl)) rfl
theorem tw_131 : ((Jvm.Cond.fieldLink "DawnTales$Rows" (73 : Nat) "DawnTales$Telling" "openBits" "I") : Jvm.Cond) ∈ am_T := am_mem (am_c1 (List.mem_of_getElem? (i := 131) rfl)) rfl
theorem tw_132 : ((Jvm.Cond.fieldLink "DawnTales$EndlessKind" (19 : Nat) "DawnTales$Telling" "deep" "I") : Jvm.Cond) ∈ am_T := am_mem (am_c1 (List.mem_of_getElem? (i := 132) rfl)) rfl
theorem tw_133 : ((Jvm.Cond.fieldLink "DawnTales$Telling" (47 : Nat) "DawnTales$Telling" "deep" "I") : Jvm.Cond) ∈ am_T := am_mem (am_c1 (List.mem_of_getElem? (i := 133) rfl)) rfl
theorem tw_134 : ((Jvm.Cond.fieldLink "DawnTales" (148 : Nat) "DawnTales$Telling" "deep" "I") : Jvm.Cond) ∈ am_T := am_mem (am_c1 (List.mem_of_getElem? (i := 134) rfl)) rfl
theorem tw_135 : ((Jvm.Cond.fieldLink "DawnTales$Telling" (9 : Nat) "DawnTales$Telling" "open" "[I") : Jvm.Cond) ∈ am_T := am_mem (am_c1 (List.mem_of_getElem? (i := 135) rfl)) rfl
theorem tw_136 : ((Jvm.Cond.fieldLink "DawnTales$Telling" (15 : Nat) "DawnTales$Telling" "left" "[I") : Jvm.Cond) ∈ am_T := am_mem (am_c1 (List.mem_of_getElem? (i := 136) rfl)) rfl
theorem tw_137 : ((Jvm.Cond.fieldLink "DawnTales$Telling" (18 : Nat) "DawnTales$Telling" "lastNight" "[I") : Jvm.Cond) ∈ am_T := am_mem (am_c1 (List.mem_of_getElem? (i := 137) rfl)) rfl
theorem tw_138 : ((Jvm.Cond.lays "DawnTales$Telling" "DawnTales$Telling" "night" "I") : Jvm.Cond) ∈ am_T := am_mem (am_c1 (List.mem_of_getElem? (i := 138) rfl)) rfl
theorem tw_140 : ((Jvm.Cond.lays "DawnTales$Telling" "DawnTales$Telling" "hoursLeft" "I") : Jvm.Cond) ∈ am_T := am_mem (am_c1 (List.mem_of_getElem? (i := 140) rfl)) rfl
theorem tw_142 : ((Jvm.Cond.lays "DawnTales$Telling" "DawnTales$Telling" "saved" "I") : Jvm.Cond) ∈ am_T := am_mem (am_c1 (List.mem_of_getElem? (i := 142) rfl)) rfl
theorem tw_144 : ((Jvm.Cond.lays "DawnTales$Telling" "DawnTales$Telling" "lives" "Z") : Jvm.Cond) ∈ am_T := am_mem (am_c1 (List.mem_of_getElem? (i := 144) rfl)) rfl
theorem tw_146 : ((Jvm.Cond.lays "DawnTales$Telling" "DawnTales$Telling" "begun" "I") : Jvm.Cond) ∈ am_T := am_mem (am_c1 (List.mem_of_getElem? (i := 146) rfl)) rfl
theorem tw_148 : ((Jvm.Cond.lays "DawnTales$Telling" "DawnTales$Telling" "openBits" "I") : Jvm.Cond) ∈ am_T := am_mem (am_c1 (List.mem_of_getElem? (i := 148) rfl)) rfl
theorem tw_150 : ((Jvm.Cond.lays "DawnTales$Telling" "DawnTales$Telling" "deep" "I") : Jvm.Cond) ∈ am_T := am_mem (am_c1 (List.mem_of_getElem? (i := 150) rfl)) rfl
theorem tw_152 : ((Jvm.Cond.laysFinal "DawnTales$Telling" "DawnTales$Telling" "open" "[I") : Jvm.Cond) ∈ am_T := am_mem (am_c1 (List.mem_of_getElem? (i := 152) rfl)) rfl
theorem tw_154 : ((Jvm.Cond.laysFinal "DawnTales$Telling" "DawnTales$Telling" "left" "[I") : Jvm.Cond) ∈ am_T := am_mem (am_c1 (List.mem_of_getElem? (i := 154) rfl)) rfl
theorem tw_156 : ((Jvm.Cond.laysFinal "DawnTales$Telling" "DawnTales$Telling" "lastNight" "[I") : Jvm.Cond) ∈ am_T := am_mem (am_c1 (List.mem_of_getElem? (i := 156) rfl)) rfl
theorem tw_158 : ((Jvm.Cond.superclass "DawnTales$Telling" "java/lang/Object") : Jvm.Cond) ∈ am_T := am_mem (am_c1 (List.mem_of_getElem? (i := 158) rfl)) rfl
theorem tw_159 : ((Jvm.Cond.arrayOver (Jvm.ClassFile.FieldType.object "DawnTales$Telling")) : Jvm.Cond) ∈ lw_tbl := am_c1 (List.mem_of_getElem? (i := 159) rfl)
theorem tw_160 : ((Jvm.Cond.fieldLink "DawnTales$Stand" (12 : Nat) "DawnTales$Stand" "now" "LDawnTales$Telling;") : Jvm.Cond) ∈ am_T := am_mem (am_c1 (List.mem_of_getElem? (i := 160) rfl)) rfl
theorem tw_161 : ((Jvm.Cond.fieldLink "DawnTales" (102 : Nat) "DawnTales$Stand" "now" "LDawnTales$Telling;") : Jvm.Cond) ∈ am_T := am_mem (am_c1 (List.mem_of_getElem? (i := 161) rfl)) rfl
theorem tw_162 : ((Jvm.Cond.fieldLink "DawnTales$Stand" (18 : Nat) "DawnTales$Stand" "past" "[LDawnTales$Telling;") : Jvm.Cond) ∈ am_T := am_mem (am_c1 (List.mem_of_getElem? (i := 162) rfl)) rfl
theorem tw_163 : ((Jvm.Cond.fieldLink "DawnTales$Stand" (26 : Nat) "DawnTales$Stand" "known" "I") : Jvm.Cond) ∈ am_T := am_mem (am_c1 (List.mem_of_getElem? (i := 163) rfl)) rfl
theorem tw_164 : ((Jvm.Cond.fieldLink "DawnTales" (171 : Nat) "DawnTales$Stand" "known" "I") : Jvm.Cond) ∈ am_T := am_mem (am_c1 (List.mem_of_getElem? (i := 164) rfl)) rfl
theorem tw_165 : ((Jvm.Cond.laysFinal "DawnTales$Stand" "DawnTales$Stand" "now" "LDawnTales$Telling;") : Jvm.Cond) ∈ am_T := am_mem (am_c1 (List.mem_of_getElem? (i := 165) rfl)) rfl
theorem tw_167 : ((Jvm.Cond.laysFinal "DawnTales$Stand" "DawnTales$Stand" "past" "[LDawnTales$Telling;") : Jvm.Cond) ∈ am_T := am_mem (am_c1 (List.mem_of_getElem? (i := 167) rfl)) rfl
theorem tw_169 : ((Jvm.Cond.lays "DawnTales$Stand" "DawnTales$Stand" "known" "I") : Jvm.Cond) ∈ am_T := am_mem (am_c1 (List.mem_of_getElem? (i := 169) rfl)) rfl
theorem tw_171 : ((Jvm.Cond.superclass "DawnTales$Stand" "java/lang/Object") : Jvm.Cond) ∈ am_T := am_mem (am_c1 (List.mem_of_getElem? (i := 171) rfl)) rfl
theorem tw_172 : ((Jvm.Cond.arrayOver (Jvm.ClassFile.FieldType.object "DawnTales$Stand")) : Jvm.Cond) ∈ lw_tbl := am_c1 (List.mem_of_getElem? (i := 172) rfl)
theorem tw_173 : ((Jvm.Cond.classLink "DawnTales" (37 : Nat) "DawnTales$Rows") : Jvm.Cond) ∈ am_T := am_mem (am_c1 (List.mem_of_getElem? (i := 173) rfl)) rfl
theorem tw_174 : ((Jvm.Cond.instantiable "DawnTales$Rows" (14 : Nat)) : Jvm.Cond) ∈ am_T := am_mem (am_c1 (List.mem_of_getElem? (i := 174) rfl)) rfl
theorem tw_175 : ((Jvm.Cond.methodLinkNest "DawnTales" (39 : Nat) ({ cls := "DawnTales$Rows", name := "<init>", desc := "()V" } : Jvm.MethodName) "DawnTales") : Jvm.Cond) ∈ lw_tbl := am_c1 (List.mem_of_getElem? (i := 175) rfl)
theorem tw_176 : ((Jvm.Cond.instanceMethod ({ cls := "DawnTales$Rows", name := "<init>", desc := "()V" } : Jvm.MethodName)) : Jvm.Cond) ∈ am_T := am_mem (am_c1 (List.mem_of_getElem? (i := 176) rfl)) rfl
theorem tw_177 : ((Jvm.Cond.code ({ cls := "DawnTales$Rows", name := "<init>", desc := "()V" } : Jvm.MethodName) prog_7_method_1_code (1 : Nat) (Option.none : Option Jvm.ClassFile.FieldType)) : Jvm.Cond) ∈ am_T := am_mem (am_c1 (List.mem_of_getElem? (i := 177) rfl)) rfl
theorem tw_178 : ((Jvm.Cond.methodLink "DawnTales$Rows" (3 : Nat) ({ cls := "java/lang/Object", name := "<init>", desc := "()V" } : Jvm.MethodName)) : Jvm.Cond) ∈ am_T := am_mem (am_c1 (List.mem_of_getElem? (i := 178) rfl)) rfl
theorem tw_179 : ((Jvm.Cond.classLink "DawnTales$Rows" (27 : Nat) "DawnTales$Telling") : Jvm.Cond) ∈ am_T := am_mem (am_c1 (List.mem_of_getElem? (i := 179) rfl)) rfl
theorem tw_180 : ((Jvm.Cond.methodLinkNest "DawnTales$Rows" (29 : Nat) ({ cls := "DawnTales$Telling", name := "<init>", desc := "()V" } : Jvm.MethodName) "DawnTales") : Jvm.Cond) ∈ lw_tbl := am_c1 (List.mem_of_getElem? (i := 180) rfl)
theorem tw_181 : ((Jvm.Cond.classLink "DawnTales$Rows" (40 : Nat) "DawnTales$Book") : Jvm.Cond) ∈ am_T := am_mem (am_c1 (List.mem_of_getElem? (i := 181) rfl)) rfl
theorem tw_182 : ((Jvm.Cond.methodLink "DawnTales$Rows" (42 : Nat) ({ cls := "DawnTales$Book", name := "<init>", desc := "()V" } : Jvm.MethodName)) : Jvm.Cond) ∈ am_T := am_mem (am_c1 (List.mem_of_getElem? (i := 182) rfl)) rfl
theorem tw_183 : ((Jvm.Cond.fieldLink "DawnTales$Rows" (11 : Nat) "DawnTales$Rows" "row" "[I") : Jvm.Cond) ∈ am_T := am_mem (am_c1 (List.mem_of_getElem? (i := 183) rfl)) rfl
theorem tw_184 : ((Jvm.Cond.fieldLink "DawnTales$Rows" (15 : Nat) "DawnTales$Rows" "saved" "[B") : Jvm.Cond) ∈ am_T := am_mem (am_c1 (List.mem_of_getElem? (i := 184) rfl)) rfl
theorem tw_185 : ((Jvm.Cond.fieldLink "DawnTales$Rows" (19 : Nat) "DawnTales$Rows" "opened" "[J") : Jvm.Cond) ∈ am_T := am_mem (am_c1 (List.mem_of_getElem? (i := 185) rfl)) rfl
theorem tw_186 : ((Jvm.Cond.fieldLink "DawnTales$Rows" (23 : Nat) "DawnTales$Rows" "isStuck" "[Z") : Jvm.Cond) ∈ am_T := am_mem (am_c1 (List.mem_of_getElem? (i := 186) rfl)) rfl
theorem tw_187 : ((Jvm.Cond.fieldLink "DawnTales$Rows" (128 : Nat) "DawnTales$Rows" "size" "I") : Jvm.Cond) ∈ am_T := am_mem (am_c1 (List.mem_of_getElem? (i := 187) rfl)) rfl
theorem tw_188 : ((Jvm.Cond.fieldLink "DawnTales" (250 : Nat) "DawnTales$Rows" "size" "I") : Jvm.Cond) ∈ am_T := am_mem (am_c1 (List.mem_of_getElem? (i := 188) rfl)) rfl
theorem tw_189 : ((Jvm.Cond.fieldLink "DawnTales$Rows" (149 : Nat) "DawnTales$Rows" "fullFrom" "I") : Jvm.Cond) ∈ am_T := am_mem (am_c1 (List.mem_of_getElem? (i := 189) rfl)) rfl
theorem tw_190 : ((Jvm.Cond.fieldLink "DawnTales" (247 : Nat) "DawnTales$Rows" "fullFrom" "I") : Jvm.Cond) ∈ am_T := am_mem (am_c1 (List.mem_of_getElem? (i := 190) rfl)) rfl
theorem tw_191 : ((Jvm.Cond.fieldLink "DawnTales$Rows" (112 : Nat) "DawnTales$Rows" "known" "Z") : Jvm.Cond) ∈ am_T := am_mem (am_c1 (List.mem_of_getElem? (i := 191) rfl)) rfl
theorem tw_192 : ((Jvm.Cond.fieldLink "DawnTales$Rows" (116 : Nat) "DawnTales$Rows" "longerBest" "I") : Jvm.Cond) ∈ am_T := am_mem (am_c1 (List.mem_of_getElem? (i := 192) rfl)) rfl
theorem tw_193 : ((Jvm.Cond.fieldLink "DawnTales$Rows" (30 : Nat) "DawnTales$Rows" "walker" "LDawnTales$Telling;") : Jvm.Cond) ∈ am_T := am_mem (am_c1 (List.mem_of_getElem? (i := 193) rfl)) rfl
theorem tw_194 : ((Jvm.Cond.fieldLink "DawnTales$Rows" (34 : Nat) "DawnTales$Rows" "walkedOpen" "[J") : Jvm.Cond) ∈ am_T := am_mem (am_c1 (List.mem_of_getElem? (i := 194) rfl)) rfl
theorem tw_195 : ((Jvm.Cond.fieldLink "DawnTales$Rows" (37 : Nat) "DawnTales$Rows" "order" "[I") : Jvm.Cond) ∈ am_T := am_mem (am_c1 (List.mem_of_getElem? (i := 195) rfl)) rfl
theorem tw_196 : ((Jvm.Cond.fieldLink "DawnTales$Rows" (47 : Nat) "DawnTales$Rows" "orderSize" "I") : Jvm.Cond) ∈ am_T := am_mem (am_c1 (List.mem_of_getElem? (i := 196) rfl)) rfl
theorem tw_197 : ((Jvm.Cond.fieldLink "DawnTales$Rows" (67 : Nat) "DawnTales$Rows" "next" "I") : Jvm.Cond) ∈ am_T := am_mem (am_c1 (List.mem_of_getElem? (i := 197) rfl)) rfl
theorem tw_198 : ((Jvm.Cond.fieldLink "DawnTales$Rows" (43 : Nat) "DawnTales$Rows" "longerBook" "LDawnTales$Book;") : Jvm.Cond) ∈ am_T := am_mem (am_c1 (List.mem_of_getElem? (i := 198) rfl)) rfl
theorem tw_199 : ((Jvm.Cond.laysFinal "DawnTales$Rows" "DawnTales$Rows" "row" "[I") : Jvm.Cond) ∈ am_T := am_mem (am_c1 (List.mem_of_getElem? (i := 199) rfl)) rfl
theorem tw_201 : ((Jvm.Cond.laysFinal "DawnTales$Rows" "DawnTales$Rows" "saved" "[B") : Jvm.Cond) ∈ am_T := am_mem (am_c1 (List.mem_of_getElem? (i := 201) rfl)) rfl
theorem tw_203 : ((Jvm.Cond.laysFinal "DawnTales$Rows" "DawnTales$Rows" "opened" "[J") : Jvm.Cond) ∈ am_T := am_mem (am_c1 (List.mem_of_getElem? (i := 203) rfl)) rfl
theorem tw_205 : ((Jvm.Cond.laysFinal "DawnTales$Rows" "DawnTales$Rows" "isStuck" "[Z") : Jvm.Cond) ∈ am_T := am_mem (am_c1 (List.mem_of_getElem? (i := 205) rfl)) rfl
theorem tw_207 : ((Jvm.Cond.lays "DawnTales$Rows" "DawnTales$Rows" "size" "I") : Jvm.Cond) ∈ am_T := am_mem (am_c1 (List.mem_of_getElem? (i := 207) rfl)) rfl
theorem tw_209 : ((Jvm.Cond.lays "DawnTales$Rows" "DawnTales$Rows" "fullFrom" "I") : Jvm.Cond) ∈ am_T := am_mem (am_c1 (List.mem_of_getElem? (i := 209) rfl)) rfl
theorem tw_211 : ((Jvm.Cond.lays "DawnTales$Rows" "DawnTales$Rows" "known" "Z") : Jvm.Cond) ∈ am_T := am_mem (am_c1 (List.mem_of_getElem? (i := 211) rfl)) rfl
theorem tw_213 : ((Jvm.Cond.lays "DawnTales$Rows" "DawnTales$Rows" "longerBest" "I") : Jvm.Cond) ∈ am_T := am_mem (am_c1 (List.mem_of_getElem? (i := 213) rfl)) rfl
theorem tw_215 : ((Jvm.Cond.laysFinal "DawnTales$Rows" "DawnTales$Rows" "walker" "LDawnTales$Telling;") : Jvm.Cond) ∈ am_T := am_mem (am_c1 (List.mem_of_getElem? (i := 215) rfl)) rfl
theorem tw_217 : ((Jvm.Cond.laysFinal "DawnTales$Rows" "DawnTales$Rows" "walkedOpen" "[J") : Jvm.Cond) ∈ am_T := am_mem (am_c1 (List.mem_of_getElem? (i := 217) rfl)) rfl
theorem tw_219 : ((Jvm.Cond.laysFinal "DawnTales$Rows" "DawnTales$Rows" "order" "[I") : Jvm.Cond) ∈ am_T := am_mem (am_c1 (List.mem_of_getElem? (i := 219) rfl)) rfl
theorem tw_221 : ((Jvm.Cond.lays "DawnTales$Rows" "DawnTales$Rows" "orderSize" "I") : Jvm.Cond) ∈ am_T := am_mem (am_c1 (List.mem_of_getElem? (i := 221) rfl)) rfl
theorem tw_223 : ((Jvm.Cond.lays "DawnTales$Rows" "DawnTales$Rows" "next" "I") : Jvm.Cond) ∈ am_T := am_mem (am_c1 (List.mem_of_getElem? (i := 223) rfl)) rfl
theorem tw_225 : ((Jvm.Cond.laysFinal "DawnTales$Rows" "DawnTales$Rows" "longerBook" "LDawnTales$Book;") : Jvm.Cond) ∈ am_T := am_mem (am_c1 (List.mem_of_getElem? (i := 225) rfl)) rfl
theorem tw_227 : ((Jvm.Cond.superclass "DawnTales$Rows" "java/lang/Object") : Jvm.Cond) ∈ am_T := am_mem (am_c1 (List.mem_of_getElem? (i := 227) rfl)) rfl
theorem tw_228 : ((Jvm.Cond.arrayClass Jvm.ClassFile.FieldType.byte) : Jvm.Cond) ∈ am_T := am_mem (am_c1 (List.mem_of_getElem? (i := 228) rfl)) rfl
theorem tw_229 : ((Jvm.Cond.arrayClass Jvm.ClassFile.FieldType.long) : Jvm.Cond) ∈ am_T := am_mem (am_c1 (List.mem_of_getElem? (i := 229) rfl)) rfl
theorem tw_230 : ((Jvm.Cond.arrayClass Jvm.ClassFile.FieldType.boolean) : Jvm.Cond) ∈ am_T := am_mem (am_c1 (List.mem_of_getElem? (i := 230) rfl)) rfl
theorem tw_231 : ((Jvm.Cond.classLink "DawnTales" (51 : Nat) "DawnTales$TaleKind") : Jvm.Cond) ∈ am_T := am_mem (am_c1 (List.mem_of_getElem? (i := 231) rfl)) rfl
theorem tw_232 : ((Jvm.Cond.arrayOver (Jvm.ClassFile.FieldType.object "DawnTales$TaleKind")) : Jvm.Cond) ∈ lw_tbl := am_c1 (List.mem_of_getElem? (i := 232) rfl)
theorem tw_233 : ((Jvm.Cond.instantiable "DawnTales$TaleKind" (1 : Nat)) : Jvm.Cond) ∈ am_T := am_mem (am_c1 (List.mem_of_getElem? (i := 233) rfl)) rfl
theorem tw_234 : ((Jvm.Cond.methodLinkNest "DawnTales" (53 : Nat) ({ cls := "DawnTales$TaleKind", name := "<init>", desc := "()V" } : Jvm.MethodName) "DawnTales") : Jvm.Cond) ∈ lw_tbl := am_c1 (List.mem_of_getElem? (i := 234) rfl)
theorem tw_235 : ((Jvm.Cond.instanceMethod ({ cls := "DawnTales$TaleKind", name := "<init>", desc := "()V" } : Jvm.MethodName)) : Jvm.Cond) ∈ am_T := am_mem (am_c1 (List.mem_of_getElem? (i := 235) rfl)) rfl
theorem tw_236 : ((Jvm.Cond.code ({ cls := "DawnTales$TaleKind", name := "<init>", desc := "()V" } : Jvm.MethodName) prog_9_method_1_code (1 : Nat) (Option.none : Option Jvm.ClassFile.FieldType)) : Jvm.Cond) ∈ am_T := am_mem (am_c1 (List.mem_of_getElem? (i := 236) rfl)) rfl
theorem tw_237 : ((Jvm.Cond.methodLink "DawnTales$TaleKind" (1 : Nat) ({ cls := "java/lang/Object", name := "<init>", desc := "()V" } : Jvm.MethodName)) : Jvm.Cond) ∈ am_T := am_mem (am_c1 (List.mem_of_getElem? (i := 237) rfl)) rfl
theorem tw_238 : ((Jvm.Cond.fieldLink "DawnTales$TaleKind" (7 : Nat) "DawnTales$TaleKind" "traced" "J") : Jvm.Cond) ∈ am_T := am_mem (am_c1 (List.mem_of_getElem? (i := 238) rfl)) rfl
theorem tw_239 : ((Jvm.Cond.fieldLink "DawnTales$BorrowedKind" (7 : Nat) "DawnTales$BorrowedKind" "traced" "J") : Jvm.Cond) ∈ am_T := am_mem (am_c1 (List.mem_of_getElem? (i := 239) rfl)) rfl
theorem tw_240 : ((Jvm.Cond.sameField "DawnTales$BorrowedKind" "DawnTales$TaleKind" "traced" "J") : Jvm.Cond) ∈ am_T := am_mem (am_c2 (List.mem_of_getElem? (i := 0) rfl)) rfl
theorem tw_241 : ((Jvm.Cond.fieldLink "DawnTales$EndlessKind" (7 : Nat) "DawnTales$EndlessKind" "traced" "J") : Jvm.Cond) ∈ am_T := am_mem (am_c2 (List.mem_of_getElem? (i := 1) rfl)) rfl
theorem tw_242 : ((Jvm.Cond.sameField "DawnTales$EndlessKind" "DawnTales$TaleKind" "traced" "J") : Jvm.Cond) ∈ am_T := am_mem (am_c2 (List.mem_of_getElem? (i := 2) rfl)) rfl
theorem tw_243 : ((Jvm.Cond.fieldLink "DawnTales$RingKind" (7 : Nat) "DawnTales$RingKind" "traced" "J") : Jvm.Cond) ∈ am_T := am_mem (am_c2 (List.mem_of_getElem? (i := 3) rfl)) rfl
theorem tw_244 : ((Jvm.Cond.sameField "DawnTales$RingKind" "DawnTales$TaleKind" "traced" "J") : Jvm.Cond) ∈ am_T := am_mem (am_c2 (List.mem_of_getElem? (i := 4) rfl)) rfl
theorem tw_245 : ((Jvm.Cond.fieldLink "DawnTales$JokeKind" (7 : Nat) "DawnTales$JokeKind" "traced" "J") : Jvm.Cond) ∈ am_T := am_mem (am_c2 (List.mem_of_getElem? (i := 5) rfl)) rfl
theorem tw_246 : ((Jvm.Cond.sameField "DawnTales$JokeKind" "DawnTales$TaleKind" "traced" "J") : Jvm.Cond) ∈ am_T := am_mem (am_c2 (List.mem_of_getElem? (i := 6) rfl)) rfl
theorem tw_247 : ((Jvm.Cond.fieldLink "DawnTales$TrueKind" (7 : Nat) "DawnTales$TrueKind" "traced" "J") : Jvm.Cond) ∈ am_T := am_mem (am_c2 (List.mem_of_getElem? (i := 7) rfl)) rfl
theorem tw_248 : ((Jvm.Cond.sameField "DawnTales$TrueKind" "DawnTales$TaleKind" "traced" "J") : Jvm.Cond) ∈ am_T := am_mem (am_c2 (List.mem_of_getElem? (i := 8) rfl)) rfl
theorem tw_249 : ((Jvm.Cond.fieldLink "DawnTales" (292 : Nat) "DawnTales$TaleKind" "traced" "J") : Jvm.Cond) ∈ am_T := am_mem (am_c2 (List.mem_of_getElem? (i := 9) rfl)) rfl
theorem tw_250 : ((Jvm.Cond.lays "DawnTales$TaleKind" "DawnTales$TaleKind" "traced" "J") : Jvm.Cond) ∈ am_T := am_mem (am_c2 (List.mem_of_getElem? (i := 10) rfl)) rfl
theorem tw_252 : ((Jvm.Cond.superclass "DawnTales$TaleKind" "java/lang/Object") : Jvm.Cond) ∈ am_T := am_mem (am_c2 (List.mem_of_getElem? (i := 12) rfl)) rfl
theorem tw_253 : ((Jvm.Cond.classLink "DawnTales" (54 : Nat) "DawnTales$BorrowedKind") : Jvm.Cond) ∈ am_T := am_mem (am_c2 (List.mem_of_getElem? (i := 13) rfl)) rfl
theorem tw_254 : ((Jvm.Cond.instantiable "DawnTales$BorrowedKind" (1 : Nat)) : Jvm.Cond) ∈ am_T := am_mem (am_c2 (List.mem_of_getElem? (i := 14) rfl)) rfl
theorem tw_255 : ((Jvm.Cond.methodLinkNest "DawnTales" (56 : Nat) ({ cls := "DawnTales$BorrowedKind", name := "<init>", desc := "()V" } : Jvm.MethodName) "DawnTales") : Jvm.Cond) ∈ lw_tbl := am_c2 (List.mem_of_getElem? (i := 15) rfl)
theorem tw_256 : ((Jvm.Cond.instanceMethod ({ cls := "DawnTales$BorrowedKind", name := "<init>", desc := "()V" } : Jvm.MethodName)) : Jvm.Cond) ∈ am_T := am_mem (am_c2 (List.mem_of_getElem? (i := 16) rfl)) rfl
theorem tw_257 : ((Jvm.Cond.code ({ cls := "DawnTales$BorrowedKind", name := "<init>", desc := "()V" } : Jvm.MethodName) prog_3_method_1_code (1 : Nat) (Option.none : Option Jvm.ClassFile.FieldType)) : Jvm.Cond) ∈ am_T := am_mem (am_c2 (List.mem_of_getElem? (i := 17) rfl)) rfl
theorem tw_258 : ((Jvm.Cond.methodLinkNest "DawnTales$BorrowedKind" (1 : Nat) ({ cls := "DawnTales$TaleKind", name := "<init>", desc := "()V" } : Jvm.MethodName) "DawnTales") : Jvm.Cond) ∈ lw_tbl := am_c2 (List.mem_of_getElem? (i := 18) rfl)
theorem tw_259 : ((Jvm.Cond.lays "DawnTales$BorrowedKind" "DawnTales$TaleKind" "traced" "J") : Jvm.Cond) ∈ am_T := am_mem (am_c2 (List.mem_of_getElem? (i := 19) rfl)) rfl
theorem tw_260 : ((Jvm.Cond.superclass "DawnTales$BorrowedKind" "DawnTales$TaleKind") : Jvm.Cond) ∈ am_T := am_mem (am_c2 (List.mem_of_getElem? (i := 20) rfl)) rfl
theorem tw_261 : ((Jvm.Cond.classLink "DawnTales" (57 : Nat) "DawnTales$RingKind") : Jvm.Cond) ∈ am_T := am_mem (am_c2 (List.mem_of_getElem? (i := 21) rfl)) rfl
theorem tw_262 : ((Jvm.Cond.instantiable "DawnTales$RingKind" (1 : Nat)) : Jvm.Cond) ∈ am_T := am_mem (am_c2 (List.mem_of_getElem? (i := 22) rfl)) rfl
theorem tw_263 : ((Jvm.Cond.methodLinkNest "DawnTales" (59 : Nat) ({ cls := "DawnTales$RingKind", name := "<init>", desc := "()V" } : Jvm.MethodName) "DawnTales") : Jvm.Cond) ∈ lw_tbl := am_c2 (List.mem_of_getElem? (i := 23) rfl)
theorem tw_264 : ((Jvm.Cond.instanceMethod ({ cls := "DawnTales$RingKind", name := "<init>", desc := "()V" } : Jvm.MethodName)) : Jvm.Cond) ∈ am_T := am_mem (am_c2 (List.mem_of_getElem? (i := 24) rfl)) rfl
theorem tw_265 : ((Jvm.Cond.code ({ cls := "DawnTales$RingKind", name := "<init>", desc := "()V" } : Jvm.MethodName) prog_6_method_1_code (1 : Nat) (Option.none : Option Jvm.ClassFile.FieldType)) : Jvm.Cond) ∈ am_T := am_mem (am_c2 (List.mem_of_getElem? (i := 25) rfl)) rfl
theorem tw_266 : ((Jvm.Cond.methodLinkNest "DawnTales$RingKind" (1 : Nat) ({ cls := "DawnTales$TaleKind", name := "<init>", desc := "()V" } : Jvm.MethodName) "DawnTales") : Jvm.Cond) ∈ lw_tbl := am_c2 (List.mem_of_getElem? (i := 26) rfl)
theorem tw_267 : ((Jvm.Cond.lays "DawnTales$RingKind" "DawnTales$TaleKind" "traced" "J") : Jvm.Cond) ∈ am_T := am_mem (am_c2 (List.mem_of_getElem? (i := 27) rfl)) rfl
theorem tw_268 : ((Jvm.Cond.superclass "DawnTales$RingKind" "DawnTales$TaleKind") : Jvm.Cond) ∈ am_T := am_mem (am_c2 (List.mem_of_getElem? (i := 28) rfl)) rfl
theorem tw_269 : ((Jvm.Cond.classLink "DawnTales" (60 : Nat) "DawnTales$TrueKind") : Jvm.Cond) ∈ am_T := am_mem (am_c2 (List.mem_of_getElem? (i := 29) rfl)) rfl
theorem tw_270 : ((Jvm.Cond.instantiable "DawnTales$TrueKind" (1 : Nat)) : Jvm.Cond) ∈ am_T := am_mem (am_c2 (List.mem_of_getElem? (i := 30) rfl)) rfl
theorem tw_271 : ((Jvm.Cond.methodLinkNest "DawnTales" (62 : Nat) ({ cls := "DawnTales$TrueKind", name := "<init>", desc := "()V" } : Jvm.MethodName) "DawnTales") : Jvm.Cond) ∈ lw_tbl := am_c2 (List.mem_of_getElem? (i := 31) rfl)
theorem tw_272 : ((Jvm.Cond.instanceMethod ({ cls := "DawnTales$TrueKind", name := "<init>", desc := "()V" } : Jvm.MethodName)) : Jvm.Cond) ∈ am_T := am_mem (am_c2 (List.mem_of_getElem? (i := 32) rfl)) rfl
theorem tw_273 : ((Jvm.Cond.code ({ cls := "DawnTales$TrueKind", name := "<init>", desc := "()V" } : Jvm.MethodName) prog_12_method_1_code (1 : Nat) (Option.none : Option Jvm.ClassFile.FieldType)) : Jvm.Cond) ∈ am_T := am_mem (am_c2 (List.mem_of_getElem? (i := 33) rfl)) rfl
theorem tw_274 : ((Jvm.Cond.methodLinkNest "DawnTales$TrueKind" (1 : Nat) ({ cls := "DawnTales$BorrowedKind", name := "<init>", desc := "()V" } : Jvm.MethodName) "DawnTales") : Jvm.Cond) ∈ lw_tbl := am_c2 (List.mem_of_getElem? (i := 34) rfl)
theorem tw_275 : ((Jvm.Cond.lays "DawnTales$TrueKind" "DawnTales$TaleKind" "traced" "J") : Jvm.Cond) ∈ am_T := am_mem (am_c2 (List.mem_of_getElem? (i := 35) rfl)) rfl
theorem tw_276 : ((Jvm.Cond.superclass "DawnTales$TrueKind" "DawnTales$BorrowedKind") : Jvm.Cond) ∈ am_T := am_mem (am_c2 (List.mem_of_getElem? (i := 36) rfl)) rfl
theorem tw_277 : ((Jvm.Cond.classLink "DawnTales" (63 : Nat) "DawnTales$EndlessKind") : Jvm.Cond) ∈ am_T := am_mem (am_c2 (List.mem_of_getElem? (i := 37) rfl)) rfl
theorem tw_278 : ((Jvm.Cond.instantiable "DawnTales$EndlessKind" (1 : Nat)) : Jvm.Cond) ∈ am_T := am_mem (am_c2 (List.mem_of_getElem? (i := 38) rfl)) rfl
theorem tw_279 : ((Jvm.Cond.methodLinkNest "DawnTales" (65 : Nat) ({ cls := "DawnTales$EndlessKind", name := "<init>", desc := "()V" } : Jvm.MethodName) "DawnTales") : Jvm.Cond) ∈ lw_tbl := am_c2 (List.mem_of_getElem? (i := 39) rfl)
theorem tw_280 : ((Jvm.Cond.instanceMethod ({ cls := "DawnTales$EndlessKind", name := "<init>", desc := "()V" } : Jvm.MethodName)) : Jvm.Cond) ∈ am_T := am_mem (am_c2 (List.mem_of_getElem? (i := 40) rfl)) rfl
theorem tw_281 : ((Jvm.Cond.code ({ cls := "DawnTales$EndlessKind", name := "<init>", desc := "()V" } : Jvm.MethodName) prog_4_method_1_code (1 : Nat) (Option.none : Option Jvm.ClassFile.FieldType)) : Jvm.Cond) ∈ am_T := am_mem (am_c2 (List.mem_of_getElem? (i := 41) rfl)) rfl
theorem tw_282 : ((Jvm.Cond.methodLinkNest "DawnTales$EndlessKind" (1 : Nat) ({ cls := "DawnTales$RingKind", name := "<init>", desc := "()V" } : Jvm.MethodName) "DawnTales") : Jvm.Cond) ∈ lw_tbl := am_c2 (List.mem_of_getElem? (i := 42) rfl)
theorem tw_283 : ((Jvm.Cond.lays "DawnTales$EndlessKind" "DawnTales$TaleKind" "traced" "J") : Jvm.Cond) ∈ am_T := am_mem (am_c2 (List.mem_of_getElem? (i := 43) rfl)) rfl
theorem tw_284 : ((Jvm.Cond.superclass "DawnTales$EndlessKind" "DawnTales$RingKind") : Jvm.Cond) ∈ am_T := am_mem (am_c2 (List.mem_of_getElem? (i := 44) rfl)) rfl
theorem tw_285 : ((Jvm.Cond.classLink "DawnTales" (66 : Nat) "DawnTales$JokeKind") : Jvm.Cond) ∈ am_T := am_mem (am_c2 (List.mem_of_getElem? (i := 45) rfl)) rfl
theorem tw_286 : ((Jvm.Cond.instantiable "DawnTales$JokeKind" (1 : Nat)) : Jvm.Cond) ∈ am_T := am_mem (am_c2 (List.mem_of_getElem? (i := 46) rfl)) rfl
theorem tw_287 : ((Jvm.Cond.methodLinkNest "DawnTales" (68 : Nat) ({ cls := "DawnTales$JokeKind", name := "<init>", desc := "()V" } : Jvm.MethodName) "DawnTales") : Jvm.Cond) ∈ lw_tbl := am_c2 (List.mem_of_getElem? (i := 47) rfl)
theorem tw_288 : ((Jvm.Cond.instanceMethod ({ cls := "DawnTales$JokeKind", name := "<init>", desc := "()V" } : Jvm.MethodName)) : Jvm.Cond) ∈ am_T := am_mem (am_c2 (List.mem_of_getElem? (i := 48) rfl)) rfl
theorem tw_289 : ((Jvm.Cond.code ({ cls := "DawnTales$JokeKind", name := "<init>", desc := "()V" } : Jvm.MethodName) prog_5_method_1_code (1 : Nat) (Option.none : Option Jvm.ClassFile.FieldType)) : Jvm.Cond) ∈ am_T := am_mem (am_c2 (List.mem_of_getElem? (i := 49) rfl)) rfl
theorem tw_290 : ((Jvm.Cond.methodLinkNest "DawnTales$JokeKind" (1 : Nat) ({ cls := "DawnTales$TaleKind", name := "<init>", desc := "()V" } : Jvm.MethodName) "DawnTales") : Jvm.Cond) ∈ lw_tbl := am_c2 (List.mem_of_getElem? (i := 50) rfl)
theorem tw_291 : ((Jvm.Cond.lays "DawnTales$JokeKind" "DawnTales$TaleKind" "traced" "J") : Jvm.Cond) ∈ am_T := am_mem (am_c2 (List.mem_of_getElem? (i := 51) rfl)) rfl
theorem tw_292 : ((Jvm.Cond.superclass "DawnTales$JokeKind" "DawnTales$TaleKind") : Jvm.Cond) ∈ am_T := am_mem (am_c2 (List.mem_of_getElem? (i := 52) rfl)) rfl
theorem tw_293 : ((Jvm.Cond.methodLink "DawnTales" (73 : Nat) ({ cls := "DawnTales", name := "startAnew", desc := "()V" } : Jvm.MethodName)) : Jvm.Cond) ∈ am_T := am_mem (am_c2 (List.mem_of_getElem? (i := 53) rfl)) rfl
theorem tw_295 : ((Jvm.Cond.instanceMethod ({ cls := "DawnTales", name := "startAnew", desc := "()V" } : Jvm.MethodName)) : Jvm.Cond) ∈ am_T := am_mem (am_c2 (List.mem_of_getElem? (i := 55) rfl)) rfl
theorem tw_296 : ((Jvm.Cond.code ({ cls := "DawnTales", name := "startAnew", desc := "()V" } : Jvm.MethodName) prog_1_method_30_code (1 : Nat) (Option.none : Option Jvm.ClassFile.FieldType)) : Jvm.Cond) ∈ am_T := am_mem (am_c2 (List.mem_of_getElem? (i := 56) rfl)) rfl
theorem tw_297 : ((Jvm.Cond.methodLink "DawnTales" (296 : Nat) ({ cls := "DawnTales$Stand", name := "start", desc := "(LDawnTales$Book;)V" } : Jvm.MethodName)) : Jvm.Cond) ∈ am_T := am_mem (am_c2 (List.mem_of_getElem? (i := 57) rfl)) rfl
theorem tw_298 : ((Jvm.Cond.instanceMethod ({ cls := "DawnTales$Stand", name := "start", desc := "(LDawnTales$Book;)V" } : Jvm.MethodName)) : Jvm.Cond) ∈ am_T := am_mem (am_c2 (List.mem_of_getElem? (i := 58) rfl)) rfl
theorem tw_299 : ((Jvm.Cond.selects "DawnTales$Stand" ({ cls := "DawnTales$Stand", name := "start", desc := "(LDawnTales$Book;)V" } : Jvm.MethodName) ({ cls := "DawnTales$Stand", name := "start", desc := "(LDawnTales$Book;)V" } : Jvm.MethodName)) : Jvm.Cond) ∈ am_T := am_mem (am_c2 (List.mem_of_getElem? (i := 59) rfl)) rfl
theorem tw_300 : ((Jvm.Cond.code ({ cls := "DawnTales$Stand", name := "start", desc := "(LDawnTales$Book;)V" } : Jvm.MethodName) prog_8_method_2_code (2 : Nat) (Option.none : Option Jvm.ClassFile.FieldType)) : Jvm.Cond) ∈ am_T := am_mem (am_c2 (List.mem_of_getElem? (i := 60) rfl)) rfl
theorem tw_301 : ((Jvm.Cond.methodLink "DawnTales$Stand" (22 : Nat) ({ cls := "DawnTales$Telling", name := "start", desc := "(LDawnTales$Book;)V" } : Jvm.MethodName)) : Jvm.Cond) ∈ am_T := am_mem (am_c2 (List.mem_of_getElem? (i := 61) rfl)) rfl
theorem tw_302 : ((Jvm.Cond.instanceMethod ({ cls := "DawnTales$Telling", name := "start", desc := "(LDawnTales$Book;)V" } : Jvm.MethodName)) : Jvm.Cond) ∈ am_T := am_mem (am_c2 (List.mem_of_getElem? (i := 62) rfl)) rfl
theorem tw_303 : ((Jvm.Cond.selects "DawnTales$Telling" ({ cls := "DawnTales$Telling", name := "start", desc := "(LDawnTales$Book;)V" } : Jvm.MethodName) ({ cls := "DawnTales$Telling", name := "start", desc := "(LDawnTales$Book;)V" } : Jvm.MethodName)) : Jvm.Cond) ∈ am_T := am_mem (am_c2 (List.mem_of_getElem? (i := 63) rfl)) rfl
theorem tw_304 : ((Jvm.Cond.code ({ cls := "DawnTales$Telling", name := "start", desc := "(LDawnTales$Book;)V" } : Jvm.MethodName) prog_10_method_2_code (3 : Nat) (Option.none : Option Jvm.ClassFile.FieldType)) : Jvm.Cond) ∈ am_T := am_mem (am_c2 (List.mem_of_getElem? (i := 64) rfl)) rfl
theorem tw_305 : ((Jvm.Cond.methodLink "DawnTales$Telling" (25 : Nat) ({ cls := "DawnTales$Book", name := "hoursOf", desc := "(I)I" } : Jvm.MethodName)) : Jvm.Cond) ∈ am_T := am_mem (am_c2 (List.mem_of_getElem? (i := 65) rfl)) rfl
theorem tw_306 : ((Jvm.Cond.instanceMethod ({ cls := "DawnTales$Book", name := "hoursOf", desc := "(I)I" } : Jvm.MethodName)) : Jvm.Cond) ∈ am_T := am_mem (am_c2 (List.mem_of_getElem? (i := 66) rfl)) rfl
theorem tw_307 : ((Jvm.Cond.selects "DawnTales$Book" ({ cls := "DawnTales$Book", name := "hoursOf", desc := "(I)I" } : Jvm.MethodName) ({ cls := "DawnTales$Book", name := "hoursOf", desc := "(I)I" } : Jvm.MethodName)) : Jvm.Cond) ∈ am_T := am_mem (am_c2 (List.mem_of_getElem? (i := 67) rfl)) rfl
theorem tw_308 : ((Jvm.Cond.code ({ cls := "DawnTales$Book", name := "hoursOf", desc := "(I)I" } : Jvm.MethodName) prog_2_method_12_code (2 : Nat) (Option.some Jvm.ClassFile.FieldType.int)) : Jvm.Cond) ∈ am_T := am_mem (am_c2 (List.mem_of_getElem? (i := 68) rfl)) rfl
theorem tw_309 : ((Jvm.Cond.methodLink "DawnTales$Telling" (50 : Nat) ({ cls := "DawnTales$Book", name := "partsOf", desc := "(I)I" } : Jvm.MethodName)) : Jvm.Cond) ∈ am_T := am_mem (am_c2 (List.mem_of_getElem? (i := 69) rfl)) rfl
theorem tw_310 : ((Jvm.Cond.instanceMethod ({ cls := "DawnTales$Book", name := "partsOf", desc := "(I)I" } : Jvm.MethodName)) : Jvm.Cond) ∈ am_T := am_mem (am_c2 (List.mem_of_getElem? (i := 70) rfl)) rfl
theorem tw_311 : ((Jvm.Cond.selects "DawnTales$Book" ({ cls := "DawnTales$Book", name := "partsOf", desc := "(I)I" } : Jvm.MethodName) ({ cls := "DawnTales$Book", name := "partsOf", desc := "(I)I" } : Jvm.MethodName)) : Jvm.Cond) ∈ am_T := am_mem (am_c2 (List.mem_of_getElem? (i := 71) rfl)) rfl
theorem tw_312 : ((Jvm.Cond.code ({ cls := "DawnTales$Book", name := "partsOf", desc := "(I)I" } : Jvm.MethodName) prog_2_method_9_code (2 : Nat) (Option.some Jvm.ClassFile.FieldType.int)) : Jvm.Cond) ∈ am_T := am_mem (am_c2 (List.mem_of_getElem? (i := 72) rfl)) rfl
theorem tw_313 : ((Jvm.Cond.methodLink "DawnTales$Book" (50 : Nat) ({ cls := "DawnTales$Book", name := "isTale", desc := "(I)Z" } : Jvm.MethodName)) : Jvm.Cond) ∈ am_T := am_mem (am_c2 (List.mem_of_getElem? (i := 73) rfl)) rfl
theorem tw_314 : ((Jvm.Cond.instanceMethod ({ cls := "DawnTales$Book", name := "isTale", desc := "(I)Z" } : Jvm.MethodName)) : Jvm.Cond) ∈ am_T := am_mem (am_c2 (List.mem_of_getElem? (i := 74) rfl)) rfl
theorem tw_315 : ((Jvm.Cond.selects "DawnTales$Book" ({ cls := "DawnTales$Book", name := "isTale", desc := "(I)Z" } : Jvm.MethodName) ({ cls := "DawnTales$Book", name := "isTale", desc := "(I)Z" } : Jvm.MethodName)) : Jvm.Cond) ∈ am_T := am_mem (am_c2 (List.mem_of_getElem? (i := 75) rfl)) rfl
theorem tw_316 : ((Jvm.Cond.code ({ cls := "DawnTales$Book", name := "isTale", desc := "(I)Z" } : Jvm.MethodName) prog_2_method_8_code (2 : Nat) (Option.some Jvm.ClassFile.FieldType.boolean)) : Jvm.Cond) ∈ am_T := am_mem (am_c2 (List.mem_of_getElem? (i := 76) rfl)) rfl
theorem tw_317 : ((Jvm.Cond.methodLink "DawnTales" (299 : Nat) ({ cls := "DawnTales$Rows", name := "drop", desc := "()V" } : Jvm.MethodName)) : Jvm.Cond) ∈ am_T := am_mem (am_c2 (List.mem_of_getElem? (i := 77) rfl)) rfl
theorem tw_318 : ((Jvm.Cond.instanceMethod ({ cls := "DawnTales$Rows", name := "drop", desc := "()V" } : Jvm.MethodName)) : Jvm.Cond) ∈ am_T := am_mem (am_c2 (List.mem_of_getElem? (i := 78) rfl)) rfl
theorem tw_319 : ((Jvm.Cond.selects "DawnTales$Rows" ({ cls := "DawnTales$Rows", name := "drop", desc := "()V" } : Jvm.MethodName) ({ cls := "DawnTales$Rows", name := "drop", desc := "()V" } : Jvm.MethodName)) : Jvm.Cond) ∈ am_T := am_mem (am_c2 (List.mem_of_getElem? (i := 79) rfl)) rfl
theorem tw_320 : ((Jvm.Cond.code ({ cls := "DawnTales$Rows", name := "drop", desc := "()V" } : Jvm.MethodName) prog_7_method_6_code (1 : Nat) (Option.none : Option Jvm.ClassFile.FieldType)) : Jvm.Cond) ∈ am_T := am_mem (am_c2 (List.mem_of_getElem? (i := 80) rfl)) rfl
theorem tw_321 : ((Jvm.Cond.fieldLink "DawnTales" (10 : Nat) "DawnTales" "text" "LDawnTales$Text;") : Jvm.Cond) ∈ am_T := am_mem (am_c2 (List.mem_of_getElem? (i := 81) rfl)) rfl
theorem tw_322 : ((Jvm.Cond.fieldLink "DawnTales" (19 : Nat) "DawnTales" "book" "LDawnTales$Book;") : Jvm.Cond) ∈ am_T := am_mem (am_c2 (List.mem_of_getElem? (i := 82) rfl)) rfl
theorem tw_323 : ((Jvm.Cond.fieldLink "DawnTales" (23 : Nat) "DawnTales" "draft" "LDawnTales$Book;") : Jvm.Cond) ∈ am_T := am_mem (am_c2 (List.mem_of_getElem? (i := 83) rfl)) rfl
theorem tw_324 : ((Jvm.Cond.fieldLink "DawnTales" (29 : Nat) "DawnTales" "stand" "LDawnTales$Stand;") : Jvm.Cond) ∈ am_T := am_mem (am_c2 (List.mem_of_getElem? (i := 84) rfl)) rfl
theorem tw_325 : ((Jvm.Cond.fieldLink "DawnTales" (33 : Nat) "DawnTales" "images" "[LDawnTales$Stand;") : Jvm.Cond) ∈ am_T := am_mem (am_c2 (List.mem_of_getElem? (i := 85) rfl)) rfl
theorem tw_326 : ((Jvm.Cond.fieldLink "DawnTales" (280 : Nat) "DawnTales" "kept" "I") : Jvm.Cond) ∈ am_T := am_mem (am_c2 (List.mem_of_getElem? (i := 86) rfl)) rfl
theorem tw_327 : ((Jvm.Cond.fieldLink "DawnTales" (40 : Nat) "DawnTales" "rows" "LDawnTales$Rows;") : Jvm.Cond) ∈ am_T := am_mem (am_c2 (List.mem_of_getElem? (i := 87) rfl)) rfl
theorem tw_328 : ((Jvm.Cond.fieldLink "DawnTales" (44 : Nat) "DawnTales" "heardDawn" "[I") : Jvm.Cond) ∈ am_T := am_mem (am_c2 (List.mem_of_getElem? (i := 88) rfl)) rfl
theorem tw_329 : ((Jvm.Cond.fieldLink "DawnTales" (48 : Nat) "DawnTales" "heardOpen" "[I") : Jvm.Cond) ∈ am_T := am_mem (am_c2 (List.mem_of_getElem? (i := 89) rfl)) rfl
theorem tw_330 : ((Jvm.Cond.fieldLink "DawnTales" (244 : Nat) "DawnTales" "heardCount" "I") : Jvm.Cond) ∈ am_T := am_mem (am_c2 (List.mem_of_getElem? (i := 90) rfl)) rfl
theorem tw_331 : ((Jvm.Cond.fieldLink "DawnTales" (69 : Nat) "DawnTales" "kinds" "[LDawnTales$TaleKind;") : Jvm.Cond) ∈ am_T := am_mem (am_c2 (List.mem_of_getElem? (i := 91) rfl)) rfl
theorem tw_332 : ((Jvm.Cond.laysFinal "DawnTales" "DawnTales" "text" "LDawnTales$Text;") : Jvm.Cond) ∈ am_T := am_mem (am_c2 (List.mem_of_getElem? (i := 92) rfl)) rfl
theorem tw_334 : ((Jvm.Cond.laysFinal "DawnTales" "DawnTales" "book" "LDawnTales$Book;") : Jvm.Cond) ∈ am_T := am_mem (am_c2 (List.mem_of_getElem? (i := 94) rfl)) rfl
theorem tw_336 : ((Jvm.Cond.laysFinal "DawnTales" "DawnTales" "draft" "LDawnTales$Book;") : Jvm.Cond) ∈ am_T := am_mem (am_c2 (List.mem_of_getElem? (i := 96) rfl)) rfl
theorem tw_338 : ((Jvm.Cond.laysFinal "DawnTales" "DawnTales" "stand" "LDawnTales$Stand;") : Jvm.Cond) ∈ am_T := am_mem (am_c2 (List.mem_of_getElem? (i := 98) rfl)) rfl
theorem tw_340 : ((Jvm.Cond.laysFinal "DawnTales" "DawnTales" "images" "[LDawnTales$Stand;") : Jvm.Cond) ∈ am_T := am_mem (am_c2 (List.mem_of_getElem? (i := 100) rfl)) rfl
theorem tw_342 : ((Jvm.Cond.lays "DawnTales" "DawnTales" "kept" "I") : Jvm.Cond) ∈ am_T := am_mem (am_c2 (List.mem_of_getElem? (i := 102) rfl)) rfl
theorem tw_344 : ((Jvm.Cond.laysFinal "DawnTales" "DawnTales" "rows" "LDawnTales$Rows;") : Jvm.Cond) ∈ am_T := am_mem (am_c2 (List.mem_of_getElem? (i := 104) rfl)) rfl
theorem tw_346 : ((Jvm.Cond.laysFinal "DawnTales" "DawnTales" "heardDawn" "[I") : Jvm.Cond) ∈ am_T := am_mem (am_c2 (List.mem_of_getElem? (i := 106) rfl)) rfl
theorem tw_348 : ((Jvm.Cond.laysFinal "DawnTales" "DawnTales" "heardOpen" "[I") : Jvm.Cond) ∈ am_T := am_mem (am_c2 (List.mem_of_getElem? (i := 108) rfl)) rfl
theorem tw_350 : ((Jvm.Cond.lays "DawnTales" "DawnTales" "heardCount" "I") : Jvm.Cond) ∈ am_T := am_mem (am_c2 (List.mem_of_getElem? (i := 110) rfl)) rfl
theorem tw_352 : ((Jvm.Cond.laysFinal "DawnTales" "DawnTales" "kinds" "[LDawnTales$TaleKind;") : Jvm.Cond) ∈ am_T := am_mem (am_c2 (List.mem_of_getElem? (i := 112) rfl)) rfl
theorem tw_354 : ((Jvm.Cond.superclass "DawnTales" "java/lang/Object") : Jvm.Cond) ∈ am_T := am_mem (am_c2 (List.mem_of_getElem? (i := 114) rfl)) rfl
theorem tw_355 : ((Jvm.Cond.methodLink "DawnTalesLaw" (13 : Nat) ({ cls := "DawnTales", name := "type", desc := "(I)I" } : Jvm.MethodName)) : Jvm.Cond) ∈ am_T := am_mem (am_c2 (List.mem_of_getElem? (i := 115) rfl)) rfl
theorem tw_356 : ((Jvm.Cond.instanceMethod ({ cls := "DawnTales", name := "type", desc := "(I)I" } : Jvm.MethodName)) : Jvm.Cond) ∈ am_T := am_mem (am_c2 (List.mem_of_getElem? (i := 116) rfl)) rfl
theorem tw_357 : ((Jvm.Cond.selects "DawnTales" ({ cls := "DawnTales", name := "type", desc := "(I)I" } : Jvm.MethodName) ({ cls := "DawnTales", name := "type", desc := "(I)I" } : Jvm.MethodName)) : Jvm.Cond) ∈ am_T := am_mem (am_c2 (List.mem_of_getElem? (i := 117) rfl)) rfl
theorem tw_358 : ((Jvm.Cond.code ({ cls := "DawnTales", name := "type", desc := "(I)I" } : Jvm.MethodName) prog_1_method_2_code (2 : Nat) (Option.some Jvm.ClassFile.FieldType.int)) : Jvm.Cond) ∈ am_T := am_mem (am_c2 (List.mem_of_getElem? (i := 118) rfl)) rfl
theorem tw_359 : ((Jvm.Cond.methodLink "DawnTales" (76 : Nat) ({ cls := "DawnTales$Text", name := "add", desc := "(I)Z" } : Jvm.MethodName)) : Jvm.Cond) ∈ am_T := am_mem (am_c2 (List.mem_of_getElem? (i := 119) rfl)) rfl
theorem tw_360 : ((Jvm.Cond.instanceMethod ({ cls := "DawnTales$Text", name := "add", desc := "(I)Z" } : Jvm.MethodName)) : Jvm.Cond) ∈ am_T := am_mem (am_c2 (List.mem_of_getElem? (i := 120) rfl)) rfl
theorem tw_361 : ((Jvm.Cond.selects "DawnTales$Text" ({ cls := "DawnTales$Text", name := "add", desc := "(I)Z" } : Jvm.MethodName) ({ cls := "DawnTales$Text", name := "add", desc := "(I)Z" } : Jvm.MethodName)) : Jvm.Cond) ∈ am_T := am_mem (am_c2 (List.mem_of_getElem? (i := 121) rfl)) rfl
theorem tw_362 : ((Jvm.Cond.code ({ cls := "DawnTales$Text", name := "add", desc := "(I)Z" } : Jvm.MethodName) prog_11_method_2_code (2 : Nat) (Option.some Jvm.ClassFile.FieldType.boolean)) : Jvm.Cond) ∈ am_T := am_mem (am_c2 (List.mem_of_getElem? (i := 122) rfl)) rfl
theorem tw_363 : ((Jvm.Cond.methodLink "DawnTalesLaw" (18 : Nat) ({ cls := "DawnTales", name := "clear", desc := "()I" } : Jvm.MethodName)) : Jvm.Cond) ∈ am_T := am_mem (am_c2 (List.mem_of_getElem? (i := 123) rfl)) rfl
theorem tw_364 : ((Jvm.Cond.instanceMethod ({ cls := "DawnTales", name := "clear", desc := "()I" } : Jvm.MethodName)) : Jvm.Cond) ∈ am_T := am_mem (am_c2 (List.mem_of_getElem? (i := 124) rfl)) rfl
theorem tw_365 : ((Jvm.Cond.selects "DawnTales" ({ cls := "DawnTales", name := "clear", desc := "()I" } : Jvm.MethodName) ({ cls := "DawnTales", name := "clear", desc := "()I" } : Jvm.MethodName)) : Jvm.Cond) ∈ am_T := am_mem (am_c2 (List.mem_of_getElem? (i := 125) rfl)) rfl
theorem tw_366 : ((Jvm.Cond.code ({ cls := "DawnTales", name := "clear", desc := "()I" } : Jvm.MethodName) prog_1_method_3_code (1 : Nat) (Option.some Jvm.ClassFile.FieldType.int)) : Jvm.Cond) ∈ am_T := am_mem (am_c2 (List.mem_of_getElem? (i := 126) rfl)) rfl
theorem tw_367 : ((Jvm.Cond.methodLink "DawnTales" (84 : Nat) ({ cls := "DawnTales$Text", name := "empty", desc := "()I" } : Jvm.MethodName)) : Jvm.Cond) ∈ am_T := am_mem (am_c2 (List.mem_of_getElem? (i := 127) rfl)) rfl
theorem tw_368 : ((Jvm.Cond.instanceMethod ({ cls := "DawnTales$Text", name := "empty", desc := "()I" } : Jvm.MethodName)) : Jvm.Cond) ∈ am_T := am_mem (am_c2 (List.mem_of_getElem? (i := 128) rfl)) rfl
theorem tw_369 : ((Jvm.Cond.selects "DawnTales$Text" ({ cls := "DawnTales$Text", name := "empty", desc := "()I" } : Jvm.MethodName) ({ cls := "DawnTales$Text", name := "empty", desc := "()I" } : Jvm.MethodName)) : Jvm.Cond) ∈ am_T := am_mem (am_c2 (List.mem_of_getElem? (i := 129) rfl)) rfl
theorem tw_370 : ((Jvm.Cond.code ({ cls := "DawnTales$Text", name := "empty", desc := "()I" } : Jvm.MethodName) prog_11_method_3_code (2 : Nat) (Option.some Jvm.ClassFile.FieldType.int)) : Jvm.Cond) ∈ am_T := am_mem (am_c2 (List.mem_of_getElem? (i := 130) rfl)) rfl
theorem tw_371 : ((Jvm.Cond.methodLink "DawnTalesLaw" (23 : Nat) ({ cls := "DawnTales", name := "tales", desc := "()I" } : Jvm.MethodName)) : Jvm.Cond) ∈ am_T := am_mem (am_c2 (List.mem_of_getElem? (i := 131) rfl)) rfl
theorem tw_372 : ((Jvm.Cond.instanceMethod ({ cls := "DawnTales", name := "tales", desc := "()I" } : Jvm.MethodName)) : Jvm.Cond) ∈ am_T := am_mem (am_c2 (List.mem_of_getElem? (i := 132) rfl)) rfl
theorem tw_373 : ((Jvm.Cond.selects "DawnTales" ({ cls := "DawnTales", name := "tales", desc := "()I" } : Jvm.MethodName) ({ cls := "DawnTales", name := "tales", desc := "()I" } : Jvm.MethodName)) : Jvm.Cond) ∈ am_T := am_mem (am_c2 (List.mem_of_getElem? (i := 133) rfl)) rfl
theorem tw_374 : ((Jvm.Cond.code ({ cls := "DawnTales", name := "tales", desc := "()I" } : Jvm.MethodName) prog_1_method_4_code (2 : Nat) (Option.some Jvm.ClassFile.FieldType.int)) : Jvm.Cond) ∈ am_T := am_mem (am_c2 (List.mem_of_getElem? (i := 134) rfl)) rfl
theorem tw_375 : ((Jvm.Cond.methodLink "DawnTales" (88 : Nat) ({ cls := "DawnTales$Text", name := "readInto", desc := "(LDawnTales$Book;)I" } : Jvm.MethodName)) : Jvm.Cond) ∈ am_T := am_mem (am_c2 (List.mem_of_getElem? (i := 135) rfl)) rfl
theorem tw_376 : ((Jvm.Cond.instanceMethod ({ cls := "DawnTales$Text", name := "readInto", desc := "(LDawnTales$Book;)I" } : Jvm.MethodName)) : Jvm.Cond) ∈ am_T := am_mem (am_c2 (List.mem_of_getElem? (i := 136) rfl)) rfl
theorem tw_377 : ((Jvm.Cond.selects "DawnTales$Text" ({ cls := "DawnTales$Text", name := "readInto", desc := "(LDawnTales$Book;)I" } : Jvm.MethodName) ({ cls := "DawnTales$Text", name := "readInto", desc := "(LDawnTales$Book;)I" } : Jvm.MethodName)) : Jvm.Cond) ∈ am_T := am_mem (am_c2 (List.mem_of_getElem? (i := 137) rfl)) rfl
theorem tw_378 : ((Jvm.Cond.code ({ cls := "DawnTales$Text", name := "readInto", desc := "(LDawnTales$Book;)I" } : Jvm.MethodName) prog_11_method_4_code (4 : Nat) (Option.some Jvm.ClassFile.FieldType.int)) : Jvm.Cond) ∈ am_T := am_mem (am_c2 (List.mem_of_getElem? (i := 138) rfl)) rfl
theorem tw_379 : ((Jvm.Cond.methodLink "DawnTales$Text" (19 : Nat) ({ cls := "DawnTales$Book", name := "wipe", desc := "()V" } : Jvm.MethodName)) : Jvm.Cond) ∈ am_T := am_mem (am_c2 (List.mem_of_getElem? (i := 139) rfl)) rfl
theorem tw_380 : ((Jvm.Cond.methodLink "DawnTales$Text" (27 : Nat) ({ cls := "DawnTales$Text", name := "nextToken", desc := "()V" } : Jvm.MethodName)) : Jvm.Cond) ∈ am_T := am_mem (am_c2 (List.mem_of_getElem? (i := 140) rfl)) rfl
theorem tw_381 : ((Jvm.Cond.instanceMethod ({ cls := "DawnTales$Text", name := "nextToken", desc := "()V" } : Jvm.MethodName)) : Jvm.Cond) ∈ am_T := am_mem (am_c2 (List.mem_of_getElem? (i := 141) rfl)) rfl
theorem tw_382 : ((Jvm.Cond.selects "DawnTales$Text" ({ cls := "DawnTales$Text", name := "nextToken", desc := "()V" } : Jvm.MethodName) ({ cls := "DawnTales$Text", name := "nextToken", desc := "()V" } : Jvm.MethodName)) : Jvm.Cond) ∈ am_T := am_mem (am_c2 (List.mem_of_getElem? (i := 142) rfl)) rfl
theorem tw_383 : ((Jvm.Cond.code ({ cls := "DawnTales$Text", name := "nextToken", desc := "()V" } : Jvm.MethodName) prog_11_method_11_code (2 : Nat) (Option.none : Option Jvm.ClassFile.FieldType)) : Jvm.Cond) ∈ am_T := am_mem (am_c2 (List.mem_of_getElem? (i := 143) rfl)) rfl
theorem tw_384 : ((Jvm.Cond.methodLink "DawnTales$Text" (79 : Nat) ({ cls := "DawnTales$Text", name := "byteAt", desc := "(I)I" } : Jvm.MethodName)) : Jvm.Cond) ∈ am_T := am_mem (am_c2 (List.mem_of_getElem? (i := 144) rfl)) rfl
theorem tw_385 : ((Jvm.Cond.instanceMethod ({ cls := "DawnTales$Text", name := "byteAt", desc := "(I)I" } : Jvm.MethodName)) : Jvm.Cond) ∈ am_T := am_mem (am_c2 (List.mem_of_getElem? (i := 145) rfl)) rfl
theorem tw_386 : ((Jvm.Cond.selects "DawnTales$Text" ({ cls := "DawnTales$Text", name := "byteAt", desc := "(I)I" } : Jvm.MethodName) ({ cls := "DawnTales$Text", name := "byteAt", desc := "(I)I" } : Jvm.MethodName)) : Jvm.Cond) ∈ am_T := am_mem (am_c2 (List.mem_of_getElem? (i := 146) rfl)) rfl
theorem tw_387 : ((Jvm.Cond.code ({ cls := "DawnTales$Text", name := "byteAt", desc := "(I)I" } : Jvm.MethodName) prog_11_method_14_code (2 : Nat) (Option.some Jvm.ClassFile.FieldType.int)) : Jvm.Cond) ∈ am_T := am_mem (am_c2 (List.mem_of_getElem? (i := 147) rfl)) rfl
theorem tw_388 : ((Jvm.Cond.methodLink "DawnTales$Text" (86 : Nat) ({ cls := "DawnTales$Text", name := "isLetter", desc := "(I)Z" } : Jvm.MethodName)) : Jvm.Cond) ∈ am_T := am_mem (am_c2 (List.mem_of_getElem? (i := 148) rfl)) rfl
theorem tw_389 : ((Jvm.Cond.static ({ cls := "DawnTales$Text", name := "isLetter", desc := "(I)Z" } : Jvm.MethodName)) : Jvm.Cond) ∈ am_T := am_mem (am_c2 (List.mem_of_getElem? (i := 149) rfl)) rfl
theorem tw_390 : ((Jvm.Cond.code ({ cls := "DawnTales$Text", name := "isLetter", desc := "(I)Z" } : Jvm.MethodName) prog_11_method_15_code (1 : Nat) (Option.some Jvm.ClassFile.FieldType.boolean)) : Jvm.Cond) ∈ am_T := am_mem (am_c2 (List.mem_of_getElem? (i := 150) rfl)) rfl
theorem tw_391 : ((Jvm.Cond.methodLink "DawnTales$Text" (90 : Nat) ({ cls := "DawnTales$Text", name := "takeLetters", desc := "()V" } : Jvm.MethodName)) : Jvm.Cond) ∈ am_T := am_mem (am_c2 (List.mem_of_getElem? (i := 151) rfl)) rfl
theorem tw_392 : ((Jvm.Cond.instanceMethod ({ cls := "DawnTales$Text", name := "takeLetters", desc := "()V" } : Jvm.MethodName)) : Jvm.Cond) ∈ am_T := am_mem (am_c2 (List.mem_of_getElem? (i := 152) rfl)) rfl
theorem tw_393 : ((Jvm.Cond.selects "DawnTales$Text" ({ cls := "DawnTales$Text", name := "takeLetters", desc := "()V" } : Jvm.MethodName) ({ cls := "DawnTales$Text", name := "takeLetters", desc := "()V" } : Jvm.MethodName)) : Jvm.Cond) ∈ am_T := am_mem (am_c2 (List.mem_of_getElem? (i := 153) rfl)) rfl
theorem tw_394 : ((Jvm.Cond.code ({ cls := "DawnTales$Text", name := "takeLetters", desc := "()V" } : Jvm.MethodName) prog_11_method_12_code (2 : Nat) (Option.none : Option Jvm.ClassFile.FieldType)) : Jvm.Cond) ∈ am_T := am_mem (am_c2 (List.mem_of_getElem? (i := 154) rfl)) rfl
theorem tw_395 : ((Jvm.Cond.methodLink "DawnTales$Text" (93 : Nat) ({ cls := "DawnTales$Text", name := "isDigit", desc := "(I)Z" } : Jvm.MethodName)) : Jvm.Cond) ∈ am_T := am_mem (am_c2 (List.mem_of_getElem? (i := 155) rfl)) rfl
theorem tw_396 : ((Jvm.Cond.static ({ cls := "DawnTales$Text", name := "isDigit", desc := "(I)Z" } : Jvm.MethodName)) : Jvm.Cond) ∈ am_T := am_mem (am_c2 (List.mem_of_getElem? (i := 156) rfl)) rfl
theorem tw_397 : ((Jvm.Cond.code ({ cls := "DawnTales$Text", name := "isDigit", desc := "(I)Z" } : Jvm.MethodName) prog_11_method_16_code (1 : Nat) (Option.some Jvm.ClassFile.FieldType.boolean)) : Jvm.Cond) ∈ am_T := am_mem (am_c2 (List.mem_of_getElem? (i := 157) rfl)) rfl
theorem tw_398 : ((Jvm.Cond.methodLink "DawnTales$Text" (96 : Nat) ({ cls := "DawnTales$Text", name := "takeNumber", desc := "()V" } : Jvm.MethodName)) : Jvm.Cond) ∈ am_T := am_mem (am_c2 (List.mem_of_getElem? (i := 158) rfl)) rfl
theorem tw_399 : ((Jvm.Cond.instanceMethod ({ cls := "DawnTales$Text", name := "takeNumber", desc := "()V" } : Jvm.MethodName)) : Jvm.Cond) ∈ am_T := am_mem (am_c2 (List.mem_of_getElem? (i := 159) rfl)) rfl
theorem tw_400 : ((Jvm.Cond.selects "DawnTales$Text" ({ cls := "DawnTales$Text", name := "takeNumber", desc := "()V" } : Jvm.MethodName) ({ cls := "DawnTales$Text", name := "takeNumber", desc := "()V" } : Jvm.MethodName)) : Jvm.Cond) ∈ am_T := am_mem (am_c2 (List.mem_of_getElem? (i := 160) rfl)) rfl
theorem tw_401 : ((Jvm.Cond.code ({ cls := "DawnTales$Text", name := "takeNumber", desc := "()V" } : Jvm.MethodName) prog_11_method_13_code (2 : Nat) (Option.none : Option Jvm.ClassFile.FieldType)) : Jvm.Cond) ∈ am_T := am_mem (am_c2 (List.mem_of_getElem? (i := 161) rfl)) rfl
theorem tw_402 : ((Jvm.Cond.methodLink "DawnTales$Text" (99 : Nat) ({ cls := "java/lang/Math", name := "min", desc := "(II)I" } : Jvm.MethodName)) : Jvm.Cond) ∈ am_T := am_mem (am_c2 (List.mem_of_getElem? (i := 162) rfl)) rfl
theorem tw_403 : ((Jvm.Cond.static ({ cls := "java/lang/Math", name := "min", desc := "(II)I" } : Jvm.MethodName)) : Jvm.Cond) ∈ am_T := am_mem (am_c2 (List.mem_of_getElem? (i := 163) rfl)) rfl
theorem tw_404 : ((Jvm.Cond.code ({ cls := "java/lang/Math", name := "min", desc := "(II)I" } : Jvm.MethodName) prog_16_method_69_code (2 : Nat) (Option.some Jvm.ClassFile.FieldType.int)) : Jvm.Cond) ∈ am_T := am_mem (am_c2 (List.mem_of_getElem? (i := 164) rfl)) rfl
theorem tw_405 : ((Jvm.Cond.methodLink "DawnTales$Text" (33 : Nat) ({ cls := "DawnTales$Text", name := "readItem", desc := "(LDawnTales$Book;)Z" } : Jvm.MethodName)) : Jvm.Cond) ∈ am_T := am_mem (am_c2 (List.mem_of_getElem? (i := 165) rfl)) rfl
theorem tw_406 : ((Jvm.Cond.instanceMethod ({ cls := "DawnTales$Text", name := "readItem", desc := "(LDawnTales$Book;)Z" } : Jvm.MethodName)) : Jvm.Cond) ∈ am_T := am_mem (am_c2 (List.mem_of_getElem? (i := 166) rfl)) rfl
theorem tw_407 : ((Jvm.Cond.selects "DawnTales$Text" ({ cls := "DawnTales$Text", name := "readItem", desc := "(LDawnTales$Book;)Z" } : Jvm.MethodName) ({ cls := "DawnTales$Text", name := "readItem", desc := "(LDawnTales$Book;)Z" } : Jvm.MethodName)) : Jvm.Cond) ∈ am_T := am_mem (am_c2 (List.mem_of_getElem? (i := 167) rfl)) rfl
theorem tw_408 : ((Jvm.Cond.code ({ cls := "DawnTales$Text", name := "readItem", desc := "(LDawnTales$Book;)Z" } : Jvm.MethodName) prog_11_method_5_code (3 : Nat) (Option.some Jvm.ClassFile.FieldType.boolean)) : Jvm.Cond) ∈ am_T := am_mem (am_c2 (List.mem_of_getElem? (i := 168) rfl)) rfl
theorem tw_409 : ((Jvm.Cond.methodLink "DawnTales$Text" (43 : Nat) ({ cls := "DawnTales$Text", name := "readTale", desc := "(LDawnTales$Book;)Z" } : Jvm.MethodName)) : Jvm.Cond) ∈ am_T := am_mem (am_c2 (List.mem_of_getElem? (i := 169) rfl)) rfl
theorem tw_410 : ((Jvm.Cond.instanceMethod ({ cls := "DawnTales$Text", name := "readTale", desc := "(LDawnTales$Book;)Z" } : Jvm.MethodName)) : Jvm.Cond) ∈ am_T := am_mem (am_c2 (List.mem_of_getElem? (i := 170) rfl)) rfl
theorem tw_411 : ((Jvm.Cond.selects "DawnTales$Text" ({ cls := "DawnTales$Text", name := "readTale", desc := "(LDawnTales$Book;)Z" } : Jvm.MethodName) ({ cls := "DawnTales$Text", name := "readTale", desc := "(LDawnTales$Book;)Z" } : Jvm.MethodName)) : Jvm.Cond) ∈ am_T := am_mem (am_c2 (List.mem_of_getElem? (i := 171) rfl)) rfl
theorem tw_412 : ((Jvm.Cond.code ({ cls := "DawnTales$Text", name := "readTale", desc := "(LDawnTales$Book;)Z" } : Jvm.MethodName) prog_11_method_6_code (3 : Nat) (Option.some Jvm.ClassFile.FieldType.boolean)) : Jvm.Cond) ∈ am_T := am_mem (am_c2 (List.mem_of_getElem? (i := 172) rfl)) rfl
theorem tw_413 : ((Jvm.Cond.methodLink "DawnTales$Text" (58 : Nat) ({ cls := "DawnTales$Text", name := "isNumber", desc := "(II)Z" } : Jvm.MethodName)) : Jvm.Cond) ∈ am_T := am_mem (am_c2 (List.mem_of_getElem? (i := 173) rfl)) rfl
theorem tw_414 : ((Jvm.Cond.instanceMethod ({ cls := "DawnTales$Text", name := "isNumber", desc := "(II)Z" } : Jvm.MethodName)) : Jvm.Cond) ∈ am_T := am_mem (am_c2 (List.mem_of_getElem? (i := 174) rfl)) rfl
theorem tw_415 : ((Jvm.Cond.selects "DawnTales$Text" ({ cls := "DawnTales$Text", name := "isNumber", desc := "(II)Z" } : Jvm.MethodName) ({ cls := "DawnTales$Text", name := "isNumber", desc := "(II)Z" } : Jvm.MethodName)) : Jvm.Cond) ∈ am_T := am_mem (am_c2 (List.mem_of_getElem? (i := 175) rfl)) rfl
theorem tw_416 : ((Jvm.Cond.code ({ cls := "DawnTales$Text", name := "isNumber", desc := "(II)Z" } : Jvm.MethodName) prog_11_method_10_code (3 : Nat) (Option.some Jvm.ClassFile.FieldType.boolean)) : Jvm.Cond) ∈ am_T := am_mem (am_c2 (List.mem_of_getElem? (i := 176) rfl)) rfl
theorem tw_417 : ((Jvm.Cond.methodLink "DawnTales$Text" (62 : Nat) ({ cls := "DawnTales$Book", name := "addTale", desc := "(II)V" } : Jvm.MethodName)) : Jvm.Cond) ∈ am_T := am_mem (am_c2 (List.mem_of_getElem? (i := 177) rfl)) rfl
theorem tw_418 : ((Jvm.Cond.instanceMethod ({ cls := "DawnTales$Book", name := "addTale", desc := "(II)V" } : Jvm.MethodName)) : Jvm.Cond) ∈ am_T := am_mem (am_c2 (List.mem_of_getElem? (i := 178) rfl)) rfl
theorem tw_419 : ((Jvm.Cond.selects "DawnTales$Book" ({ cls := "DawnTales$Book", name := "addTale", desc := "(II)V" } : Jvm.MethodName) ({ cls := "DawnTales$Book", name := "addTale", desc := "(II)V" } : Jvm.MethodName)) : Jvm.Cond) ∈ am_T := am_mem (am_c2 (List.mem_of_getElem? (i := 179) rfl)) rfl
theorem tw_420 : ((Jvm.Cond.code ({ cls := "DawnTales$Book", name := "addTale", desc := "(II)V" } : Jvm.MethodName) prog_2_method_6_code (3 : Nat) (Option.none : Option Jvm.ClassFile.FieldType)) : Jvm.Cond) ∈ am_T := am_mem (am_c2 (List.mem_of_getElem? (i := 180) rfl)) rfl
theorem tw_421 : ((Jvm.Cond.methodLink "DawnTales$Text" (46 : Nat) ({ cls := "DawnTales$Text", name := "readNights", desc := "(LDawnTales$Book;)Z" } : Jvm.MethodName)) : Jvm.Cond) ∈ am_T := am_mem (am_c2 (List.mem_of_getElem? (i := 181) rfl)) rfl
theorem tw_422 : ((Jvm.Cond.instanceMethod ({ cls := "DawnTales$Text", name := "readNights", desc := "(LDawnTales$Book;)Z" } : Jvm.MethodName)) : Jvm.Cond) ∈ am_T := am_mem (am_c2 (List.mem_of_getElem? (i := 182) rfl)) rfl
theorem tw_423 : ((Jvm.Cond.selects "DawnTales$Text" ({ cls := "DawnTales$Text", name := "readNights", desc := "(LDawnTales$Book;)Z" } : Jvm.MethodName) ({ cls := "DawnTales$Text", name := "readNights", desc := "(LDawnTales$Book;)Z" } : Jvm.MethodName)) : Jvm.Cond) ∈ am_T := am_mem (am_c2 (List.mem_of_getElem? (i := 183) rfl)) rfl
theorem tw_424 : ((Jvm.Cond.code ({ cls := "DawnTales$Text", name := "readNights", desc := "(LDawnTales$Book;)Z" } : Jvm.MethodName) prog_11_method_7_code (3 : Nat) (Option.some Jvm.ClassFile.FieldType.boolean)) : Jvm.Cond) ∈ am_T := am_mem (am_c2 (List.mem_of_getElem? (i := 184) rfl)) rfl
theorem tw_425 : ((Jvm.Cond.methodLink "DawnTales$Text" (69 : Nat) ({ cls := "DawnTales$Book", name := "addNight", desc := "(I)V" } : Jvm.MethodName)) : Jvm.Cond) ∈ am_T := am_mem (am_c2 (List.mem_of_getElem? (i := 185) rfl)) rfl
theorem tw_426 : ((Jvm.Cond.methodLink "DawnTales$Text" (49 : Nat) ({ cls := "DawnTales$Text", name := "readMemory", desc := "(LDawnTales$Book;)Z" } : Jvm.MethodName)) : Jvm.Cond) ∈ am_T := am_mem (am_c2 (List.mem_of_getElem? (i := 186) rfl)) rfl
theorem tw_427 : ((Jvm.Cond.instanceMethod ({ cls := "DawnTales$Text", name := "readMemory", desc := "(LDawnTales$Book;)Z" } : Jvm.MethodName)) : Jvm.Cond) ∈ am_T := am_mem (am_c2 (List.mem_of_getElem? (i := 187) rfl)) rfl
theorem tw_428 : ((Jvm.Cond.selects "DawnTales$Text" ({ cls := "DawnTales$Text", name := "readMemory", desc := "(LDawnTales$Book;)Z" } : Jvm.MethodName) ({ cls := "DawnTales$Text", name := "readMemory", desc := "(LDawnTales$Book;)Z" } : Jvm.MethodName)) : Jvm.Cond) ∈ am_T := am_mem (am_c2 (List.mem_of_getElem? (i := 188) rfl)) rfl
theorem tw_429 : ((Jvm.Cond.code ({ cls := "DawnTales$Text", name := "readMemory", desc := "(LDawnTales$Book;)Z" } : Jvm.MethodName) prog_11_method_8_code (2 : Nat) (Option.some Jvm.ClassFile.FieldType.boolean)) : Jvm.Cond) ∈ am_T := am_mem (am_c2 (List.mem_of_getElem? (i := 189) rfl)) rfl
theorem tw_430 : ((Jvm.Cond.methodLink "DawnTales$Text" (52 : Nat) ({ cls := "DawnTales$Text", name := "readDepth", desc := "(LDawnTales$Book;)Z" } : Jvm.MethodName)) : Jvm.Cond) ∈ am_T := am_mem (am_c2 (List.mem_of_getElem? (i := 190) rfl)) rfl
theorem tw_431 : ((Jvm.Cond.instanceMethod ({ cls := "DawnTales$Text", name := "readDepth", desc := "(LDawnTales$Book;)Z" } : Jvm.MethodName)) : Jvm.Cond) ∈ am_T := am_mem (am_c2 (List.mem_of_getElem? (i := 191) rfl)) rfl
theorem tw_432 : ((Jvm.Cond.selects "DawnTales$Text" ({ cls := "DawnTales$Text", name := "readDepth", desc := "(LDawnTales$Book;)Z" } : Jvm.MethodName) ({ cls := "DawnTales$Text", name := "readDepth", desc := "(LDawnTales$Book;)Z" } : Jvm.MethodName)) : Jvm.Cond) ∈ am_T := am_mem (am_c2 (List.mem_of_getElem? (i := 192) rfl)) rfl
theorem tw_433 : ((Jvm.Cond.code ({ cls := "DawnTales$Text", name := "readDepth", desc := "(LDawnTales$Book;)Z" } : Jvm.MethodName) prog_11_method_9_code (2 : Nat) (Option.some Jvm.ClassFile.FieldType.boolean)) : Jvm.Cond) ∈ am_T := am_mem (am_c2 (List.mem_of_getElem? (i := 193) rfl)) rfl
theorem tw_434 : ((Jvm.Cond.methodLink "DawnTales$Text" (37 : Nat) ({ cls := "DawnTales$Book", name := "settle", desc := "()V" } : Jvm.MethodName)) : Jvm.Cond) ∈ am_T := am_mem (am_c2 (List.mem_of_getElem? (i := 194) rfl)) rfl
theorem tw_435 : ((Jvm.Cond.methodLink "DawnTales" (95 : Nat) ({ cls := "DawnTales$Book", name := "copyFrom", desc := "(LDawnTales$Book;)V" } : Jvm.MethodName)) : Jvm.Cond) ∈ am_T := am_mem (am_c2 (List.mem_of_getElem? (i := 195) rfl)) rfl
theorem tw_436 : ((Jvm.Cond.instanceMethod ({ cls := "DawnTales$Book", name := "copyFrom", desc := "(LDawnTales$Book;)V" } : Jvm.MethodName)) : Jvm.Cond) ∈ am_T := am_mem (am_c2 (List.mem_of_getElem? (i := 196) rfl)) rfl
theorem tw_437 : ((Jvm.Cond.selects "DawnTales$Book" ({ cls := "DawnTales$Book", name := "copyFrom", desc := "(LDawnTales$Book;)V" } : Jvm.MethodName) ({ cls := "DawnTales$Book", name := "copyFrom", desc := "(LDawnTales$Book;)V" } : Jvm.MethodName)) : Jvm.Cond) ∈ am_T := am_mem (am_c2 (List.mem_of_getElem? (i := 197) rfl)) rfl
theorem tw_438 : ((Jvm.Cond.code ({ cls := "DawnTales$Book", name := "copyFrom", desc := "(LDawnTales$Book;)V" } : Jvm.MethodName) prog_2_method_4_code (2 : Nat) (Option.none : Option Jvm.ClassFile.FieldType)) : Jvm.Cond) ∈ am_T := am_mem (am_c2 (List.mem_of_getElem? (i := 198) rfl)) rfl
theorem tw_439 : ((Jvm.Cond.methodLink "DawnTales$Book" (44 : Nat) ({ cls := "java/lang/System", name := "arraycopy", desc := "(Ljava/lang/Object;ILjava/lang/Object;II)V" } : Jvm.MethodName)) : Jvm.Cond) ∈ am_T := am_mem (am_c2 (List.mem_of_getElem? (i := 199) rfl)) rfl
theorem tw_440 : ((Jvm.Cond.static ({ cls := "java/lang/System", name := "arraycopy", desc := "(Ljava/lang/Object;ILjava/lang/Object;II)V" } : Jvm.MethodName)) : Jvm.Cond) ∈ am_T := am_mem (am_c2 (List.mem_of_getElem? (i := 200) rfl)) rfl
theorem tw_441 : ((Jvm.Cond.native ({ cls := "java/lang/System", name := "arraycopy", desc := "(Ljava/lang/Object;ILjava/lang/Object;II)V" } : Jvm.MethodName)) : Jvm.Cond) ∈ am_T := am_mem (am_c2 (List.mem_of_getElem? (i := 201) rfl)) rfl
theorem tw_442 : ((Jvm.Cond.methodLink "DawnTalesLaw" (27 : Nat) ({ cls := "DawnTales", name := "tale", desc := "(II)I" } : Jvm.MethodName)) : Jvm.Cond) ∈ am_T := am_mem (am_c2 (List.mem_of_getElem? (i := 202) rfl)) rfl
theorem tw_443 : ((Jvm.Cond.instanceMethod ({ cls := "DawnTales", name := "tale", desc := "(II)I" } : Jvm.MethodName)) : Jvm.Cond) ∈ am_T := am_mem (am_c2 (List.mem_of_getElem? (i := 203) rfl)) rfl
theorem tw_444 : ((Jvm.Cond.selects "DawnTales" ({ cls := "DawnTales", name := "tale", desc := "(II)I" } : Jvm.MethodName) ({ cls := "DawnTales", name := "tale", desc := "(II)I" } : Jvm.MethodName)) : Jvm.Cond) ∈ am_T := am_mem (am_c2 (List.mem_of_getElem? (i := 204) rfl)) rfl
theorem tw_445 : ((Jvm.Cond.code ({ cls := "DawnTales", name := "tale", desc := "(II)I" } : Jvm.MethodName) prog_1_method_5_code (4 : Nat) (Option.some Jvm.ClassFile.FieldType.int)) : Jvm.Cond) ∈ am_T := am_mem (am_c2 (List.mem_of_getElem? (i := 205) rfl)) rfl
theorem tw_446 : ((Jvm.Cond.methodLink "DawnTales" (99 : Nat) ({ cls := "DawnTales$Book", name := "isTale", desc := "(I)Z" } : Jvm.MethodName)) : Jvm.Cond) ∈ am_T := am_mem (am_c2 (List.mem_of_getElem? (i := 206) rfl)) rfl
theorem tw_447 : ((Jvm.Cond.methodLink "DawnTales" (106 : Nat) ({ cls := "DawnTales$Book", name := "partsOf", desc := "(I)I" } : Jvm.MethodName)) : Jvm.Cond) ∈ am_T := am_mem (am_c2 (List.mem_of_getElem? (i := 207) rfl)) rfl
theorem tw_448 : ((Jvm.Cond.methodLink "DawnTales" (110 : Nat) ({ cls := "DawnTales$Book", name := "withinOf", desc := "(I)I" } : Jvm.MethodName)) : Jvm.Cond) ∈ am_T := am_mem (am_c2 (List.mem_of_getElem? (i := 208) rfl)) rfl
theorem tw_449 : ((Jvm.Cond.instanceMethod ({ cls := "DawnTales$Book", name := "withinOf", desc := "(I)I" } : Jvm.MethodName)) : Jvm.Cond) ∈ am_T := am_mem (am_c2 (List.mem_of_getElem? (i := 209) rfl)) rfl
theorem tw_450 : ((Jvm.Cond.selects "DawnTales$Book" ({ cls := "DawnTales$Book", name := "withinOf", desc := "(I)I" } : Jvm.MethodName) ({ cls := "DawnTales$Book", name := "withinOf", desc := "(I)I" } : Jvm.MethodName)) : Jvm.Cond) ∈ am_T := am_mem (am_c2 (List.mem_of_getElem? (i := 210) rfl)) rfl
theorem tw_451 : ((Jvm.Cond.code ({ cls := "DawnTales$Book", name := "withinOf", desc := "(I)I" } : Jvm.MethodName) prog_2_method_10_code (2 : Nat) (Option.some Jvm.ClassFile.FieldType.int)) : Jvm.Cond) ∈ am_T := am_mem (am_c2 (List.mem_of_getElem? (i := 211) rfl)) rfl
theorem tw_452 : ((Jvm.Cond.methodLink "DawnTales" (113 : Nat) ({ cls := "DawnTales$Telling", name := "leftOf", desc := "(I)I" } : Jvm.MethodName)) : Jvm.Cond) ∈ am_T := am_mem (am_c2 (List.mem_of_getElem? (i := 212) rfl)) rfl
theorem tw_453 : ((Jvm.Cond.instanceMethod ({ cls := "DawnTales$Telling", name := "leftOf", desc := "(I)I" } : Jvm.MethodName)) : Jvm.Cond) ∈ am_T := am_mem (am_c2 (List.mem_of_getElem? (i := 213) rfl)) rfl
theorem tw_454 : ((Jvm.Cond.selects "DawnTales$Telling" ({ cls := "DawnTales$Telling", name := "leftOf", desc := "(I)I" } : Jvm.MethodName) ({ cls := "DawnTales$Telling", name := "leftOf", desc := "(I)I" } : Jvm.MethodName)) : Jvm.Cond) ∈ am_T := am_mem (am_c2 (List.mem_of_getElem? (i := 214) rfl)) rfl
theorem tw_455 : ((Jvm.Cond.code ({ cls := "DawnTales$Telling", name := "leftOf", desc := "(I)I" } : Jvm.MethodName) prog_10_method_4_code (2 : Nat) (Option.some Jvm.ClassFile.FieldType.int)) : Jvm.Cond) ∈ am_T := am_mem (am_c2 (List.mem_of_getElem? (i := 215) rfl)) rfl
theorem tw_456 : ((Jvm.Cond.methodLink "DawnTales" (118 : Nat) ({ cls := "DawnTales$Telling", name := "isBegun", desc := "(I)Z" } : Jvm.MethodName)) : Jvm.Cond) ∈ am_T := am_mem (am_c2 (List.mem_of_getElem? (i := 216) rfl)) rfl
theorem tw_457 : ((Jvm.Cond.instanceMethod ({ cls := "DawnTales$Telling", name := "isBegun", desc := "(I)Z" } : Jvm.MethodName)) : Jvm.Cond) ∈ am_T := am_mem (am_c2 (List.mem_of_getElem? (i := 217) rfl)) rfl
theorem tw_458 : ((Jvm.Cond.selects "DawnTales$Telling" ({ cls := "DawnTales$Telling", name := "isBegun", desc := "(I)Z" } : Jvm.MethodName) ({ cls := "DawnTales$Telling", name := "isBegun", desc := "(I)Z" } : Jvm.MethodName)) : Jvm.Cond) ∈ am_T := am_mem (am_c2 (List.mem_of_getElem? (i := 218) rfl)) rfl
theorem tw_459 : ((Jvm.Cond.code ({ cls := "DawnTales$Telling", name := "isBegun", desc := "(I)Z" } : Jvm.MethodName) prog_10_method_6_code (2 : Nat) (Option.some Jvm.ClassFile.FieldType.boolean)) : Jvm.Cond) ∈ am_T := am_mem (am_c2 (List.mem_of_getElem? (i := 219) rfl)) rfl
theorem tw_460 : ((Jvm.Cond.methodLink "DawnTales" (121 : Nat) ({ cls := "DawnTales$Telling", name := "placeOf", desc := "(I)I" } : Jvm.MethodName)) : Jvm.Cond) ∈ am_T := am_mem (am_c2 (List.mem_of_getElem? (i := 220) rfl)) rfl
theorem tw_461 : ((Jvm.Cond.instanceMethod ({ cls := "DawnTales$Telling", name := "placeOf", desc := "(I)I" } : Jvm.MethodName)) : Jvm.Cond) ∈ am_T := am_mem (am_c2 (List.mem_of_getElem? (i := 221) rfl)) rfl
theorem tw_462 : ((Jvm.Cond.selects "DawnTales$Telling" ({ cls := "DawnTales$Telling", name := "placeOf", desc := "(I)I" } : Jvm.MethodName) ({ cls := "DawnTales$Telling", name := "placeOf", desc := "(I)I" } : Jvm.MethodName)) : Jvm.Cond) ∈ am_T := am_mem (am_c2 (List.mem_of_getElem? (i := 222) rfl)) rfl
theorem tw_463 : ((Jvm.Cond.code ({ cls := "DawnTales$Telling", name := "placeOf", desc := "(I)I" } : Jvm.MethodName) prog_10_method_9_code (3 : Nat) (Option.some Jvm.ClassFile.FieldType.int)) : Jvm.Cond) ∈ am_T := am_mem (am_c2 (List.mem_of_getElem? (i := 223) rfl)) rfl
theorem tw_464 : ((Jvm.Cond.methodLink "DawnTales$Telling" (59 : Nat) ({ cls := "DawnTales$Telling", name := "openAt", desc := "(I)I" } : Jvm.MethodName)) : Jvm.Cond) ∈ am_T := am_mem (am_c2 (List.mem_of_getElem? (i := 224) rfl)) rfl
theorem tw_465 : ((Jvm.Cond.instanceMethod ({ cls := "DawnTales$Telling", name := "openAt", desc := "(I)I" } : Jvm.MethodName)) : Jvm.Cond) ∈ am_T := am_mem (am_c2 (List.mem_of_getElem? (i := 225) rfl)) rfl
theorem tw_466 : ((Jvm.Cond.selects "DawnTales$Telling" ({ cls := "DawnTales$Telling", name := "openAt", desc := "(I)I" } : Jvm.MethodName) ({ cls := "DawnTales$Telling", name := "openAt", desc := "(I)I" } : Jvm.MethodName)) : Jvm.Cond) ∈ am_T := am_mem (am_c2 (List.mem_of_getElem? (i := 226) rfl)) rfl
theorem tw_467 : ((Jvm.Cond.code ({ cls := "DawnTales$Telling", name := "openAt", desc := "(I)I" } : Jvm.MethodName) prog_10_method_7_code (2 : Nat) (Option.some Jvm.ClassFile.FieldType.int)) : Jvm.Cond) ∈ am_T := am_mem (am_c2 (List.mem_of_getElem? (i := 227) rfl)) rfl
theorem tw_468 : ((Jvm.Cond.methodLink "DawnTales" (124 : Nat) ({ cls := "DawnTales$Telling", name := "lastNightOf", desc := "(I)I" } : Jvm.MethodName)) : Jvm.Cond) ∈ am_T := am_mem (am_c2 (List.mem_of_getElem? (i := 228) rfl)) rfl
theorem tw_469 : ((Jvm.Cond.instanceMethod ({ cls := "DawnTales$Telling", name := "lastNightOf", desc := "(I)I" } : Jvm.MethodName)) : Jvm.Cond) ∈ am_T := am_mem (am_c2 (List.mem_of_getElem? (i := 229) rfl)) rfl
theorem tw_470 : ((Jvm.Cond.selects "DawnTales$Telling" ({ cls := "DawnTales$Telling", name := "lastNightOf", desc := "(I)I" } : Jvm.MethodName) ({ cls := "DawnTales$Telling", name := "lastNightOf", desc := "(I)I" } : Jvm.MethodName)) : Jvm.Cond) ∈ am_T := am_mem (am_c2 (List.mem_of_getElem? (i := 230) rfl)) rfl
theorem tw_471 : ((Jvm.Cond.code ({ cls := "DawnTales$Telling", name := "lastNightOf", desc := "(I)I" } : Jvm.MethodName) prog_10_method_5_code (2 : Nat) (Option.some Jvm.ClassFile.FieldType.int)) : Jvm.Cond) ∈ am_T := am_mem (am_c2 (List.mem_of_getElem? (i := 231) rfl)) rfl
theorem tw_472 : ((Jvm.Cond.methodLink "DawnTalesLaw" (32 : Nat) ({ cls := "DawnTales", name := "hours", desc := "(I)I" } : Jvm.MethodName)) : Jvm.Cond) ∈ am_T := am_mem (am_c2 (List.mem_of_getElem? (i := 232) rfl)) rfl
theorem tw_473 : ((Jvm.Cond.instanceMethod ({ cls := "DawnTales", name := "hours", desc := "(I)I" } : Jvm.MethodName)) : Jvm.Cond) ∈ am_T := am_mem (am_c2 (List.mem_of_getElem? (i := 233) rfl)) rfl
theorem tw_474 : ((Jvm.Cond.selects "DawnTales" ({ cls := "DawnTales", name := "hours", desc := "(I)I" } : Jvm.MethodName) ({ cls := "DawnTales", name := "hours", desc := "(I)I" } : Jvm.MethodName)) : Jvm.Cond) ∈ am_T := am_mem (am_c2 (List.mem_of_getElem? (i := 234) rfl)) rfl
theorem tw_475 : ((Jvm.Cond.code ({ cls := "DawnTales", name := "hours", desc := "(I)I" } : Jvm.MethodName) prog_1_method_6_code (2 : Nat) (Option.some Jvm.ClassFile.FieldType.int)) : Jvm.Cond) ∈ am_T := am_mem (am_c2 (List.mem_of_getElem? (i := 235) rfl)) rfl
theorem tw_476 : ((Jvm.Cond.methodLink "DawnTales" (127 : Nat) ({ cls := "DawnTales$Book", name := "hoursOf", desc := "(I)I" } : Jvm.MethodName)) : Jvm.Cond) ∈ am_T := am_mem (am_c2 (List.mem_of_getElem? (i := 236) rfl)) rfl
theorem tw_477 : ((Jvm.Cond.methodLink "DawnTalesLaw" (36 : Nat) ({ cls := "DawnTales", name := "begins", desc := "(I)I" } : Jvm.MethodName)) : Jvm.Cond) ∈ am_T := am_mem (am_c2 (List.mem_of_getElem? (i := 237) rfl)) rfl
theorem tw_478 : ((Jvm.Cond.instanceMethod ({ cls := "DawnTales", name := "begins", desc := "(I)I" } : Jvm.MethodName)) : Jvm.Cond) ∈ am_T := am_mem (am_c2 (List.mem_of_getElem? (i := 238) rfl)) rfl
theorem tw_479 : ((Jvm.Cond.selects "DawnTales" ({ cls := "DawnTales", name := "begins", desc := "(I)I" } : Jvm.MethodName) ({ cls := "DawnTales", name := "begins", desc := "(I)I" } : Jvm.MethodName)) : Jvm.Cond) ∈ am_T := am_mem (am_c2 (List.mem_of_getElem? (i := 239) rfl)) rfl
theorem tw_480 : ((Jvm.Cond.code ({ cls := "DawnTales", name := "begins", desc := "(I)I" } : Jvm.MethodName) prog_1_method_7_code (2 : Nat) (Option.some Jvm.ClassFile.FieldType.int)) : Jvm.Cond) ∈ am_T := am_mem (am_c3 (List.mem_of_getElem? (i := 0) rfl)) rfl
theorem tw_481 : ((Jvm.Cond.methodLink "DawnTales" (130 : Nat) ({ cls := "DawnTales$Telling", name := "mayBegin", desc := "(LDawnTales$Book;I)Z" } : Jvm.MethodName)) : Jvm.Cond) ∈ am_T := am_mem (am_c3 (List.mem_of_getElem? (i := 1) rfl)) rfl
theorem tw_482 : ((Jvm.Cond.instanceMethod ({ cls := "DawnTales$Telling", name := "mayBegin", desc := "(LDawnTales$Book;I)Z" } : Jvm.MethodName)) : Jvm.Cond) ∈ am_T := am_mem (am_c3 (List.mem_of_getElem? (i := 2) rfl)) rfl
theorem tw_483 : ((Jvm.Cond.selects "DawnTales$Telling" ({ cls := "DawnTales$Telling", name := "mayBegin", desc := "(LDawnTales$Book;I)Z" } : Jvm.MethodName) ({ cls := "DawnTales$Telling", name := "mayBegin", desc := "(LDawnTales$Book;I)Z" } : Jvm.MethodName)) : Jvm.Cond) ∈ am_T := am_mem (am_c3 (List.mem_of_getElem? (i := 3) rfl)) rfl
theorem tw_484 : ((Jvm.Cond.code ({ cls := "DawnTales$Telling", name := "mayBegin", desc := "(LDawnTales$Book;I)Z" } : Jvm.MethodName) prog_10_method_14_code (4 : Nat) (Option.some Jvm.ClassFile.FieldType.boolean)) : Jvm.Cond) ∈ am_T := am_mem (am_c3 (List.mem_of_getElem? (i := 4) rfl)) rfl
theorem tw_485 : ((Jvm.Cond.methodLink "DawnTales$Telling" (73 : Nat) ({ cls := "DawnTales$Telling", name := "hasHour", desc := "()Z" } : Jvm.MethodName)) : Jvm.Cond) ∈ am_T := am_mem (am_c3 (List.mem_of_getElem? (i := 5) rfl)) rfl
theorem tw_486 : ((Jvm.Cond.instanceMethod ({ cls := "DawnTales$Telling", name := "hasHour", desc := "()Z" } : Jvm.MethodName)) : Jvm.Cond) ∈ am_T := am_mem (am_c3 (List.mem_of_getElem? (i := 6) rfl)) rfl
theorem tw_487 : ((Jvm.Cond.selects "DawnTales$Telling" ({ cls := "DawnTales$Telling", name := "hasHour", desc := "()Z" } : Jvm.MethodName) ({ cls := "DawnTales$Telling", name := "hasHour", desc := "()Z" } : Jvm.MethodName)) : Jvm.Cond) ∈ am_T := am_mem (am_c3 (List.mem_of_getElem? (i := 7) rfl)) rfl
theorem tw_488 : ((Jvm.Cond.code ({ cls := "DawnTales$Telling", name := "hasHour", desc := "()Z" } : Jvm.MethodName) prog_10_method_13_code (1 : Nat) (Option.some Jvm.ClassFile.FieldType.boolean)) : Jvm.Cond) ∈ am_T := am_mem (am_c3 (List.mem_of_getElem? (i := 8) rfl)) rfl
theorem tw_489 : ((Jvm.Cond.methodLink "DawnTales$Telling" (77 : Nat) ({ cls := "DawnTales$Book", name := "isTale", desc := "(I)Z" } : Jvm.MethodName)) : Jvm.Cond) ∈ am_T := am_mem (am_c3 (List.mem_of_getElem? (i := 9) rfl)) rfl
theorem tw_490 : ((Jvm.Cond.methodLink "DawnTales$Telling" (62 : Nat) ({ cls := "DawnTales$Telling", name := "isBegun", desc := "(I)Z" } : Jvm.MethodName)) : Jvm.Cond) ∈ am_T := am_mem (am_c3 (List.mem_of_getElem? (i := 10) rfl)) rfl
theorem tw_491 : ((Jvm.Cond.methodLink "DawnTales$Telling" (86 : Nat) ({ cls := "DawnTales$Telling", name := "innermost", desc := "()I" } : Jvm.MethodName)) : Jvm.Cond) ∈ am_T := am_mem (am_c3 (List.mem_of_getElem? (i := 11) rfl)) rfl
theorem tw_492 : ((Jvm.Cond.instanceMethod ({ cls := "DawnTales$Telling", name := "innermost", desc := "()I" } : Jvm.MethodName)) : Jvm.Cond) ∈ am_T := am_mem (am_c3 (List.mem_of_getElem? (i := 12) rfl)) rfl
theorem tw_493 : ((Jvm.Cond.selects "DawnTales$Telling" ({ cls := "DawnTales$Telling", name := "innermost", desc := "()I" } : Jvm.MethodName) ({ cls := "DawnTales$Telling", name := "innermost", desc := "()I" } : Jvm.MethodName)) : Jvm.Cond) ∈ am_T := am_mem (am_c3 (List.mem_of_getElem? (i := 13) rfl)) rfl
theorem tw_494 : ((Jvm.Cond.code ({ cls := "DawnTales$Telling", name := "innermost", desc := "()I" } : Jvm.MethodName) prog_10_method_8_code (1 : Nat) (Option.some Jvm.ClassFile.FieldType.int)) : Jvm.Cond) ∈ am_T := am_mem (am_c3 (List.mem_of_getElem? (i := 14) rfl)) rfl
theorem tw_495 : ((Jvm.Cond.methodLink "DawnTales" (134 : Nat) ({ cls := "DawnTales$Stand", name := "remember", desc := "()V" } : Jvm.MethodName)) : Jvm.Cond) ∈ am_T := am_mem (am_c3 (List.mem_of_getElem? (i := 15) rfl)) rfl
theorem tw_496 : ((Jvm.Cond.instanceMethod ({ cls := "DawnTales$Stand", name := "remember", desc := "()V" } : Jvm.MethodName)) : Jvm.Cond) ∈ am_T := am_mem (am_c3 (List.mem_of_getElem? (i := 16) rfl)) rfl
theorem tw_497 : ((Jvm.Cond.selects "DawnTales$Stand" ({ cls := "DawnTales$Stand", name := "remember", desc := "()V" } : Jvm.MethodName) ({ cls := "DawnTales$Stand", name := "remember", desc := "()V" } : Jvm.MethodName)) : Jvm.Cond) ∈ am_T := am_mem (am_c3 (List.mem_of_getElem? (i := 17) rfl)) rfl
theorem tw_498 : ((Jvm.Cond.code ({ cls := "DawnTales$Stand", name := "remember", desc := "()V" } : Jvm.MethodName) prog_8_method_4_code (1 : Nat) (Option.none : Option Jvm.ClassFile.FieldType)) : Jvm.Cond) ∈ am_T := am_mem (am_c3 (List.mem_of_getElem? (i := 18) rfl)) rfl
theorem tw_499 : ((Jvm.Cond.methodLink "DawnTales$Stand" (34 : Nat) ({ cls := "DawnTales$Stand", name := "loseOldest", desc := "()V" } : Jvm.MethodName)) : Jvm.Cond) ∈ am_T := am_mem (am_c3 (List.mem_of_getElem? (i := 19) rfl)) rfl
theorem tw_500 : ((Jvm.Cond.instanceMethod ({ cls := "DawnTales$Stand", name := "loseOldest", desc := "()V" } : Jvm.MethodName)) : Jvm.Cond) ∈ am_T := am_mem (am_c3 (List.mem_of_getElem? (i := 20) rfl)) rfl
theorem tw_501 : ((Jvm.Cond.selects "DawnTales$Stand" ({ cls := "DawnTales$Stand", name := "loseOldest", desc := "()V" } : Jvm.MethodName) ({ cls := "DawnTales$Stand", name := "loseOldest", desc := "()V" } : Jvm.MethodName)) : Jvm.Cond) ∈ am_T := am_mem (am_c3 (List.mem_of_getElem? (i := 21) rfl)) rfl
theorem tw_502 : ((Jvm.Cond.code ({ cls := "DawnTales$Stand", name := "loseOldest", desc := "()V" } : Jvm.MethodName) prog_8_method_5_code (3 : Nat) (Option.none : Option Jvm.ClassFile.FieldType)) : Jvm.Cond) ∈ am_T := am_mem (am_c3 (List.mem_of_getElem? (i := 22) rfl)) rfl
theorem tw_503 : ((Jvm.Cond.methodLink "DawnTales$Stand" (30 : Nat) ({ cls := "DawnTales$Telling", name := "copyFrom", desc := "(LDawnTales$Telling;)V" } : Jvm.MethodName)) : Jvm.Cond) ∈ am_T := am_mem (am_c3 (List.mem_of_getElem? (i := 23) rfl)) rfl
theorem tw_504 : ((Jvm.Cond.instanceMethod ({ cls := "DawnTales$Telling", name := "copyFrom", desc := "(LDawnTales$Telling;)V" } : Jvm.MethodName)) : Jvm.Cond) ∈ am_T := am_mem (am_c3 (List.mem_of_getElem? (i := 24) rfl)) rfl
theorem tw_505 : ((Jvm.Cond.selects "DawnTales$Telling" ({ cls := "DawnTales$Telling", name := "copyFrom", desc := "(LDawnTales$Telling;)V" } : Jvm.MethodName) ({ cls := "DawnTales$Telling", name := "copyFrom", desc := "(LDawnTales$Telling;)V" } : Jvm.MethodName)) : Jvm.Cond) ∈ am_T := am_mem (am_c3 (List.mem_of_getElem? (i := 25) rfl)) rfl
theorem tw_506 : ((Jvm.Cond.code ({ cls := "DawnTales$Telling", name := "copyFrom", desc := "(LDawnTales$Telling;)V" } : Jvm.MethodName) prog_10_method_3_code (2 : Nat) (Option.none : Option Jvm.ClassFile.FieldType)) : Jvm.Cond) ∈ am_T := am_mem (am_c3 (List.mem_of_getElem? (i := 26) rfl)) rfl
theorem tw_507 : ((Jvm.Cond.methodLink "DawnTales$Telling" (53 : Nat) ({ cls := "java/lang/System", name := "arraycopy", desc := "(Ljava/lang/Object;ILjava/lang/Object;II)V" } : Jvm.MethodName)) : Jvm.Cond) ∈ am_T := am_mem (am_c3 (List.mem_of_getElem? (i := 27) rfl)) rfl
theorem tw_508 : ((Jvm.Cond.methodLink "DawnTales" (137 : Nat) ({ cls := "DawnTales$Telling", name := "beginTale", desc := "(I)V" } : Jvm.MethodName)) : Jvm.Cond) ∈ am_T := am_mem (am_c3 (List.mem_of_getElem? (i := 28) rfl)) rfl
theorem tw_509 : ((Jvm.Cond.instanceMethod ({ cls := "DawnTales$Telling", name := "beginTale", desc := "(I)V" } : Jvm.MethodName)) : Jvm.Cond) ∈ am_T := am_mem (am_c3 (List.mem_of_getElem? (i := 29) rfl)) rfl
theorem tw_510 : ((Jvm.Cond.selects "DawnTales$Telling" ({ cls := "DawnTales$Telling", name := "beginTale", desc := "(I)V" } : Jvm.MethodName) ({ cls := "DawnTales$Telling", name := "beginTale", desc := "(I)V" } : Jvm.MethodName)) : Jvm.Cond) ∈ am_T := am_mem (am_c3 (List.mem_of_getElem? (i := 30) rfl)) rfl
theorem tw_511 : ((Jvm.Cond.code ({ cls := "DawnTales$Telling", name := "beginTale", desc := "(I)V" } : Jvm.MethodName) prog_10_method_16_code (2 : Nat) (Option.none : Option Jvm.ClassFile.FieldType)) : Jvm.Cond) ∈ am_T := am_mem (am_c3 (List.mem_of_getElem? (i := 31) rfl)) rfl
theorem tw_512 : ((Jvm.Cond.methodLink "DawnTales$Telling" (90 : Nat) ({ cls := "DawnTales$Telling", name := "tellParts", desc := "(II)V" } : Jvm.MethodName)) : Jvm.Cond) ∈ am_T := am_mem (am_c3 (List.mem_of_getElem? (i := 32) rfl)) rfl
theorem tw_513 : ((Jvm.Cond.instanceMethod ({ cls := "DawnTales$Telling", name := "tellParts", desc := "(II)V" } : Jvm.MethodName)) : Jvm.Cond) ∈ am_T := am_mem (am_c3 (List.mem_of_getElem? (i := 33) rfl)) rfl
theorem tw_514 : ((Jvm.Cond.selects "DawnTales$Telling" ({ cls := "DawnTales$Telling", name := "tellParts", desc := "(II)V" } : Jvm.MethodName) ({ cls := "DawnTales$Telling", name := "tellParts", desc := "(II)V" } : Jvm.MethodName)) : Jvm.Cond) ∈ am_T := am_mem (am_c3 (List.mem_of_getElem? (i := 34) rfl)) rfl
theorem tw_515 : ((Jvm.Cond.code ({ cls := "DawnTales$Telling", name := "tellParts", desc := "(II)V" } : Jvm.MethodName) prog_10_method_17_code (3 : Nat) (Option.none : Option Jvm.ClassFile.FieldType)) : Jvm.Cond) ∈ am_T := am_mem (am_c3 (List.mem_of_getElem? (i := 35) rfl)) rfl
theorem tw_516 : ((Jvm.Cond.methodLink "DawnTalesLaw" (40 : Nat) ({ cls := "DawnTales", name := "tells", desc := "()I" } : Jvm.MethodName)) : Jvm.Cond) ∈ am_T := am_mem (am_c3 (List.mem_of_getElem? (i := 36) rfl)) rfl
theorem tw_517 : ((Jvm.Cond.instanceMethod ({ cls := "DawnTales", name := "tells", desc := "()I" } : Jvm.MethodName)) : Jvm.Cond) ∈ am_T := am_mem (am_c3 (List.mem_of_getElem? (i := 37) rfl)) rfl
theorem tw_518 : ((Jvm.Cond.selects "DawnTales" ({ cls := "DawnTales", name := "tells", desc := "()I" } : Jvm.MethodName) ({ cls := "DawnTales", name := "tells", desc := "()I" } : Jvm.MethodName)) : Jvm.Cond) ∈ am_T := am_mem (am_c3 (List.mem_of_getElem? (i := 38) rfl)) rfl
theorem tw_519 : ((Jvm.Cond.code ({ cls := "DawnTales", name := "tells", desc := "()I" } : Jvm.MethodName) prog_1_method_8_code (1 : Nat) (Option.some Jvm.ClassFile.FieldType.int)) : Jvm.Cond) ∈ am_T := am_mem (am_c3 (List.mem_of_getElem? (i := 39) rfl)) rfl
theorem tw_520 : ((Jvm.Cond.methodLink "DawnTales" (144 : Nat) ({ cls := "DawnTales$Telling", name := "hasHour", desc := "()Z" } : Jvm.MethodName)) : Jvm.Cond) ∈ am_T := am_mem (am_c3 (List.mem_of_getElem? (i := 40) rfl)) rfl
theorem tw_521 : ((Jvm.Cond.methodLink "DawnTales" (151 : Nat) ({ cls := "DawnTales$Telling", name := "innermost", desc := "()I" } : Jvm.MethodName)) : Jvm.Cond) ∈ am_T := am_mem (am_c3 (List.mem_of_getElem? (i := 41) rfl)) rfl
theorem tw_522 : ((Jvm.Cond.methodLink "DawnTales" (154 : Nat) ({ cls := "DawnTales$Telling", name := "tellParts", desc := "(II)V" } : Jvm.MethodName)) : Jvm.Cond) ∈ am_T := am_mem (am_c3 (List.mem_of_getElem? (i := 42) rfl)) rfl
theorem tw_523 : ((Jvm.Cond.methodLink "DawnTalesLaw" (44 : Nat) ({ cls := "DawnTales", name := "silent", desc := "()I" } : Jvm.MethodName)) : Jvm.Cond) ∈ am_T := am_mem (am_c3 (List.mem_of_getElem? (i := 43) rfl)) rfl
theorem tw_524 : ((Jvm.Cond.instanceMethod ({ cls := "DawnTales", name := "silent", desc := "()I" } : Jvm.MethodName)) : Jvm.Cond) ∈ am_T := am_mem (am_c3 (List.mem_of_getElem? (i := 44) rfl)) rfl
theorem tw_525 : ((Jvm.Cond.selects "DawnTales" ({ cls := "DawnTales", name := "silent", desc := "()I" } : Jvm.MethodName) ({ cls := "DawnTales", name := "silent", desc := "()I" } : Jvm.MethodName)) : Jvm.Cond) ∈ am_T := am_mem (am_c3 (List.mem_of_getElem? (i := 45) rfl)) rfl
theorem tw_526 : ((Jvm.Cond.code ({ cls := "DawnTales", name := "silent", desc := "()I" } : Jvm.MethodName) prog_1_method_9_code (1 : Nat) (Option.some Jvm.ClassFile.FieldType.int)) : Jvm.Cond) ∈ am_T := am_mem (am_c3 (List.mem_of_getElem? (i := 46) rfl)) rfl
theorem tw_527 : ((Jvm.Cond.methodLink "DawnTales" (158 : Nat) ({ cls := "DawnTales$Telling", name := "passHour", desc := "()V" } : Jvm.MethodName)) : Jvm.Cond) ∈ am_T := am_mem (am_c3 (List.mem_of_getElem? (i := 47) rfl)) rfl
theorem tw_528 : ((Jvm.Cond.instanceMethod ({ cls := "DawnTales$Telling", name := "passHour", desc := "()V" } : Jvm.MethodName)) : Jvm.Cond) ∈ am_T := am_mem (am_c3 (List.mem_of_getElem? (i := 48) rfl)) rfl
theorem tw_529 : ((Jvm.Cond.selects "DawnTales$Telling" ({ cls := "DawnTales$Telling", name := "passHour", desc := "()V" } : Jvm.MethodName) ({ cls := "DawnTales$Telling", name := "passHour", desc := "()V" } : Jvm.MethodName)) : Jvm.Cond) ∈ am_T := am_mem (am_c3 (List.mem_of_getElem? (i := 49) rfl)) rfl
theorem tw_530 : ((Jvm.Cond.code ({ cls := "DawnTales$Telling", name := "passHour", desc := "()V" } : Jvm.MethodName) prog_10_method_18_code (1 : Nat) (Option.none : Option Jvm.ClassFile.FieldType)) : Jvm.Cond) ∈ am_T := am_mem (am_c3 (List.mem_of_getElem? (i := 50) rfl)) rfl
theorem tw_531 : ((Jvm.Cond.methodLink "DawnTalesLaw" (48 : Nat) ({ cls := "DawnTales", name := "dawn", desc := "()I" } : Jvm.MethodName)) : Jvm.Cond) ∈ am_T := am_mem (am_c3 (List.mem_of_getElem? (i := 51) rfl)) rfl
theorem tw_532 : ((Jvm.Cond.instanceMethod ({ cls := "DawnTales", name := "dawn", desc := "()I" } : Jvm.MethodName)) : Jvm.Cond) ∈ am_T := am_mem (am_c3 (List.mem_of_getElem? (i := 52) rfl)) rfl
theorem tw_533 : ((Jvm.Cond.selects "DawnTales" ({ cls := "DawnTales", name := "dawn", desc := "()I" } : Jvm.MethodName) ({ cls := "DawnTales", name := "dawn", desc := "()I" } : Jvm.MethodName)) : Jvm.Cond) ∈ am_T := am_mem (am_c3 (List.mem_of_getElem? (i := 53) rfl)) rfl
theorem tw_534 : ((Jvm.Cond.code ({ cls := "DawnTales", name := "dawn", desc := "()I" } : Jvm.MethodName) prog_1_method_10_code (1 : Nat) (Option.some Jvm.ClassFile.FieldType.int)) : Jvm.Cond) ∈ am_T := am_mem (am_c3 (List.mem_of_getElem? (i := 54) rfl)) rfl
theorem tw_535 : ((Jvm.Cond.methodLink "DawnTales" (161 : Nat) ({ cls := "DawnTales$Telling", name := "mayDawn", desc := "()Z" } : Jvm.MethodName)) : Jvm.Cond) ∈ am_T := am_mem (am_c3 (List.mem_of_getElem? (i := 55) rfl)) rfl
theorem tw_536 : ((Jvm.Cond.instanceMethod ({ cls := "DawnTales$Telling", name := "mayDawn", desc := "()Z" } : Jvm.MethodName)) : Jvm.Cond) ∈ am_T := am_mem (am_c3 (List.mem_of_getElem? (i := 56) rfl)) rfl
theorem tw_537 : ((Jvm.Cond.selects "DawnTales$Telling" ({ cls := "DawnTales$Telling", name := "mayDawn", desc := "()Z" } : Jvm.MethodName) ({ cls := "DawnTales$Telling", name := "mayDawn", desc := "()Z" } : Jvm.MethodName)) : Jvm.Cond) ∈ am_T := am_mem (am_c3 (List.mem_of_getElem? (i := 57) rfl)) rfl
theorem tw_538 : ((Jvm.Cond.code ({ cls := "DawnTales$Telling", name := "mayDawn", desc := "()Z" } : Jvm.MethodName) prog_10_method_15_code (1 : Nat) (Option.some Jvm.ClassFile.FieldType.boolean)) : Jvm.Cond) ∈ am_T := am_mem (am_c3 (List.mem_of_getElem? (i := 58) rfl)) rfl
theorem tw_539 : ((Jvm.Cond.methodLink "DawnTales" (164 : Nat) ({ cls := "DawnTales$Telling", name := "meetDawn", desc := "(LDawnTales$Book;)Z" } : Jvm.MethodName)) : Jvm.Cond) ∈ am_T := am_mem (am_c3 (List.mem_of_getElem? (i := 59) rfl)) rfl
theorem tw_540 : ((Jvm.Cond.instanceMethod ({ cls := "DawnTales$Telling", name := "meetDawn", desc := "(LDawnTales$Book;)Z" } : Jvm.MethodName)) : Jvm.Cond) ∈ am_T := am_mem (am_c3 (List.mem_of_getElem? (i := 60) rfl)) rfl
theorem tw_541 : ((Jvm.Cond.selects "DawnTales$Telling" ({ cls := "DawnTales$Telling", name := "meetDawn", desc := "(LDawnTales$Book;)Z" } : Jvm.MethodName) ({ cls := "DawnTales$Telling", name := "meetDawn", desc := "(LDawnTales$Book;)Z" } : Jvm.MethodName)) : Jvm.Cond) ∈ am_T := am_mem (am_c3 (List.mem_of_getElem? (i := 61) rfl)) rfl
theorem tw_542 : ((Jvm.Cond.code ({ cls := "DawnTales$Telling", name := "meetDawn", desc := "(LDawnTales$Book;)Z" } : Jvm.MethodName) prog_10_method_22_code (2 : Nat) (Option.some Jvm.ClassFile.FieldType.boolean)) : Jvm.Cond) ∈ am_T := am_mem (am_c3 (List.mem_of_getElem? (i := 62) rfl)) rfl
theorem tw_543 : ((Jvm.Cond.methodLink "DawnTales$Telling" (112 : Nat) ({ cls := "DawnTales$Telling", name := "isForgotten", desc := "(LDawnTales$Book;)Z" } : Jvm.MethodName)) : Jvm.Cond) ∈ am_T := am_mem (am_c3 (List.mem_of_getElem? (i := 63) rfl)) rfl
theorem tw_544 : ((Jvm.Cond.instanceMethod ({ cls := "DawnTales$Telling", name := "isForgotten", desc := "(LDawnTales$Book;)Z" } : Jvm.MethodName)) : Jvm.Cond) ∈ am_T := am_mem (am_c3 (List.mem_of_getElem? (i := 64) rfl)) rfl
theorem tw_545 : ((Jvm.Cond.selects "DawnTales$Telling" ({ cls := "DawnTales$Telling", name := "isForgotten", desc := "(LDawnTales$Book;)Z" } : Jvm.MethodName) ({ cls := "DawnTales$Telling", name := "isForgotten", desc := "(LDawnTales$Book;)Z" } : Jvm.MethodName)) : Jvm.Cond) ∈ am_T := am_mem (am_c3 (List.mem_of_getElem? (i := 65) rfl)) rfl
theorem tw_546 : ((Jvm.Cond.code ({ cls := "DawnTales$Telling", name := "isForgotten", desc := "(LDawnTales$Book;)Z" } : Jvm.MethodName) prog_10_method_21_code (2 : Nat) (Option.some Jvm.ClassFile.FieldType.boolean)) : Jvm.Cond) ∈ am_T := am_mem (am_c3 (List.mem_of_getElem? (i := 66) rfl)) rfl
theorem tw_547 : ((Jvm.Cond.methodLink "DawnTales$Telling" (106 : Nat) ({ cls := "DawnTales$Telling", name := "lastNightOf", desc := "(I)I" } : Jvm.MethodName)) : Jvm.Cond) ∈ am_T := am_mem (am_c3 (List.mem_of_getElem? (i := 67) rfl)) rfl
theorem tw_548 : ((Jvm.Cond.methodLink "DawnTalesLaw" (52 : Nat) ({ cls := "DawnTales", name := "undo", desc := "()I" } : Jvm.MethodName)) : Jvm.Cond) ∈ am_T := am_mem (am_c3 (List.mem_of_getElem? (i := 68) rfl)) rfl
theorem tw_549 : ((Jvm.Cond.instanceMethod ({ cls := "DawnTales", name := "undo", desc := "()I" } : Jvm.MethodName)) : Jvm.Cond) ∈ am_T := am_mem (am_c3 (List.mem_of_getElem? (i := 69) rfl)) rfl
theorem tw_550 : ((Jvm.Cond.selects "DawnTales" ({ cls := "DawnTales", name := "undo", desc := "()I" } : Jvm.MethodName) ({ cls := "DawnTales", name := "undo", desc := "()I" } : Jvm.MethodName)) : Jvm.Cond) ∈ am_T := am_mem (am_c3 (List.mem_of_getElem? (i := 70) rfl)) rfl
theorem tw_551 : ((Jvm.Cond.code ({ cls := "DawnTales", name := "undo", desc := "()I" } : Jvm.MethodName) prog_1_method_11_code (1 : Nat) (Option.some Jvm.ClassFile.FieldType.int)) : Jvm.Cond) ∈ am_T := am_mem (am_c3 (List.mem_of_getElem? (i := 71) rfl)) rfl
theorem tw_552 : ((Jvm.Cond.methodLink "DawnTales" (168 : Nat) ({ cls := "DawnTales$Stand", name := "takeBack", desc := "()Z" } : Jvm.MethodName)) : Jvm.Cond) ∈ am_T := am_mem (am_c3 (List.mem_of_getElem? (i := 72) rfl)) rfl
theorem tw_553 : ((Jvm.Cond.instanceMethod ({ cls := "DawnTales$Stand", name := "takeBack", desc := "()Z" } : Jvm.MethodName)) : Jvm.Cond) ∈ am_T := am_mem (am_c3 (List.mem_of_getElem? (i := 73) rfl)) rfl
theorem tw_554 : ((Jvm.Cond.selects "DawnTales$Stand" ({ cls := "DawnTales$Stand", name := "takeBack", desc := "()Z" } : Jvm.MethodName) ({ cls := "DawnTales$Stand", name := "takeBack", desc := "()Z" } : Jvm.MethodName)) : Jvm.Cond) ∈ am_T := am_mem (am_c3 (List.mem_of_getElem? (i := 74) rfl)) rfl
theorem tw_555 : ((Jvm.Cond.code ({ cls := "DawnTales$Stand", name := "takeBack", desc := "()Z" } : Jvm.MethodName) prog_8_method_6_code (1 : Nat) (Option.some Jvm.ClassFile.FieldType.boolean)) : Jvm.Cond) ∈ am_T := am_mem (am_c3 (List.mem_of_getElem? (i := 75) rfl)) rfl
theorem tw_556 : ((Jvm.Cond.methodLink "DawnTalesLaw" (56 : Nat) ({ cls := "DawnTales", name := "now", desc := "(I)I" } : Jvm.MethodName)) : Jvm.Cond) ∈ am_T := am_mem (am_c3 (List.mem_of_getElem? (i := 76) rfl)) rfl
theorem tw_557 : ((Jvm.Cond.instanceMethod ({ cls := "DawnTales", name := "now", desc := "(I)I" } : Jvm.MethodName)) : Jvm.Cond) ∈ am_T := am_mem (am_c3 (List.mem_of_getElem? (i := 77) rfl)) rfl
theorem tw_558 : ((Jvm.Cond.selects "DawnTales" ({ cls := "DawnTales", name := "now", desc := "(I)I" } : Jvm.MethodName) ({ cls := "DawnTales", name := "now", desc := "(I)I" } : Jvm.MethodName)) : Jvm.Cond) ∈ am_T := am_mem (am_c3 (List.mem_of_getElem? (i := 78) rfl)) rfl
theorem tw_559 : ((Jvm.Cond.code ({ cls := "DawnTales", name := "now", desc := "(I)I" } : Jvm.MethodName) prog_1_method_12_code (3 : Nat) (Option.some Jvm.ClassFile.FieldType.int)) : Jvm.Cond) ∈ am_T := am_mem (am_c3 (List.mem_of_getElem? (i := 79) rfl)) rfl
theorem tw_560 : ((Jvm.Cond.methodLink "DawnTales" (184 : Nat) ({ cls := "DawnTales$Telling", name := "endedBits", desc := "()I" } : Jvm.MethodName)) : Jvm.Cond) ∈ am_T := am_mem (am_c3 (List.mem_of_getElem? (i := 80) rfl)) rfl
theorem tw_561 : ((Jvm.Cond.instanceMethod ({ cls := "DawnTales$Telling", name := "endedBits", desc := "()I" } : Jvm.MethodName)) : Jvm.Cond) ∈ am_T := am_mem (am_c3 (List.mem_of_getElem? (i := 81) rfl)) rfl
theorem tw_562 : ((Jvm.Cond.selects "DawnTales$Telling" ({ cls := "DawnTales$Telling", name := "endedBits", desc := "()I" } : Jvm.MethodName) ({ cls := "DawnTales$Telling", name := "endedBits", desc := "()I" } : Jvm.MethodName)) : Jvm.Cond) ∈ am_T := am_mem (am_c3 (List.mem_of_getElem? (i := 82) rfl)) rfl
theorem tw_563 : ((Jvm.Cond.code ({ cls := "DawnTales$Telling", name := "endedBits", desc := "()I" } : Jvm.MethodName) prog_10_method_10_code (3 : Nat) (Option.some Jvm.ClassFile.FieldType.int)) : Jvm.Cond) ∈ am_T := am_mem (am_c3 (List.mem_of_getElem? (i := 83) rfl)) rfl
theorem tw_564 : ((Jvm.Cond.methodLink "DawnTales" (187 : Nat) ({ cls := "DawnTales$Telling", name := "mayBeginBits", desc := "(LDawnTales$Book;)I" } : Jvm.MethodName)) : Jvm.Cond) ∈ am_T := am_mem (am_c3 (List.mem_of_getElem? (i := 84) rfl)) rfl
theorem tw_565 : ((Jvm.Cond.instanceMethod ({ cls := "DawnTales$Telling", name := "mayBeginBits", desc := "(LDawnTales$Book;)I" } : Jvm.MethodName)) : Jvm.Cond) ∈ am_T := am_mem (am_c3 (List.mem_of_getElem? (i := 85) rfl)) rfl
theorem tw_566 : ((Jvm.Cond.selects "DawnTales$Telling" ({ cls := "DawnTales$Telling", name := "mayBeginBits", desc := "(LDawnTales$Book;)I" } : Jvm.MethodName) ({ cls := "DawnTales$Telling", name := "mayBeginBits", desc := "(LDawnTales$Book;)I" } : Jvm.MethodName)) : Jvm.Cond) ∈ am_T := am_mem (am_c3 (List.mem_of_getElem? (i := 86) rfl)) rfl
theorem tw_567 : ((Jvm.Cond.code ({ cls := "DawnTales$Telling", name := "mayBeginBits", desc := "(LDawnTales$Book;)I" } : Jvm.MethodName) prog_10_method_11_code (4 : Nat) (Option.some Jvm.ClassFile.FieldType.int)) : Jvm.Cond) ∈ am_T := am_mem (am_c3 (List.mem_of_getElem? (i := 87) rfl)) rfl
theorem tw_568 : ((Jvm.Cond.methodLink "DawnTales$Telling" (69 : Nat) ({ cls := "DawnTales$Telling", name := "mayBegin", desc := "(LDawnTales$Book;I)Z" } : Jvm.MethodName)) : Jvm.Cond) ∈ am_T := am_mem (am_c3 (List.mem_of_getElem? (i := 88) rfl)) rfl
theorem tw_569 : ((Jvm.Cond.methodLink "DawnTalesLaw" (60 : Nat) ({ cls := "DawnTales", name := "on", desc := "()I" } : Jvm.MethodName)) : Jvm.Cond) ∈ am_T := am_mem (am_c3 (List.mem_of_getElem? (i := 89) rfl)) rfl
theorem tw_570 : ((Jvm.Cond.instanceMethod ({ cls := "DawnTales", name := "on", desc := "()I" } : Jvm.MethodName)) : Jvm.Cond) ∈ am_T := am_mem (am_c3 (List.mem_of_getElem? (i := 90) rfl)) rfl
theorem tw_571 : ((Jvm.Cond.selects "DawnTales" ({ cls := "DawnTales", name := "on", desc := "()I" } : Jvm.MethodName) ({ cls := "DawnTales", name := "on", desc := "()I" } : Jvm.MethodName)) : Jvm.Cond) ∈ am_T := am_mem (am_c3 (List.mem_of_getElem? (i := 91) rfl)) rfl
theorem tw_572 : ((Jvm.Cond.code ({ cls := "DawnTales", name := "on", desc := "()I" } : Jvm.MethodName) prog_1_method_13_code (1 : Nat) (Option.some Jvm.ClassFile.FieldType.int)) : Jvm.Cond) ∈ am_T := am_mem (am_c3 (List.mem_of_getElem? (i := 92) rfl)) rfl
theorem tw_573 : ((Jvm.Cond.methodLink "DawnTales" (190 : Nat) ({ cls := "DawnTales$Rows", name := "walkOn", desc := "(LDawnTales$Book;LDawnTales$Telling;)I" } : Jvm.MethodName)) : Jvm.Cond) ∈ am_T := am_mem (am_c3 (List.mem_of_getElem? (i := 93) rfl)) rfl
theorem tw_574 : ((Jvm.Cond.instanceMethod ({ cls := "DawnTales$Rows", name := "walkOn", desc := "(LDawnTales$Book;LDawnTales$Telling;)I" } : Jvm.MethodName)) : Jvm.Cond) ∈ am_T := am_mem (am_c3 (List.mem_of_getElem? (i := 94) rfl)) rfl
theorem tw_575 : ((Jvm.Cond.selects "DawnTales$Rows" ({ cls := "DawnTales$Rows", name := "walkOn", desc := "(LDawnTales$Book;LDawnTales$Telling;)I" } : Jvm.MethodName) ({ cls := "DawnTales$Rows", name := "walkOn", desc := "(LDawnTales$Book;LDawnTales$Telling;)I" } : Jvm.MethodName)) : Jvm.Cond) ∈ am_T := am_mem (am_c3 (List.mem_of_getElem? (i := 95) rfl)) rfl
theorem tw_576 : ((Jvm.Cond.code ({ cls := "DawnTales$Rows", name := "walkOn", desc := "(LDawnTales$Book;LDawnTales$Telling;)I" } : Jvm.MethodName) prog_7_method_5_code (5 : Nat) (Option.some Jvm.ClassFile.FieldType.int)) : Jvm.Cond) ∈ am_T := am_mem (am_c3 (List.mem_of_getElem? (i := 96) rfl)) rfl
theorem tw_577 : ((Jvm.Cond.methodLink "DawnTales$Rows" (102 : Nat) ({ cls := "DawnTales$Telling", name := "copyFrom", desc := "(LDawnTales$Telling;)V" } : Jvm.MethodName)) : Jvm.Cond) ∈ am_T := am_mem (am_c3 (List.mem_of_getElem? (i := 97) rfl)) rfl
theorem tw_578 : ((Jvm.Cond.methodLink "DawnTales$Rows" (106 : Nat) ({ cls := "DawnTales$Telling", name := "hasHour", desc := "()Z" } : Jvm.MethodName)) : Jvm.Cond) ∈ am_T := am_mem (am_c3 (List.mem_of_getElem? (i := 98) rfl)) rfl
theorem tw_579 : ((Jvm.Cond.methodLink "DawnTales$Rows" (99 : Nat) ({ cls := "DawnTales$Telling", name := "goOn", desc := "()V" } : Jvm.MethodName)) : Jvm.Cond) ∈ am_T := am_mem (am_c3 (List.mem_of_getElem? (i := 99) rfl)) rfl
theorem tw_580 : ((Jvm.Cond.instanceMethod ({ cls := "DawnTales$Telling", name := "goOn", desc := "()V" } : Jvm.MethodName)) : Jvm.Cond) ∈ am_T := am_mem (am_c3 (List.mem_of_getElem? (i := 100) rfl)) rfl
theorem tw_581 : ((Jvm.Cond.selects "DawnTales$Telling" ({ cls := "DawnTales$Telling", name := "goOn", desc := "()V" } : Jvm.MethodName) ({ cls := "DawnTales$Telling", name := "goOn", desc := "()V" } : Jvm.MethodName)) : Jvm.Cond) ∈ am_T := am_mem (am_c3 (List.mem_of_getElem? (i := 101) rfl)) rfl
theorem tw_582 : ((Jvm.Cond.code ({ cls := "DawnTales$Telling", name := "goOn", desc := "()V" } : Jvm.MethodName) prog_10_method_19_code (2 : Nat) (Option.none : Option Jvm.ClassFile.FieldType)) : Jvm.Cond) ∈ am_T := am_mem (am_c3 (List.mem_of_getElem? (i := 102) rfl)) rfl
theorem tw_583 : ((Jvm.Cond.methodLink "DawnTales$Telling" (94 : Nat) ({ cls := "DawnTales$Telling", name := "leftOf", desc := "(I)I" } : Jvm.MethodName)) : Jvm.Cond) ∈ am_T := am_mem (am_c3 (List.mem_of_getElem? (i := 103) rfl)) rfl
theorem tw_584 : ((Jvm.Cond.methodLink "DawnTales$Telling" (97 : Nat) ({ cls := "java/lang/Math", name := "max", desc := "(II)I" } : Jvm.MethodName)) : Jvm.Cond) ∈ am_T := am_mem (am_c3 (List.mem_of_getElem? (i := 104) rfl)) rfl
theorem tw_585 : ((Jvm.Cond.static ({ cls := "java/lang/Math", name := "max", desc := "(II)I" } : Jvm.MethodName)) : Jvm.Cond) ∈ am_T := am_mem (am_c3 (List.mem_of_getElem? (i := 105) rfl)) rfl
theorem tw_586 : ((Jvm.Cond.code ({ cls := "java/lang/Math", name := "max", desc := "(II)I" } : Jvm.MethodName) prog_16_method_65_code (2 : Nat) (Option.some Jvm.ClassFile.FieldType.int)) : Jvm.Cond) ∈ am_T := am_mem (am_c3 (List.mem_of_getElem? (i := 106) rfl)) rfl
theorem tw_587 : ((Jvm.Cond.methodLink "DawnTales$Telling" (103 : Nat) ({ cls := "java/lang/Math", name := "min", desc := "(II)I" } : Jvm.MethodName)) : Jvm.Cond) ∈ am_T := am_mem (am_c3 (List.mem_of_getElem? (i := 107) rfl)) rfl
theorem tw_588 : ((Jvm.Cond.methodLink "DawnTales$Rows" (109 : Nat) ({ cls := "DawnTales$Telling", name := "mayDawn", desc := "()Z" } : Jvm.MethodName)) : Jvm.Cond) ∈ am_T := am_mem (am_c3 (List.mem_of_getElem? (i := 108) rfl)) rfl
theorem tw_589 : ((Jvm.Cond.methodLink "DawnTales$Rows" (76 : Nat) ({ cls := "DawnTales$Telling", name := "meetDawn", desc := "(LDawnTales$Book;)Z" } : Jvm.MethodName)) : Jvm.Cond) ∈ am_T := am_mem (am_c3 (List.mem_of_getElem? (i := 109) rfl)) rfl
theorem tw_590 : ((Jvm.Cond.methodLink "DawnTalesLaw" (64 : Nat) ({ cls := "DawnTales", name := "by", desc := "(I)I" } : Jvm.MethodName)) : Jvm.Cond) ∈ am_T := am_mem (am_c3 (List.mem_of_getElem? (i := 110) rfl)) rfl
theorem tw_591 : ((Jvm.Cond.instanceMethod ({ cls := "DawnTales", name := "by", desc := "(I)I" } : Jvm.MethodName)) : Jvm.Cond) ∈ am_T := am_mem (am_c3 (List.mem_of_getElem? (i := 111) rfl)) rfl
theorem tw_592 : ((Jvm.Cond.selects "DawnTales" ({ cls := "DawnTales", name := "by", desc := "(I)I" } : Jvm.MethodName) ({ cls := "DawnTales", name := "by", desc := "(I)I" } : Jvm.MethodName)) : Jvm.Cond) ∈ am_T := am_mem (am_c3 (List.mem_of_getElem? (i := 112) rfl)) rfl
theorem tw_593 : ((Jvm.Cond.code ({ cls := "DawnTales", name := "by", desc := "(I)I" } : Jvm.MethodName) prog_1_method_14_code (2 : Nat) (Option.some Jvm.ClassFile.FieldType.int)) : Jvm.Cond) ∈ am_T := am_mem (am_c3 (List.mem_of_getElem? (i := 113) rfl)) rfl
theorem tw_594 : ((Jvm.Cond.methodLink "DawnTales" (197 : Nat) ({ cls := "DawnTales$Rows", name := "spread", desc := "(II)Z" } : Jvm.MethodName)) : Jvm.Cond) ∈ am_T := am_mem (am_c3 (List.mem_of_getElem? (i := 114) rfl)) rfl
theorem tw_595 : ((Jvm.Cond.instanceMethod ({ cls := "DawnTales$Rows", name := "spread", desc := "(II)Z" } : Jvm.MethodName)) : Jvm.Cond) ∈ am_T := am_mem (am_c3 (List.mem_of_getElem? (i := 115) rfl)) rfl
theorem tw_596 : ((Jvm.Cond.selects "DawnTales$Rows" ({ cls := "DawnTales$Rows", name := "spread", desc := "(II)Z" } : Jvm.MethodName) ({ cls := "DawnTales$Rows", name := "spread", desc := "(II)Z" } : Jvm.MethodName)) : Jvm.Cond) ∈ am_T := am_mem (am_c3 (List.mem_of_getElem? (i := 116) rfl)) rfl
theorem tw_597 : ((Jvm.Cond.code ({ cls := "DawnTales$Rows", name := "spread", desc := "(II)Z" } : Jvm.MethodName) prog_7_method_2_code (7 : Nat) (Option.some Jvm.ClassFile.FieldType.boolean)) : Jvm.Cond) ∈ am_T := am_mem (am_c3 (List.mem_of_getElem? (i := 117) rfl)) rfl
theorem tw_598 : ((Jvm.Cond.methodLink "DawnTales$Rows" (51 : Nat) ({ cls := "java/lang/Math", name := "min", desc := "(II)I" } : Jvm.MethodName)) : Jvm.Cond) ∈ am_T := am_mem (am_c3 (List.mem_of_getElem? (i := 118) rfl)) rfl
theorem tw_599 : ((Jvm.Cond.methodLink "DawnTales" (201 : Nat) ({ cls := "DawnTales$Rows", name := "walk", desc := "(LDawnTales$Book;)I" } : Jvm.MethodName)) : Jvm.Cond) ∈ am_T := am_mem (am_c3 (List.mem_of_getElem? (i := 119) rfl)) rfl
theorem tw_600 : ((Jvm.Cond.instanceMethod ({ cls := "DawnTales$Rows", name := "walk", desc := "(LDawnTales$Book;)I" } : Jvm.MethodName)) : Jvm.Cond) ∈ am_T := am_mem (am_c3 (List.mem_of_getElem? (i := 120) rfl)) rfl
theorem tw_601 : ((Jvm.Cond.selects "DawnTales$Rows" ({ cls := "DawnTales$Rows", name := "walk", desc := "(LDawnTales$Book;)I" } : Jvm.MethodName) ({ cls := "DawnTales$Rows", name := "walk", desc := "(LDawnTales$Book;)I" } : Jvm.MethodName)) : Jvm.Cond) ∈ am_T := am_mem (am_c3 (List.mem_of_getElem? (i := 121) rfl)) rfl
theorem tw_602 : ((Jvm.Cond.code ({ cls := "DawnTales$Rows", name := "walk", desc := "(LDawnTales$Book;)I" } : Jvm.MethodName) prog_7_method_3_code (6 : Nat) (Option.some Jvm.ClassFile.FieldType.int)) : Jvm.Cond) ∈ am_T := am_mem (am_c3 (List.mem_of_getElem? (i := 122) rfl)) rfl
theorem tw_603 : ((Jvm.Cond.methodLink "DawnTales$Rows" (57 : Nat) ({ cls := "java/util/Arrays", name := "fill", desc := "([JJ)V" } : Jvm.MethodName)) : Jvm.Cond) ∈ am_T := am_mem (am_c3 (List.mem_of_getElem? (i := 123) rfl)) rfl
theorem tw_604 : ((Jvm.Cond.static ({ cls := "java/util/Arrays", name := "fill", desc := "([JJ)V" } : Jvm.MethodName)) : Jvm.Cond) ∈ am_T := am_mem (am_c3 (List.mem_of_getElem? (i := 124) rfl)) rfl
theorem tw_605 : ((Jvm.Cond.code ({ cls := "java/util/Arrays", name := "fill", desc := "([JJ)V" } : Jvm.MethodName) prog_18_method_101_code (5 : Nat) (Option.none : Option Jvm.ClassFile.FieldType)) : Jvm.Cond) ∈ am_T := am_mem (am_c3 (List.mem_of_getElem? (i := 125) rfl)) rfl
theorem tw_606 : ((Jvm.Cond.methodLink "DawnTales$Rows" (63 : Nat) ({ cls := "DawnTales$Telling", name := "start", desc := "(LDawnTales$Book;)V" } : Jvm.MethodName)) : Jvm.Cond) ∈ am_T := am_mem (am_c3 (List.mem_of_getElem? (i := 126) rfl)) rfl
theorem tw_607 : ((Jvm.Cond.methodLink "DawnTales$Rows" (70 : Nat) ({ cls := "DawnTales$Rows", name := "walkNight", desc := "(LDawnTales$Book;)V" } : Jvm.MethodName)) : Jvm.Cond) ∈ am_T := am_mem (am_c3 (List.mem_of_getElem? (i := 127) rfl)) rfl
theorem tw_608 : ((Jvm.Cond.instanceMethod ({ cls := "DawnTales$Rows", name := "walkNight", desc := "(LDawnTales$Book;)V" } : Jvm.MethodName)) : Jvm.Cond) ∈ am_T := am_mem (am_c3 (List.mem_of_getElem? (i := 128) rfl)) rfl
theorem tw_609 : ((Jvm.Cond.selects "DawnTales$Rows" ({ cls := "DawnTales$Rows", name := "walkNight", desc := "(LDawnTales$Book;)V" } : Jvm.MethodName) ({ cls := "DawnTales$Rows", name := "walkNight", desc := "(LDawnTales$Book;)V" } : Jvm.MethodName)) : Jvm.Cond) ∈ am_T := am_mem (am_c3 (List.mem_of_getElem? (i := 129) rfl)) rfl
theorem tw_610 : ((Jvm.Cond.code ({ cls := "DawnTales$Rows", name := "walkNight", desc := "(LDawnTales$Book;)V" } : Jvm.MethodName) prog_7_method_4_code (4 : Nat) (Option.none : Option Jvm.ClassFile.FieldType)) : Jvm.Cond) ∈ am_T := am_mem (am_c3 (List.mem_of_getElem? (i := 130) rfl)) rfl
theorem tw_611 : ((Jvm.Cond.methodLink "DawnTales$Rows" (87 : Nat) ({ cls := "DawnTales$Telling", name := "isPause", desc := "()Z" } : Jvm.MethodName)) : Jvm.Cond) ∈ am_T := am_mem (am_c3 (List.mem_of_getElem? (i := 131) rfl)) rfl
theorem tw_612 : ((Jvm.Cond.instanceMethod ({ cls := "DawnTales$Telling", name := "isPause", desc := "()Z" } : Jvm.MethodName)) : Jvm.Cond) ∈ am_T := am_mem (am_c3 (List.mem_of_getElem? (i := 132) rfl)) rfl
theorem tw_613 : ((Jvm.Cond.selects "DawnTales$Telling" ({ cls := "DawnTales$Telling", name := "isPause", desc := "()Z" } : Jvm.MethodName) ({ cls := "DawnTales$Telling", name := "isPause", desc := "()Z" } : Jvm.MethodName)) : Jvm.Cond) ∈ am_T := am_mem (am_c3 (List.mem_of_getElem? (i := 133) rfl)) rfl
theorem tw_614 : ((Jvm.Cond.code ({ cls := "DawnTales$Telling", name := "isPause", desc := "()Z" } : Jvm.MethodName) prog_10_method_20_code (1 : Nat) (Option.some Jvm.ClassFile.FieldType.boolean)) : Jvm.Cond) ∈ am_T := am_mem (am_c3 (List.mem_of_getElem? (i := 134) rfl)) rfl
theorem tw_615 : ((Jvm.Cond.methodLink "DawnTales$Rows" (91 : Nat) ({ cls := "DawnTales$Telling", name := "mayBegin", desc := "(LDawnTales$Book;I)Z" } : Jvm.MethodName)) : Jvm.Cond) ∈ am_T := am_mem (am_c3 (List.mem_of_getElem? (i := 135) rfl)) rfl
theorem tw_616 : ((Jvm.Cond.methodLink "DawnTales$Rows" (95 : Nat) ({ cls := "DawnTales$Telling", name := "beginTale", desc := "(I)V" } : Jvm.MethodName)) : Jvm.Cond) ∈ am_T := am_mem (am_c3 (List.mem_of_getElem? (i := 136) rfl)) rfl
theorem tw_617 : ((Jvm.Cond.methodLink "DawnTales$Rows" (80 : Nat) ({ cls := "DawnTales$Rows", name := "shiftOf", desc := "(I)I" } : Jvm.MethodName)) : Jvm.Cond) ∈ am_T := am_mem (am_c3 (List.mem_of_getElem? (i := 137) rfl)) rfl
theorem tw_618 : ((Jvm.Cond.static ({ cls := "DawnTales$Rows", name := "shiftOf", desc := "(I)I" } : Jvm.MethodName)) : Jvm.Cond) ∈ am_T := am_mem (am_c3 (List.mem_of_getElem? (i := 138) rfl)) rfl
theorem tw_619 : ((Jvm.Cond.code ({ cls := "DawnTales$Rows", name := "shiftOf", desc := "(I)I" } : Jvm.MethodName) prog_7_method_22_code (1 : Nat) (Option.some Jvm.ClassFile.FieldType.int)) : Jvm.Cond) ∈ am_T := am_mem (am_c3 (List.mem_of_getElem? (i := 139) rfl)) rfl
theorem tw_620 : ((Jvm.Cond.methodLink "DawnTalesLaw" (68 : Nat) ({ cls := "DawnTales", name := "best", desc := "(I)I" } : Jvm.MethodName)) : Jvm.Cond) ∈ am_T := am_mem (am_c3 (List.mem_of_getElem? (i := 140) rfl)) rfl
theorem tw_621 : ((Jvm.Cond.instanceMethod ({ cls := "DawnTales", name := "best", desc := "(I)I" } : Jvm.MethodName)) : Jvm.Cond) ∈ am_T := am_mem (am_c3 (List.mem_of_getElem? (i := 141) rfl)) rfl
theorem tw_622 : ((Jvm.Cond.selects "DawnTales" ({ cls := "DawnTales", name := "best", desc := "(I)I" } : Jvm.MethodName) ({ cls := "DawnTales", name := "best", desc := "(I)I" } : Jvm.MethodName)) : Jvm.Cond) ∈ am_T := am_mem (am_c3 (List.mem_of_getElem? (i := 142) rfl)) rfl
theorem tw_623 : ((Jvm.Cond.code ({ cls := "DawnTales", name := "best", desc := "(I)I" } : Jvm.MethodName) prog_1_method_15_code (3 : Nat) (Option.some Jvm.ClassFile.FieldType.int)) : Jvm.Cond) ∈ am_T := am_mem (am_c3 (List.mem_of_getElem? (i := 143) rfl)) rfl
theorem tw_624 : ((Jvm.Cond.methodLink "DawnTales" (204 : Nat) ({ cls := "DawnTales", name := "isPairPart", desc := "(I)Z" } : Jvm.MethodName)) : Jvm.Cond) ∈ am_T := am_mem (am_c3 (List.mem_of_getElem? (i := 144) rfl)) rfl
theorem tw_625 : ((Jvm.Cond.static ({ cls := "DawnTales", name := "isPairPart", desc := "(I)Z" } : Jvm.MethodName)) : Jvm.Cond) ∈ am_T := am_mem (am_c3 (List.mem_of_getElem? (i := 145) rfl)) rfl
theorem tw_626 : ((Jvm.Cond.code ({ cls := "DawnTales", name := "isPairPart", desc := "(I)Z" } : Jvm.MethodName) prog_1_method_33_code (1 : Nat) (Option.some Jvm.ClassFile.FieldType.boolean)) : Jvm.Cond) ∈ am_T := am_mem (am_c3 (List.mem_of_getElem? (i := 146) rfl)) rfl
theorem tw_627 : ((Jvm.Cond.methodLink "DawnTales" (207 : Nat) ({ cls := "DawnTales$Rows", name := "know", desc := "(LDawnTales$Book;)V" } : Jvm.MethodName)) : Jvm.Cond) ∈ am_T := am_mem (am_c3 (List.mem_of_getElem? (i := 147) rfl)) rfl
theorem tw_628 : ((Jvm.Cond.instanceMethod ({ cls := "DawnTales$Rows", name := "know", desc := "(LDawnTales$Book;)V" } : Jvm.MethodName)) : Jvm.Cond) ∈ am_T := am_mem (am_c3 (List.mem_of_getElem? (i := 148) rfl)) rfl
theorem tw_629 : ((Jvm.Cond.selects "DawnTales$Rows" ({ cls := "DawnTales$Rows", name := "know", desc := "(LDawnTales$Book;)V" } : Jvm.MethodName) ({ cls := "DawnTales$Rows", name := "know", desc := "(LDawnTales$Book;)V" } : Jvm.MethodName)) : Jvm.Cond) ∈ am_T := am_mem (am_c3 (List.mem_of_getElem? (i := 149) rfl)) rfl
theorem tw_630 : ((Jvm.Cond.code ({ cls := "DawnTales$Rows", name := "know", desc := "(LDawnTales$Book;)V" } : Jvm.MethodName) prog_7_method_7_code (2 : Nat) (Option.none : Option Jvm.ClassFile.FieldType)) : Jvm.Cond) ∈ am_T := am_mem (am_c3 (List.mem_of_getElem? (i := 150) rfl)) rfl
theorem tw_631 : ((Jvm.Cond.methodLink "DawnTales$Rows" (119 : Nat) ({ cls := "DawnTales$Rows", name := "walkAll", desc := "(LDawnTales$Book;)V" } : Jvm.MethodName)) : Jvm.Cond) ∈ am_T := am_mem (am_c3 (List.mem_of_getElem? (i := 151) rfl)) rfl
theorem tw_632 : ((Jvm.Cond.instanceMethod ({ cls := "DawnTales$Rows", name := "walkAll", desc := "(LDawnTales$Book;)V" } : Jvm.MethodName)) : Jvm.Cond) ∈ am_T := am_mem (am_c3 (List.mem_of_getElem? (i := 152) rfl)) rfl
theorem tw_633 : ((Jvm.Cond.selects "DawnTales$Rows" ({ cls := "DawnTales$Rows", name := "walkAll", desc := "(LDawnTales$Book;)V" } : Jvm.MethodName) ({ cls := "DawnTales$Rows", name := "walkAll", desc := "(LDawnTales$Book;)V" } : Jvm.MethodName)) : Jvm.Cond) ∈ am_T := am_mem (am_c3 (List.mem_of_getElem? (i := 153) rfl)) rfl
theorem tw_634 : ((Jvm.Cond.code ({ cls := "DawnTales$Rows", name := "walkAll", desc := "(LDawnTales$Book;)V" } : Jvm.MethodName) prog_7_method_8_code (4 : Nat) (Option.none : Option Jvm.ClassFile.FieldType)) : Jvm.Cond) ∈ am_T := am_mem (am_c3 (List.mem_of_getElem? (i := 154) rfl)) rfl
theorem tw_635 : ((Jvm.Cond.methodLink "DawnTales$Rows" (125 : Nat) ({ cls := "DawnTales$Rows", name := "list", desc := "(I)V" } : Jvm.MethodName)) : Jvm.Cond) ∈ am_T := am_mem (am_c3 (List.mem_of_getElem? (i := 155) rfl)) rfl
theorem tw_636 : ((Jvm.Cond.instanceMethod ({ cls := "DawnTales$Rows", name := "list", desc := "(I)V" } : Jvm.MethodName)) : Jvm.Cond) ∈ am_T := am_mem (am_c3 (List.mem_of_getElem? (i := 156) rfl)) rfl
theorem tw_637 : ((Jvm.Cond.selects "DawnTales$Rows" ({ cls := "DawnTales$Rows", name := "list", desc := "(I)V" } : Jvm.MethodName) ({ cls := "DawnTales$Rows", name := "list", desc := "(I)V" } : Jvm.MethodName)) : Jvm.Cond) ∈ am_T := am_mem (am_c3 (List.mem_of_getElem? (i := 157) rfl)) rfl
theorem tw_638 : ((Jvm.Cond.code ({ cls := "DawnTales$Rows", name := "list", desc := "(I)V" } : Jvm.MethodName) prog_7_method_10_code (5 : Nat) (Option.none : Option Jvm.ClassFile.FieldType)) : Jvm.Cond) ∈ am_T := am_mem (am_c3 (List.mem_of_getElem? (i := 158) rfl)) rfl
theorem tw_639 : ((Jvm.Cond.methodLink "DawnTales$Rows" (152 : Nat) ({ cls := "DawnTales$Rows", name := "listLonger", desc := "(II)V" } : Jvm.MethodName)) : Jvm.Cond) ∈ am_T := am_mem (am_c3 (List.mem_of_getElem? (i := 159) rfl)) rfl
theorem tw_640 : ((Jvm.Cond.instanceMethod ({ cls := "DawnTales$Rows", name := "listLonger", desc := "(II)V" } : Jvm.MethodName)) : Jvm.Cond) ∈ am_T := am_mem (am_c3 (List.mem_of_getElem? (i := 160) rfl)) rfl
theorem tw_641 : ((Jvm.Cond.selects "DawnTales$Rows" ({ cls := "DawnTales$Rows", name := "listLonger", desc := "(II)V" } : Jvm.MethodName) ({ cls := "DawnTales$Rows", name := "listLonger", desc := "(II)V" } : Jvm.MethodName)) : Jvm.Cond) ∈ am_T := am_mem (am_c3 (List.mem_of_getElem? (i := 161) rfl)) rfl
theorem tw_642 : ((Jvm.Cond.code ({ cls := "DawnTales$Rows", name := "listLonger", desc := "(II)V" } : Jvm.MethodName) prog_7_method_11_code (5 : Nat) (Option.none : Option Jvm.ClassFile.FieldType)) : Jvm.Cond) ∈ am_T := am_mem (am_c3 (List.mem_of_getElem? (i := 162) rfl)) rfl
theorem tw_643 : ((Jvm.Cond.methodLink "DawnTales$Rows" (155 : Nat) ({ cls := "DawnTales$Rows", name := "bitsOf", desc := "(I)I" } : Jvm.MethodName)) : Jvm.Cond) ∈ am_T := am_mem (am_c3 (List.mem_of_getElem? (i := 163) rfl)) rfl
theorem tw_644 : ((Jvm.Cond.static ({ cls := "DawnTales$Rows", name := "bitsOf", desc := "(I)I" } : Jvm.MethodName)) : Jvm.Cond) ∈ am_T := am_mem (am_c3 (List.mem_of_getElem? (i := 164) rfl)) rfl
theorem tw_645 : ((Jvm.Cond.code ({ cls := "DawnTales$Rows", name := "bitsOf", desc := "(I)I" } : Jvm.MethodName) prog_7_method_23_code (4 : Nat) (Option.some Jvm.ClassFile.FieldType.int)) : Jvm.Cond) ∈ am_T := am_mem (am_c3 (List.mem_of_getElem? (i := 165) rfl)) rfl
theorem tw_646 : ((Jvm.Cond.methodLink "DawnTales$Rows" (187 : Nat) ({ cls := "DawnTales$Telling", name := "bitOf", desc := "(I)I" } : Jvm.MethodName)) : Jvm.Cond) ∈ am_T := am_mem (am_c3 (List.mem_of_getElem? (i := 166) rfl)) rfl
theorem tw_647 : ((Jvm.Cond.static ({ cls := "DawnTales$Telling", name := "bitOf", desc := "(I)I" } : Jvm.MethodName)) : Jvm.Cond) ∈ am_T := am_mem (am_c3 (List.mem_of_getElem? (i := 167) rfl)) rfl
theorem tw_648 : ((Jvm.Cond.code ({ cls := "DawnTales$Telling", name := "bitOf", desc := "(I)I" } : Jvm.MethodName) prog_10_method_12_code (1 : Nat) (Option.some Jvm.ClassFile.FieldType.int)) : Jvm.Cond) ∈ am_T := am_mem (am_c3 (List.mem_of_getElem? (i := 168) rfl)) rfl
theorem tw_649 : ((Jvm.Cond.methodLink "DawnTales$Rows" (131 : Nat) ({ cls := "DawnTales$Rows", name := "takeOver", desc := "(II)V" } : Jvm.MethodName)) : Jvm.Cond) ∈ am_T := am_mem (am_c3 (List.mem_of_getElem? (i := 169) rfl)) rfl
theorem tw_650 : ((Jvm.Cond.instanceMethod ({ cls := "DawnTales$Rows", name := "takeOver", desc := "(II)V" } : Jvm.MethodName)) : Jvm.Cond) ∈ am_T := am_mem (am_c3 (List.mem_of_getElem? (i := 170) rfl)) rfl
theorem tw_651 : ((Jvm.Cond.selects "DawnTales$Rows" ({ cls := "DawnTales$Rows", name := "takeOver", desc := "(II)V" } : Jvm.MethodName) ({ cls := "DawnTales$Rows", name := "takeOver", desc := "(II)V" } : Jvm.MethodName)) : Jvm.Cond) ∈ am_T := am_mem (am_c3 (List.mem_of_getElem? (i := 171) rfl)) rfl
theorem tw_652 : ((Jvm.Cond.code ({ cls := "DawnTales$Rows", name := "takeOver", desc := "(II)V" } : Jvm.MethodName) prog_7_method_9_code (3 : Nat) (Option.none : Option Jvm.ClassFile.FieldType)) : Jvm.Cond) ∈ am_T := am_mem (am_c3 (List.mem_of_getElem? (i := 172) rfl)) rfl
theorem tw_653 : ((Jvm.Cond.methodLink "DawnTales$Rows" (143 : Nat) ({ cls := "java/lang/System", name := "arraycopy", desc := "(Ljava/lang/Object;ILjava/lang/Object;II)V" } : Jvm.MethodName)) : Jvm.Cond) ∈ am_T := am_mem (am_c3 (List.mem_of_getElem? (i := 173) rfl)) rfl
theorem tw_654 : ((Jvm.Cond.methodLink "DawnTales$Rows" (135 : Nat) ({ cls := "DawnTales$Rows", name := "spread", desc := "(II)Z" } : Jvm.MethodName)) : Jvm.Cond) ∈ am_T := am_mem (am_c3 (List.mem_of_getElem? (i := 174) rfl)) rfl
theorem tw_655 : ((Jvm.Cond.methodLink "DawnTales$Rows" (139 : Nat) ({ cls := "DawnTales$Rows", name := "walk", desc := "(LDawnTales$Book;)I" } : Jvm.MethodName)) : Jvm.Cond) ∈ am_T := am_mem (am_c3 (List.mem_of_getElem? (i := 175) rfl)) rfl
theorem tw_656 : ((Jvm.Cond.methodLink "DawnTales" (210 : Nat) ({ cls := "DawnTales$Rows", name := "bestPlace", desc := "()I" } : Jvm.MethodName)) : Jvm.Cond) ∈ am_T := am_mem (am_c3 (List.mem_of_getElem? (i := 176) rfl)) rfl
theorem tw_657 : ((Jvm.Cond.instanceMethod ({ cls := "DawnTales$Rows", name := "bestPlace", desc := "()I" } : Jvm.MethodName)) : Jvm.Cond) ∈ am_T := am_mem (am_c3 (List.mem_of_getElem? (i := 177) rfl)) rfl
theorem tw_658 : ((Jvm.Cond.selects "DawnTales$Rows" ({ cls := "DawnTales$Rows", name := "bestPlace", desc := "()I" } : Jvm.MethodName) ({ cls := "DawnTales$Rows", name := "bestPlace", desc := "()I" } : Jvm.MethodName)) : Jvm.Cond) ∈ am_T := am_mem (am_c3 (List.mem_of_getElem? (i := 178) rfl)) rfl
theorem tw_659 : ((Jvm.Cond.code ({ cls := "DawnTales$Rows", name := "bestPlace", desc := "()I" } : Jvm.MethodName) prog_7_method_13_code (3 : Nat) (Option.some Jvm.ClassFile.FieldType.int)) : Jvm.Cond) ∈ am_T := am_mem (am_c3 (List.mem_of_getElem? (i := 179) rfl)) rfl
theorem tw_660 : ((Jvm.Cond.methodLink "DawnTales$Rows" (167 : Nat) ({ cls := "DawnTales$Rows", name := "savedBy", desc := "(I)I" } : Jvm.MethodName)) : Jvm.Cond) ∈ am_T := am_mem (am_c3 (List.mem_of_getElem? (i := 180) rfl)) rfl
theorem tw_661 : ((Jvm.Cond.instanceMethod ({ cls := "DawnTales$Rows", name := "savedBy", desc := "(I)I" } : Jvm.MethodName)) : Jvm.Cond) ∈ am_T := am_mem (am_c3 (List.mem_of_getElem? (i := 181) rfl)) rfl
theorem tw_662 : ((Jvm.Cond.selects "DawnTales$Rows" ({ cls := "DawnTales$Rows", name := "savedBy", desc := "(I)I" } : Jvm.MethodName) ({ cls := "DawnTales$Rows", name := "savedBy", desc := "(I)I" } : Jvm.MethodName)) : Jvm.Cond) ∈ am_T := am_mem (am_c3 (List.mem_of_getElem? (i := 182) rfl)) rfl
theorem tw_663 : ((Jvm.Cond.code ({ cls := "DawnTales$Rows", name := "savedBy", desc := "(I)I" } : Jvm.MethodName) prog_7_method_19_code (2 : Nat) (Option.some Jvm.ClassFile.FieldType.int)) : Jvm.Cond) ∈ am_T := am_mem (am_c3 (List.mem_of_getElem? (i := 183) rfl)) rfl
theorem tw_664 : ((Jvm.Cond.methodLink "DawnTales" (213 : Nat) ({ cls := "DawnTales$Rows", name := "savedBy", desc := "(I)I" } : Jvm.MethodName)) : Jvm.Cond) ∈ am_T := am_mem (am_c3 (List.mem_of_getElem? (i := 184) rfl)) rfl
theorem tw_665 : ((Jvm.Cond.methodLink "DawnTales" (216 : Nat) ({ cls := "DawnTales$Rows", name := "rowAt", desc := "(I)I" } : Jvm.MethodName)) : Jvm.Cond) ∈ am_T := am_mem (am_c3 (List.mem_of_getElem? (i := 185) rfl)) rfl
theorem tw_666 : ((Jvm.Cond.instanceMethod ({ cls := "DawnTales$Rows", name := "rowAt", desc := "(I)I" } : Jvm.MethodName)) : Jvm.Cond) ∈ am_T := am_mem (am_c3 (List.mem_of_getElem? (i := 186) rfl)) rfl
theorem tw_667 : ((Jvm.Cond.selects "DawnTales$Rows" ({ cls := "DawnTales$Rows", name := "rowAt", desc := "(I)I" } : Jvm.MethodName) ({ cls := "DawnTales$Rows", name := "rowAt", desc := "(I)I" } : Jvm.MethodName)) : Jvm.Cond) ∈ am_T := am_mem (am_c3 (List.mem_of_getElem? (i := 187) rfl)) rfl
theorem tw_668 : ((Jvm.Cond.code ({ cls := "DawnTales$Rows", name := "rowAt", desc := "(I)I" } : Jvm.MethodName) prog_7_method_18_code (2 : Nat) (Option.some Jvm.ClassFile.FieldType.int)) : Jvm.Cond) ∈ am_T := am_mem (am_c3 (List.mem_of_getElem? (i := 188) rfl)) rfl
theorem tw_669 : ((Jvm.Cond.methodLink "DawnTalesLaw" (72 : Nat) ({ cls := "DawnTales", name := "fewest", desc := "(II)I" } : Jvm.MethodName)) : Jvm.Cond) ∈ am_T := am_mem (am_c3 (List.mem_of_getElem? (i := 189) rfl)) rfl
theorem tw_670 : ((Jvm.Cond.instanceMethod ({ cls := "DawnTales", name := "fewest", desc := "(II)I" } : Jvm.MethodName)) : Jvm.Cond) ∈ am_T := am_mem (am_c3 (List.mem_of_getElem? (i := 190) rfl)) rfl
theorem tw_671 : ((Jvm.Cond.selects "DawnTales" ({ cls := "DawnTales", name := "fewest", desc := "(II)I" } : Jvm.MethodName) ({ cls := "DawnTales", name := "fewest", desc := "(II)I" } : Jvm.MethodName)) : Jvm.Cond) ∈ am_T := am_mem (am_c3 (List.mem_of_getElem? (i := 191) rfl)) rfl
theorem tw_672 : ((Jvm.Cond.code ({ cls := "DawnTales", name := "fewest", desc := "(II)I" } : Jvm.MethodName) prog_1_method_16_code (4 : Nat) (Option.some Jvm.ClassFile.FieldType.int)) : Jvm.Cond) ∈ am_T := am_mem (am_c3 (List.mem_of_getElem? (i := 192) rfl)) rfl
theorem tw_673 : ((Jvm.Cond.methodLink "DawnTales" (219 : Nat) ({ cls := "DawnTales$Rows", name := "fewestPlace", desc := "(I)I" } : Jvm.MethodName)) : Jvm.Cond) ∈ am_T := am_mem (am_c3 (List.mem_of_getElem? (i := 193) rfl)) rfl
theorem tw_674 : ((Jvm.Cond.instanceMethod ({ cls := "DawnTales$Rows", name := "fewestPlace", desc := "(I)I" } : Jvm.MethodName)) : Jvm.Cond) ∈ am_T := am_mem (am_c3 (List.mem_of_getElem? (i := 194) rfl)) rfl
theorem tw_675 : ((Jvm.Cond.selects "DawnTales$Rows" ({ cls := "DawnTales$Rows", name := "fewestPlace", desc := "(I)I" } : Jvm.MethodName) ({ cls := "DawnTales$Rows", name := "fewestPlace", desc := "(I)I" } : Jvm.MethodName)) : Jvm.Cond) ∈ am_T := am_mem (am_c3 (List.mem_of_getElem? (i := 195) rfl)) rfl
theorem tw_676 : ((Jvm.Cond.code ({ cls := "DawnTales$Rows", name := "fewestPlace", desc := "(I)I" } : Jvm.MethodName) prog_7_method_14_code (3 : Nat) (Option.some Jvm.ClassFile.FieldType.int)) : Jvm.Cond) ∈ am_T := am_mem (am_c3 (List.mem_of_getElem? (i := 196) rfl)) rfl
theorem tw_677 : ((Jvm.Cond.methodLink "DawnTales" (222 : Nat) ({ cls := "DawnTales$Rows", name := "sizeAt", desc := "(I)I" } : Jvm.MethodName)) : Jvm.Cond) ∈ am_T := am_mem (am_c3 (List.mem_of_getElem? (i := 197) rfl)) rfl
theorem tw_678 : ((Jvm.Cond.instanceMethod ({ cls := "DawnTales$Rows", name := "sizeAt", desc := "(I)I" } : Jvm.MethodName)) : Jvm.Cond) ∈ am_T := am_mem (am_c3 (List.mem_of_getElem? (i := 198) rfl)) rfl
theorem tw_679 : ((Jvm.Cond.selects "DawnTales$Rows" ({ cls := "DawnTales$Rows", name := "sizeAt", desc := "(I)I" } : Jvm.MethodName) ({ cls := "DawnTales$Rows", name := "sizeAt", desc := "(I)I" } : Jvm.MethodName)) : Jvm.Cond) ∈ am_T := am_mem (am_c3 (List.mem_of_getElem? (i := 199) rfl)) rfl
theorem tw_680 : ((Jvm.Cond.code ({ cls := "DawnTales$Rows", name := "sizeAt", desc := "(I)I" } : Jvm.MethodName) prog_7_method_20_code (2 : Nat) (Option.some Jvm.ClassFile.FieldType.int)) : Jvm.Cond) ∈ am_T := am_mem (am_c3 (List.mem_of_getElem? (i := 200) rfl)) rfl
theorem tw_681 : ((Jvm.Cond.methodLink "DawnTales$Rows" (173 : Nat) ({ cls := "DawnTales$Rows", name := "rowAt", desc := "(I)I" } : Jvm.MethodName)) : Jvm.Cond) ∈ am_T := am_mem (am_c3 (List.mem_of_getElem? (i := 201) rfl)) rfl
theorem tw_682 : ((Jvm.Cond.methodLink "DawnTales$Rows" (179 : Nat) ({ cls := "java/lang/Integer", name := "bitCount", desc := "(I)I" } : Jvm.MethodName)) : Jvm.Cond) ∈ am_T := am_mem (am_c3 (List.mem_of_getElem? (i := 202) rfl)) rfl
theorem tw_683 : ((Jvm.Cond.static ({ cls := "java/lang/Integer", name := "bitCount", desc := "(I)I" } : Jvm.MethodName)) : Jvm.Cond) ∈ am_T := am_mem (am_c3 (List.mem_of_getElem? (i := 203) rfl)) rfl
theorem tw_684 : ((Jvm.Cond.code ({ cls := "java/lang/Integer", name := "bitCount", desc := "(I)I" } : Jvm.MethodName) prog_15_method_49_code (1 : Nat) (Option.some Jvm.ClassFile.FieldType.int)) : Jvm.Cond) ∈ am_T := am_mem (am_c3 (List.mem_of_getElem? (i := 204) rfl)) rfl
theorem tw_685 : ((Jvm.Cond.constant "java/lang/Integer" (265 : Nat) (1431655765 : Int32)) : Jvm.Cond) ∈ am_T := am_mem (am_c3 (List.mem_of_getElem? (i := 205) rfl)) rfl
theorem tw_686 : ((Jvm.Cond.constant "java/lang/Integer" (266 : Nat) (858993459 : Int32)) : Jvm.Cond) ∈ am_T := am_mem (am_c3 (List.mem_of_getElem? (i := 206) rfl)) rfl
theorem tw_687 : ((Jvm.Cond.constant "java/lang/Integer" (267 : Nat) (252645135 : Int32)) : Jvm.Cond) ∈ am_T := am_mem (am_c3 (List.mem_of_getElem? (i := 207) rfl)) rfl
theorem tw_688 : ((Jvm.Cond.methodLink "DawnTalesLaw" (76 : Nat) ({ cls := "DawnTales", name := "mind", desc := "(II)I" } : Jvm.MethodName)) : Jvm.Cond) ∈ am_T := am_mem (am_c3 (List.mem_of_getElem? (i := 208) rfl)) rfl
theorem tw_689 : ((Jvm.Cond.instanceMethod ({ cls := "DawnTales", name := "mind", desc := "(II)I" } : Jvm.MethodName)) : Jvm.Cond) ∈ am_T := am_mem (am_c3 (List.mem_of_getElem? (i := 209) rfl)) rfl
theorem tw_690 : ((Jvm.Cond.selects "DawnTales" ({ cls := "DawnTales", name := "mind", desc := "(II)I" } : Jvm.MethodName) ({ cls := "DawnTales", name := "mind", desc := "(II)I" } : Jvm.MethodName)) : Jvm.Cond) ∈ am_T := am_mem (am_c3 (List.mem_of_getElem? (i := 210) rfl)) rfl
theorem tw_691 : ((Jvm.Cond.code ({ cls := "DawnTales", name := "mind", desc := "(II)I" } : Jvm.MethodName) prog_1_method_17_code (4 : Nat) (Option.some Jvm.ClassFile.FieldType.int)) : Jvm.Cond) ∈ am_T := am_mem (am_c3 (List.mem_of_getElem? (i := 211) rfl)) rfl
theorem tw_692 : ((Jvm.Cond.methodLink "DawnTales" (225 : Nat) ({ cls := "DawnTales", name := "isDawn", desc := "(I)Z" } : Jvm.MethodName)) : Jvm.Cond) ∈ am_T := am_mem (am_c3 (List.mem_of_getElem? (i := 212) rfl)) rfl
theorem tw_693 : ((Jvm.Cond.static ({ cls := "DawnTales", name := "isDawn", desc := "(I)Z" } : Jvm.MethodName)) : Jvm.Cond) ∈ am_T := am_mem (am_c3 (List.mem_of_getElem? (i := 213) rfl)) rfl
theorem tw_694 : ((Jvm.Cond.code ({ cls := "DawnTales", name := "isDawn", desc := "(I)Z" } : Jvm.MethodName) prog_1_method_32_code (1 : Nat) (Option.some Jvm.ClassFile.FieldType.boolean)) : Jvm.Cond) ∈ am_T := am_mem (am_c3 (List.mem_of_getElem? (i := 214) rfl)) rfl
theorem tw_695 : ((Jvm.Cond.methodLink "DawnTales" (228 : Nat) ({ cls := "DawnTales$Rows", name := "mindPlace", desc := "(I)I" } : Jvm.MethodName)) : Jvm.Cond) ∈ am_T := am_mem (am_c3 (List.mem_of_getElem? (i := 215) rfl)) rfl
theorem tw_696 : ((Jvm.Cond.instanceMethod ({ cls := "DawnTales$Rows", name := "mindPlace", desc := "(I)I" } : Jvm.MethodName)) : Jvm.Cond) ∈ am_T := am_mem (am_c3 (List.mem_of_getElem? (i := 216) rfl)) rfl
theorem tw_697 : ((Jvm.Cond.selects "DawnTales$Rows" ({ cls := "DawnTales$Rows", name := "mindPlace", desc := "(I)I" } : Jvm.MethodName) ({ cls := "DawnTales$Rows", name := "mindPlace", desc := "(I)I" } : Jvm.MethodName)) : Jvm.Cond) ∈ am_T := am_mem (am_c3 (List.mem_of_getElem? (i := 217) rfl)) rfl
theorem tw_698 : ((Jvm.Cond.code ({ cls := "DawnTales$Rows", name := "mindPlace", desc := "(I)I" } : Jvm.MethodName) prog_7_method_15_code (5 : Nat) (Option.some Jvm.ClassFile.FieldType.int)) : Jvm.Cond) ∈ am_T := am_mem (am_c3 (List.mem_of_getElem? (i := 218) rfl)) rfl
theorem tw_699 : ((Jvm.Cond.methodLink "DawnTales$Rows" (170 : Nat) ({ cls := "DawnTales$Rows", name := "mostOpen", desc := "(II)I" } : Jvm.MethodName)) : Jvm.Cond) ∈ am_T := am_mem (am_c3 (List.mem_of_getElem? (i := 219) rfl)) rfl
theorem tw_700 : ((Jvm.Cond.instanceMethod ({ cls := "DawnTales$Rows", name := "mostOpen", desc := "(II)I" } : Jvm.MethodName)) : Jvm.Cond) ∈ am_T := am_mem (am_c3 (List.mem_of_getElem? (i := 220) rfl)) rfl
theorem tw_701 : ((Jvm.Cond.selects "DawnTales$Rows" ({ cls := "DawnTales$Rows", name := "mostOpen", desc := "(II)I" } : Jvm.MethodName) ({ cls := "DawnTales$Rows", name := "mostOpen", desc := "(II)I" } : Jvm.MethodName)) : Jvm.Cond) ∈ am_T := am_mem (am_c3 (List.mem_of_getElem? (i := 221) rfl)) rfl
theorem tw_702 : ((Jvm.Cond.code ({ cls := "DawnTales$Rows", name := "mostOpen", desc := "(II)I" } : Jvm.MethodName) prog_7_method_17_code (5 : Nat) (Option.some Jvm.ClassFile.FieldType.int)) : Jvm.Cond) ∈ am_T := am_mem (am_c3 (List.mem_of_getElem? (i := 222) rfl)) rfl
theorem tw_703 : ((Jvm.Cond.methodLink "DawnTales$Rows" (176 : Nat) ({ cls := "DawnTales$Rows", name := "openAt", desc := "(II)I" } : Jvm.MethodName)) : Jvm.Cond) ∈ am_T := am_mem (am_c3 (List.mem_of_getElem? (i := 223) rfl)) rfl
theorem tw_704 : ((Jvm.Cond.instanceMethod ({ cls := "DawnTales$Rows", name := "openAt", desc := "(II)I" } : Jvm.MethodName)) : Jvm.Cond) ∈ am_T := am_mem (am_c3 (List.mem_of_getElem? (i := 224) rfl)) rfl
theorem tw_705 : ((Jvm.Cond.selects "DawnTales$Rows" ({ cls := "DawnTales$Rows", name := "openAt", desc := "(II)I" } : Jvm.MethodName) ({ cls := "DawnTales$Rows", name := "openAt", desc := "(II)I" } : Jvm.MethodName)) : Jvm.Cond) ∈ am_T := am_mem (am_c3 (List.mem_of_getElem? (i := 225) rfl)) rfl
theorem tw_706 : ((Jvm.Cond.code ({ cls := "DawnTales$Rows", name := "openAt", desc := "(II)I" } : Jvm.MethodName) prog_7_method_21_code (4 : Nat) (Option.some Jvm.ClassFile.FieldType.int)) : Jvm.Cond) ∈ am_T := am_mem (am_c3 (List.mem_of_getElem? (i := 226) rfl)) rfl
theorem tw_707 : ((Jvm.Cond.methodLink "DawnTales$Rows" (184 : Nat) ({ cls := "java/lang/Math", name := "max", desc := "(II)I" } : Jvm.MethodName)) : Jvm.Cond) ∈ am_T := am_mem (am_c3 (List.mem_of_getElem? (i := 227) rfl)) rfl
theorem tw_708 : ((Jvm.Cond.methodLink "DawnTales" (231 : Nat) ({ cls := "DawnTales$Rows", name := "mostOpen", desc := "(II)I" } : Jvm.MethodName)) : Jvm.Cond) ∈ am_T := am_mem (am_c3 (List.mem_of_getElem? (i := 228) rfl)) rfl
theorem tw_709 : ((Jvm.Cond.methodLink "DawnTalesLaw" (80 : Nat) ({ cls := "DawnTales", name := "bars", desc := "(I)I" } : Jvm.MethodName)) : Jvm.Cond) ∈ am_T := am_mem (am_c3 (List.mem_of_getElem? (i := 229) rfl)) rfl
theorem tw_710 : ((Jvm.Cond.instanceMethod ({ cls := "DawnTales", name := "bars", desc := "(I)I" } : Jvm.MethodName)) : Jvm.Cond) ∈ am_T := am_mem (am_c3 (List.mem_of_getElem? (i := 230) rfl)) rfl
theorem tw_711 : ((Jvm.Cond.selects "DawnTales" ({ cls := "DawnTales", name := "bars", desc := "(I)I" } : Jvm.MethodName) ({ cls := "DawnTales", name := "bars", desc := "(I)I" } : Jvm.MethodName)) : Jvm.Cond) ∈ am_T := am_mem (am_c3 (List.mem_of_getElem? (i := 231) rfl)) rfl
theorem tw_712 : ((Jvm.Cond.code ({ cls := "DawnTales", name := "bars", desc := "(I)I" } : Jvm.MethodName) prog_1_method_18_code (2 : Nat) (Option.some Jvm.ClassFile.FieldType.int)) : Jvm.Cond) ∈ am_T := am_mem (am_c3 (List.mem_of_getElem? (i := 232) rfl)) rfl
theorem tw_713 : ((Jvm.Cond.methodLink "DawnTales" (235 : Nat) ({ cls := "DawnTales$Rows", name := "inAllThatReach", desc := "(I)I" } : Jvm.MethodName)) : Jvm.Cond) ∈ am_T := am_mem (am_c3 (List.mem_of_getElem? (i := 233) rfl)) rfl
theorem tw_714 : ((Jvm.Cond.instanceMethod ({ cls := "DawnTales$Rows", name := "inAllThatReach", desc := "(I)I" } : Jvm.MethodName)) : Jvm.Cond) ∈ am_T := am_mem (am_c3 (List.mem_of_getElem? (i := 234) rfl)) rfl
theorem tw_715 : ((Jvm.Cond.selects "DawnTales$Rows" ({ cls := "DawnTales$Rows", name := "inAllThatReach", desc := "(I)I" } : Jvm.MethodName) ({ cls := "DawnTales$Rows", name := "inAllThatReach", desc := "(I)I" } : Jvm.MethodName)) : Jvm.Cond) ∈ am_T := am_mem (am_c3 (List.mem_of_getElem? (i := 235) rfl)) rfl
theorem tw_716 : ((Jvm.Cond.code ({ cls := "DawnTales$Rows", name := "inAllThatReach", desc := "(I)I" } : Jvm.MethodName) prog_7_method_16_code (5 : Nat) (Option.some Jvm.ClassFile.FieldType.int)) : Jvm.Cond) ∈ am_T := am_mem (am_c3 (List.mem_of_getElem? (i := 236) rfl)) rfl
theorem tw_717 : ((Jvm.Cond.methodLink "DawnTales" (238 : Nat) ({ cls := "DawnTales", name := "firstOf", desc := "(I)I" } : Jvm.MethodName)) : Jvm.Cond) ∈ am_T := am_mem (am_c3 (List.mem_of_getElem? (i := 237) rfl)) rfl
theorem tw_718 : ((Jvm.Cond.static ({ cls := "DawnTales", name := "firstOf", desc := "(I)I" } : Jvm.MethodName)) : Jvm.Cond) ∈ am_T := am_mem (am_c3 (List.mem_of_getElem? (i := 238) rfl)) rfl
theorem tw_719 : ((Jvm.Cond.code ({ cls := "DawnTales", name := "firstOf", desc := "(I)I" } : Jvm.MethodName) prog_1_method_35_code (2 : Nat) (Option.some Jvm.ClassFile.FieldType.int)) : Jvm.Cond) ∈ am_T := am_mem (am_c3 (List.mem_of_getElem? (i := 239) rfl)) rfl
theorem tw_720 : ((Jvm.Cond.methodLink "DawnTalesLaw" (84 : Nat) ({ cls := "DawnTales", name := "longer", desc := "()I" } : Jvm.MethodName)) : Jvm.Cond) ∈ am_T := am_mem (am_c4 (List.mem_of_getElem? (i := 0) rfl)) rfl
theorem tw_721 : ((Jvm.Cond.instanceMethod ({ cls := "DawnTales", name := "longer", desc := "()I" } : Jvm.MethodName)) : Jvm.Cond) ∈ am_T := am_mem (am_c4 (List.mem_of_getElem? (i := 1) rfl)) rfl
theorem tw_722 : ((Jvm.Cond.selects "DawnTales" ({ cls := "DawnTales", name := "longer", desc := "()I" } : Jvm.MethodName) ({ cls := "DawnTales", name := "longer", desc := "()I" } : Jvm.MethodName)) : Jvm.Cond) ∈ am_T := am_mem (am_c4 (List.mem_of_getElem? (i := 2) rfl)) rfl
theorem tw_723 : ((Jvm.Cond.code ({ cls := "DawnTales", name := "longer", desc := "()I" } : Jvm.MethodName) prog_1_method_19_code (2 : Nat) (Option.some Jvm.ClassFile.FieldType.int)) : Jvm.Cond) ∈ am_T := am_mem (am_c4 (List.mem_of_getElem? (i := 3) rfl)) rfl
theorem tw_724 : ((Jvm.Cond.methodLink "DawnTales" (241 : Nat) ({ cls := "DawnTales$Rows", name := "bestIfLonger", desc := "(LDawnTales$Book;)I" } : Jvm.MethodName)) : Jvm.Cond) ∈ am_T := am_mem (am_c4 (List.mem_of_getElem? (i := 4) rfl)) rfl
theorem tw_725 : ((Jvm.Cond.instanceMethod ({ cls := "DawnTales$Rows", name := "bestIfLonger", desc := "(LDawnTales$Book;)I" } : Jvm.MethodName)) : Jvm.Cond) ∈ am_T := am_mem (am_c4 (List.mem_of_getElem? (i := 5) rfl)) rfl
theorem tw_726 : ((Jvm.Cond.selects "DawnTales$Rows" ({ cls := "DawnTales$Rows", name := "bestIfLonger", desc := "(LDawnTales$Book;)I" } : Jvm.MethodName) ({ cls := "DawnTales$Rows", name := "bestIfLonger", desc := "(LDawnTales$Book;)I" } : Jvm.MethodName)) : Jvm.Cond) ∈ am_T := am_mem (am_c4 (List.mem_of_getElem? (i := 6) rfl)) rfl
theorem tw_727 : ((Jvm.Cond.code ({ cls := "DawnTales$Rows", name := "bestIfLonger", desc := "(LDawnTales$Book;)I" } : Jvm.MethodName) prog_7_method_12_code (2 : Nat) (Option.some Jvm.ClassFile.FieldType.int)) : Jvm.Cond) ∈ am_T := am_mem (am_c4 (List.mem_of_getElem? (i := 7) rfl)) rfl
theorem tw_728 : ((Jvm.Cond.methodLink "DawnTales$Rows" (158 : Nat) ({ cls := "DawnTales$Book", name := "copyFrom", desc := "(LDawnTales$Book;)V" } : Jvm.MethodName)) : Jvm.Cond) ∈ am_T := am_mem (am_c4 (List.mem_of_getElem? (i := 8) rfl)) rfl
theorem tw_729 : ((Jvm.Cond.methodLink "DawnTales$Rows" (160 : Nat) ({ cls := "DawnTales$Book", name := "lengthenNights", desc := "()V" } : Jvm.MethodName)) : Jvm.Cond) ∈ am_T := am_mem (am_c4 (List.mem_of_getElem? (i := 9) rfl)) rfl
theorem tw_730 : ((Jvm.Cond.instanceMethod ({ cls := "DawnTales$Book", name := "lengthenNights", desc := "()V" } : Jvm.MethodName)) : Jvm.Cond) ∈ am_T := am_mem (am_c4 (List.mem_of_getElem? (i := 10) rfl)) rfl
theorem tw_731 : ((Jvm.Cond.selects "DawnTales$Book" ({ cls := "DawnTales$Book", name := "lengthenNights", desc := "()V" } : Jvm.MethodName) ({ cls := "DawnTales$Book", name := "lengthenNights", desc := "()V" } : Jvm.MethodName)) : Jvm.Cond) ∈ am_T := am_mem (am_c4 (List.mem_of_getElem? (i := 11) rfl)) rfl
theorem tw_732 : ((Jvm.Cond.code ({ cls := "DawnTales$Book", name := "lengthenNights", desc := "()V" } : Jvm.MethodName) prog_2_method_5_code (2 : Nat) (Option.none : Option Jvm.ClassFile.FieldType)) : Jvm.Cond) ∈ am_T := am_mem (am_c4 (List.mem_of_getElem? (i := 12) rfl)) rfl
theorem tw_733 : ((Jvm.Cond.methodLink "DawnTales$Rows" (163 : Nat) ({ cls := "DawnTales$Rows", name := "bestPlace", desc := "()I" } : Jvm.MethodName)) : Jvm.Cond) ∈ am_T := am_mem (am_c4 (List.mem_of_getElem? (i := 13) rfl)) rfl
theorem tw_734 : ((Jvm.Cond.methodLink "DawnTalesLaw" (88 : Nat) ({ cls := "DawnTales", name := "heard", desc := "(II)I" } : Jvm.MethodName)) : Jvm.Cond) ∈ am_T := am_mem (am_c4 (List.mem_of_getElem? (i := 14) rfl)) rfl
theorem tw_735 : ((Jvm.Cond.instanceMethod ({ cls := "DawnTales", name := "heard", desc := "(II)I" } : Jvm.MethodName)) : Jvm.Cond) ∈ am_T := am_mem (am_c4 (List.mem_of_getElem? (i := 15) rfl)) rfl
theorem tw_736 : ((Jvm.Cond.selects "DawnTales" ({ cls := "DawnTales", name := "heard", desc := "(II)I" } : Jvm.MethodName) ({ cls := "DawnTales", name := "heard", desc := "(II)I" } : Jvm.MethodName)) : Jvm.Cond) ∈ am_T := am_mem (am_c4 (List.mem_of_getElem? (i := 16) rfl)) rfl
theorem tw_737 : ((Jvm.Cond.code ({ cls := "DawnTales", name := "heard", desc := "(II)I" } : Jvm.MethodName) prog_1_method_20_code (3 : Nat) (Option.some Jvm.ClassFile.FieldType.int)) : Jvm.Cond) ∈ am_T := am_mem (am_c4 (List.mem_of_getElem? (i := 17) rfl)) rfl
theorem tw_738 : ((Jvm.Cond.methodLink "DawnTalesLaw" (92 : Nat) ({ cls := "DawnTales", name := "forget", desc := "()I" } : Jvm.MethodName)) : Jvm.Cond) ∈ am_T := am_mem (am_c4 (List.mem_of_getElem? (i := 18) rfl)) rfl
theorem tw_739 : ((Jvm.Cond.instanceMethod ({ cls := "DawnTales", name := "forget", desc := "()I" } : Jvm.MethodName)) : Jvm.Cond) ∈ am_T := am_mem (am_c4 (List.mem_of_getElem? (i := 19) rfl)) rfl
theorem tw_740 : ((Jvm.Cond.selects "DawnTales" ({ cls := "DawnTales", name := "forget", desc := "()I" } : Jvm.MethodName) ({ cls := "DawnTales", name := "forget", desc := "()I" } : Jvm.MethodName)) : Jvm.Cond) ∈ am_T := am_mem (am_c4 (List.mem_of_getElem? (i := 20) rfl)) rfl
theorem tw_741 : ((Jvm.Cond.code ({ cls := "DawnTales", name := "forget", desc := "()I" } : Jvm.MethodName) prog_1_method_21_code (2 : Nat) (Option.some Jvm.ClassFile.FieldType.int)) : Jvm.Cond) ∈ am_T := am_mem (am_c4 (List.mem_of_getElem? (i := 21) rfl)) rfl
theorem tw_742 : ((Jvm.Cond.methodLink "DawnTalesLaw" (96 : Nat) ({ cls := "DawnTales", name := "orders", desc := "(I)I" } : Jvm.MethodName)) : Jvm.Cond) ∈ am_T := am_mem (am_c4 (List.mem_of_getElem? (i := 22) rfl)) rfl
theorem tw_743 : ((Jvm.Cond.instanceMethod ({ cls := "DawnTales", name := "orders", desc := "(I)I" } : Jvm.MethodName)) : Jvm.Cond) ∈ am_T := am_mem (am_c4 (List.mem_of_getElem? (i := 23) rfl)) rfl
theorem tw_744 : ((Jvm.Cond.selects "DawnTales" ({ cls := "DawnTales", name := "orders", desc := "(I)I" } : Jvm.MethodName) ({ cls := "DawnTales", name := "orders", desc := "(I)I" } : Jvm.MethodName)) : Jvm.Cond) ∈ am_T := am_mem (am_c4 (List.mem_of_getElem? (i := 24) rfl)) rfl
theorem tw_745 : ((Jvm.Cond.code ({ cls := "DawnTales", name := "orders", desc := "(I)I" } : Jvm.MethodName) prog_1_method_22_code (5 : Nat) (Option.some Jvm.ClassFile.FieldType.int)) : Jvm.Cond) ∈ am_T := am_mem (am_c4 (List.mem_of_getElem? (i := 25) rfl)) rfl
theorem tw_746 : ((Jvm.Cond.methodLink "DawnTales" (253 : Nat) ({ cls := "DawnTales", name := "isAsHeard", desc := "(I)Z" } : Jvm.MethodName)) : Jvm.Cond) ∈ am_T := am_mem (am_c4 (List.mem_of_getElem? (i := 26) rfl)) rfl
theorem tw_748 : ((Jvm.Cond.instanceMethod ({ cls := "DawnTales", name := "isAsHeard", desc := "(I)Z" } : Jvm.MethodName)) : Jvm.Cond) ∈ am_T := am_mem (am_c4 (List.mem_of_getElem? (i := 28) rfl)) rfl
theorem tw_749 : ((Jvm.Cond.code ({ cls := "DawnTales", name := "isAsHeard", desc := "(I)Z" } : Jvm.MethodName) prog_1_method_31_code (4 : Nat) (Option.some Jvm.ClassFile.FieldType.boolean)) : Jvm.Cond) ∈ am_T := am_mem (am_c4 (List.mem_of_getElem? (i := 29) rfl)) rfl
theorem tw_750 : ((Jvm.Cond.methodLink "DawnTales" (256 : Nat) ({ cls := "DawnTales$Rows", name := "openAt", desc := "(II)I" } : Jvm.MethodName)) : Jvm.Cond) ∈ am_T := am_mem (am_c4 (List.mem_of_getElem? (i := 30) rfl)) rfl
theorem tw_751 : ((Jvm.Cond.methodLink "DawnTales" (302 : Nat) ({ cls := "java/lang/Integer", name := "bitCount", desc := "(I)I" } : Jvm.MethodName)) : Jvm.Cond) ∈ am_T := am_mem (am_c4 (List.mem_of_getElem? (i := 31) rfl)) rfl
theorem tw_752 : ((Jvm.Cond.methodLink "DawnTalesLaw" (100 : Nat) ({ cls := "DawnTales", name := "surely", desc := "(I)I" } : Jvm.MethodName)) : Jvm.Cond) ∈ am_T := am_mem (am_c4 (List.mem_of_getElem? (i := 32) rfl)) rfl
theorem tw_753 : ((Jvm.Cond.instanceMethod ({ cls := "DawnTales", name := "surely", desc := "(I)I" } : Jvm.MethodName)) : Jvm.Cond) ∈ am_T := am_mem (am_c4 (List.mem_of_getElem? (i := 33) rfl)) rfl
theorem tw_754 : ((Jvm.Cond.selects "DawnTales" ({ cls := "DawnTales", name := "surely", desc := "(I)I" } : Jvm.MethodName) ({ cls := "DawnTales", name := "surely", desc := "(I)I" } : Jvm.MethodName)) : Jvm.Cond) ∈ am_T := am_mem (am_c4 (List.mem_of_getElem? (i := 34) rfl)) rfl
theorem tw_755 : ((Jvm.Cond.code ({ cls := "DawnTales", name := "surely", desc := "(I)I" } : Jvm.MethodName) prog_1_method_23_code (5 : Nat) (Option.some Jvm.ClassFile.FieldType.int)) : Jvm.Cond) ∈ am_T := am_mem (am_c4 (List.mem_of_getElem? (i := 35) rfl)) rfl
theorem tw_756 : ((Jvm.Cond.methodLink "DawnTalesLaw" (104 : Nat) ({ cls := "DawnTales", name := "odds", desc := "(III)J" } : Jvm.MethodName)) : Jvm.Cond) ∈ am_T := am_mem (am_c4 (List.mem_of_getElem? (i := 36) rfl)) rfl
theorem tw_757 : ((Jvm.Cond.instanceMethod ({ cls := "DawnTales", name := "odds", desc := "(III)J" } : Jvm.MethodName)) : Jvm.Cond) ∈ am_T := am_mem (am_c4 (List.mem_of_getElem? (i := 37) rfl)) rfl
theorem tw_758 : ((Jvm.Cond.selects "DawnTales" ({ cls := "DawnTales", name := "odds", desc := "(III)J" } : Jvm.MethodName) ({ cls := "DawnTales", name := "odds", desc := "(III)J" } : Jvm.MethodName)) : Jvm.Cond) ∈ am_T := am_mem (am_c4 (List.mem_of_getElem? (i := 38) rfl)) rfl
theorem tw_759 : ((Jvm.Cond.code ({ cls := "DawnTales", name := "odds", desc := "(III)J" } : Jvm.MethodName) prog_1_method_24_code (9 : Nat) (Option.some Jvm.ClassFile.FieldType.long)) : Jvm.Cond) ∈ am_T := am_mem (am_c4 (List.mem_of_getElem? (i := 39) rfl)) rfl
theorem tw_760 : ((Jvm.Cond.constantLong "DawnTales" (259 : Nat) (-1 : Int64)) : Jvm.Cond) ∈ am_T := am_mem (am_c4 (List.mem_of_getElem? (i := 40) rfl)) rfl
theorem tw_761 : ((Jvm.Cond.methodLink "DawnTales" (261 : Nat) ({ cls := "DawnTales", name := "commonDivisor", desc := "(II)I" } : Jvm.MethodName)) : Jvm.Cond) ∈ am_T := am_mem (am_c4 (List.mem_of_getElem? (i := 41) rfl)) rfl
theorem tw_762 : ((Jvm.Cond.static ({ cls := "DawnTales", name := "commonDivisor", desc := "(II)I" } : Jvm.MethodName)) : Jvm.Cond) ∈ am_T := am_mem (am_c4 (List.mem_of_getElem? (i := 42) rfl)) rfl
theorem tw_763 : ((Jvm.Cond.code ({ cls := "DawnTales", name := "commonDivisor", desc := "(II)I" } : Jvm.MethodName) prog_1_method_36_code (6 : Nat) (Option.some Jvm.ClassFile.FieldType.int)) : Jvm.Cond) ∈ am_T := am_mem (am_c4 (List.mem_of_getElem? (i := 43) rfl)) rfl
theorem tw_764 : ((Jvm.Cond.methodLink "DawnTales" (264 : Nat) ({ cls := "java/lang/Math", name := "max", desc := "(II)I" } : Jvm.MethodName)) : Jvm.Cond) ∈ am_T := am_mem (am_c4 (List.mem_of_getElem? (i := 44) rfl)) rfl
theorem tw_765 : ((Jvm.Cond.methodLink "DawnTalesLaw" (109 : Nat) ({ cls := "DawnTales", name := "mark", desc := "(II)I" } : Jvm.MethodName)) : Jvm.Cond) ∈ am_T := am_mem (am_c4 (List.mem_of_getElem? (i := 45) rfl)) rfl
theorem tw_766 : ((Jvm.Cond.instanceMethod ({ cls := "DawnTales", name := "mark", desc := "(II)I" } : Jvm.MethodName)) : Jvm.Cond) ∈ am_T := am_mem (am_c4 (List.mem_of_getElem? (i := 46) rfl)) rfl
theorem tw_767 : ((Jvm.Cond.selects "DawnTales" ({ cls := "DawnTales", name := "mark", desc := "(II)I" } : Jvm.MethodName) ({ cls := "DawnTales", name := "mark", desc := "(II)I" } : Jvm.MethodName)) : Jvm.Cond) ∈ am_T := am_mem (am_c4 (List.mem_of_getElem? (i := 47) rfl)) rfl
theorem tw_768 : ((Jvm.Cond.code ({ cls := "DawnTales", name := "mark", desc := "(II)I" } : Jvm.MethodName) prog_1_method_25_code (3 : Nat) (Option.some Jvm.ClassFile.FieldType.int)) : Jvm.Cond) ∈ am_T := am_mem (am_c4 (List.mem_of_getElem? (i := 48) rfl)) rfl
theorem tw_769 : ((Jvm.Cond.constant "DawnTales" (269 : Nat) (-1000000 : Int32)) : Jvm.Cond) ∈ am_T := am_mem (am_c4 (List.mem_of_getElem? (i := 49) rfl)) rfl
theorem tw_770 : ((Jvm.Cond.methodLink "DawnTales" (270 : Nat) ({ cls := "DawnTales$TaleKind", name := "marked", desc := "(LDawnTales$Book;LDawnTales$Telling;I)I" } : Jvm.MethodName)) : Jvm.Cond) ∈ am_T := am_mem (am_c4 (List.mem_of_getElem? (i := 50) rfl)) rfl
theorem tw_771 : ((Jvm.Cond.instanceMethod ({ cls := "DawnTales$TaleKind", name := "marked", desc := "(LDawnTales$Book;LDawnTales$Telling;I)I" } : Jvm.MethodName)) : Jvm.Cond) ∈ am_T := am_mem (am_c4 (List.mem_of_getElem? (i := 51) rfl)) rfl
theorem tw_772 : ((Jvm.Cond.selects "DawnTales$TaleKind" ({ cls := "DawnTales$TaleKind", name := "marked", desc := "(LDawnTales$Book;LDawnTales$Telling;I)I" } : Jvm.MethodName) ({ cls := "DawnTales$TaleKind", name := "marked", desc := "(LDawnTales$Book;LDawnTales$Telling;I)I" } : Jvm.MethodName)) : Jvm.Cond) ∈ am_T := am_mem (am_c4 (List.mem_of_getElem? (i := 52) rfl)) rfl
theorem tw_773 : ((Jvm.Cond.sameMethod "DawnTales$TaleKind" "DawnTales$TaleKind" "marked" "(LDawnTales$Book;LDawnTales$Telling;I)I") : Jvm.Cond) ∈ am_T := am_mem (am_c4 (List.mem_of_getElem? (i := 53) rfl)) rfl
theorem tw_774 : ((Jvm.Cond.selects "DawnTales$BorrowedKind" ({ cls := "DawnTales$TaleKind", name := "marked", desc := "(LDawnTales$Book;LDawnTales$Telling;I)I" } : Jvm.MethodName) ({ cls := "DawnTales$BorrowedKind", name := "marked", desc := "(LDawnTales$Book;LDawnTales$Telling;I)I" } : Jvm.MethodName)) : Jvm.Cond) ∈ am_T := am_mem (am_c4 (List.mem_of_getElem? (i := 54) rfl)) rfl
theorem tw_775 : ((Jvm.Cond.instanceMethod ({ cls := "DawnTales$BorrowedKind", name := "marked", desc := "(LDawnTales$Book;LDawnTales$Telling;I)I" } : Jvm.MethodName)) : Jvm.Cond) ∈ am_T := am_mem (am_c4 (List.mem_of_getElem? (i := 55) rfl)) rfl
theorem tw_776 : ((Jvm.Cond.code ({ cls := "DawnTales$BorrowedKind", name := "marked", desc := "(LDawnTales$Book;LDawnTales$Telling;I)I" } : Jvm.MethodName) prog_3_method_2_code (4 : Nat) (Option.some Jvm.ClassFile.FieldType.int)) : Jvm.Cond) ∈ am_T := am_mem (am_c4 (List.mem_of_getElem? (i := 56) rfl)) rfl
theorem tw_777 : ((Jvm.Cond.constantLong "DawnTales$BorrowedKind" (13 : Nat) (10 : Int64)) : Jvm.Cond) ∈ am_T := am_mem (am_c4 (List.mem_of_getElem? (i := 57) rfl)) rfl
theorem tw_778 : ((Jvm.Cond.methodLink "DawnTales$BorrowedKind" (15 : Nat) ({ cls := "DawnTales$TaleKind", name := "marked", desc := "(LDawnTales$Book;LDawnTales$Telling;I)I" } : Jvm.MethodName)) : Jvm.Cond) ∈ am_T := am_mem (am_c4 (List.mem_of_getElem? (i := 58) rfl)) rfl
theorem tw_779 : ((Jvm.Cond.methodLink "DawnTales$BorrowedKind" (19 : Nat) ({ cls := "DawnTales$Book", name := "partsOf", desc := "(I)I" } : Jvm.MethodName)) : Jvm.Cond) ∈ am_T := am_mem (am_c4 (List.mem_of_getElem? (i := 59) rfl)) rfl
theorem tw_780 : ((Jvm.Cond.selects "DawnTales$EndlessKind" ({ cls := "DawnTales$TaleKind", name := "marked", desc := "(LDawnTales$Book;LDawnTales$Telling;I)I" } : Jvm.MethodName) ({ cls := "DawnTales$EndlessKind", name := "marked", desc := "(LDawnTales$Book;LDawnTales$Telling;I)I" } : Jvm.MethodName)) : Jvm.Cond) ∈ am_T := am_mem (am_c4 (List.mem_of_getElem? (i := 60) rfl)) rfl
theorem tw_781 : ((Jvm.Cond.instanceMethod ({ cls := "DawnTales$EndlessKind", name := "marked", desc := "(LDawnTales$Book;LDawnTales$Telling;I)I" } : Jvm.MethodName)) : Jvm.Cond) ∈ am_T := am_mem (am_c4 (List.mem_of_getElem? (i := 61) rfl)) rfl
theorem tw_782 : ((Jvm.Cond.code ({ cls := "DawnTales$EndlessKind", name := "marked", desc := "(LDawnTales$Book;LDawnTales$Telling;I)I" } : Jvm.MethodName) prog_4_method_2_code (4 : Nat) (Option.some Jvm.ClassFile.FieldType.int)) : Jvm.Cond) ∈ am_T := am_mem (am_c4 (List.mem_of_getElem? (i := 62) rfl)) rfl
theorem tw_783 : ((Jvm.Cond.constantLong "DawnTales$EndlessKind" (13 : Nat) (10000 : Int64)) : Jvm.Cond) ∈ am_T := am_mem (am_c4 (List.mem_of_getElem? (i := 63) rfl)) rfl
theorem tw_784 : ((Jvm.Cond.methodLink "DawnTales$EndlessKind" (15 : Nat) ({ cls := "DawnTales$RingKind", name := "marked", desc := "(LDawnTales$Book;LDawnTales$Telling;I)I" } : Jvm.MethodName)) : Jvm.Cond) ∈ am_T := am_mem (am_c4 (List.mem_of_getElem? (i := 64) rfl)) rfl
theorem tw_785 : ((Jvm.Cond.instanceMethod ({ cls := "DawnTales$RingKind", name := "marked", desc := "(LDawnTales$Book;LDawnTales$Telling;I)I" } : Jvm.MethodName)) : Jvm.Cond) ∈ am_T := am_mem (am_c4 (List.mem_of_getElem? (i := 65) rfl)) rfl
theorem tw_786 : ((Jvm.Cond.code ({ cls := "DawnTales$RingKind", name := "marked", desc := "(LDawnTales$Book;LDawnTales$Telling;I)I" } : Jvm.MethodName) prog_6_method_2_code (4 : Nat) (Option.some Jvm.ClassFile.FieldType.int)) : Jvm.Cond) ∈ am_T := am_mem (am_c4 (List.mem_of_getElem? (i := 66) rfl)) rfl
theorem tw_787 : ((Jvm.Cond.constantLong "DawnTales$RingKind" (13 : Nat) (100 : Int64)) : Jvm.Cond) ∈ am_T := am_mem (am_c4 (List.mem_of_getElem? (i := 67) rfl)) rfl
theorem tw_788 : ((Jvm.Cond.methodLink "DawnTales$RingKind" (15 : Nat) ({ cls := "DawnTales$TaleKind", name := "marked", desc := "(LDawnTales$Book;LDawnTales$Telling;I)I" } : Jvm.MethodName)) : Jvm.Cond) ∈ am_T := am_mem (am_c4 (List.mem_of_getElem? (i := 68) rfl)) rfl
theorem tw_789 : ((Jvm.Cond.methodLink "DawnTales$RingKind" (19 : Nat) ({ cls := "DawnTales$Book", name := "toldWithin", desc := "(I)I" } : Jvm.MethodName)) : Jvm.Cond) ∈ am_T := am_mem (am_c4 (List.mem_of_getElem? (i := 69) rfl)) rfl
theorem tw_790 : ((Jvm.Cond.instanceMethod ({ cls := "DawnTales$Book", name := "toldWithin", desc := "(I)I" } : Jvm.MethodName)) : Jvm.Cond) ∈ am_T := am_mem (am_c4 (List.mem_of_getElem? (i := 70) rfl)) rfl
theorem tw_791 : ((Jvm.Cond.selects "DawnTales$Book" ({ cls := "DawnTales$Book", name := "toldWithin", desc := "(I)I" } : Jvm.MethodName) ({ cls := "DawnTales$Book", name := "toldWithin", desc := "(I)I" } : Jvm.MethodName)) : Jvm.Cond) ∈ am_T := am_mem (am_c4 (List.mem_of_getElem? (i := 71) rfl)) rfl
theorem tw_792 : ((Jvm.Cond.code ({ cls := "DawnTales$Book", name := "toldWithin", desc := "(I)I" } : Jvm.MethodName) prog_2_method_11_code (4 : Nat) (Option.some Jvm.ClassFile.FieldType.int)) : Jvm.Cond) ∈ am_T := am_mem (am_c4 (List.mem_of_getElem? (i := 72) rfl)) rfl
theorem tw_793 : ((Jvm.Cond.methodLink "DawnTales$Book" (54 : Nat) ({ cls := "DawnTales$Book", name := "withinOf", desc := "(I)I" } : Jvm.MethodName)) : Jvm.Cond) ∈ am_T := am_mem (am_c4 (List.mem_of_getElem? (i := 73) rfl)) rfl
theorem tw_794 : ((Jvm.Cond.selects "DawnTales$JokeKind" ({ cls := "DawnTales$TaleKind", name := "marked", desc := "(LDawnTales$Book;LDawnTales$Telling;I)I" } : Jvm.MethodName) ({ cls := "DawnTales$JokeKind", name := "marked", desc := "(LDawnTales$Book;LDawnTales$Telling;I)I" } : Jvm.MethodName)) : Jvm.Cond) ∈ am_T := am_mem (am_c4 (List.mem_of_getElem? (i := 74) rfl)) rfl
theorem tw_795 : ((Jvm.Cond.instanceMethod ({ cls := "DawnTales$JokeKind", name := "marked", desc := "(LDawnTales$Book;LDawnTales$Telling;I)I" } : Jvm.MethodName)) : Jvm.Cond) ∈ am_T := am_mem (am_c4 (List.mem_of_getElem? (i := 75) rfl)) rfl
theorem tw_796 : ((Jvm.Cond.code ({ cls := "DawnTales$JokeKind", name := "marked", desc := "(LDawnTales$Book;LDawnTales$Telling;I)I" } : Jvm.MethodName) prog_5_method_2_code (4 : Nat) (Option.some Jvm.ClassFile.FieldType.int)) : Jvm.Cond) ∈ am_T := am_mem (am_c4 (List.mem_of_getElem? (i := 76) rfl)) rfl
theorem tw_797 : ((Jvm.Cond.constantLong "DawnTales$JokeKind" (13 : Nat) (100000 : Int64)) : Jvm.Cond) ∈ am_T := am_mem (am_c4 (List.mem_of_getElem? (i := 77) rfl)) rfl
theorem tw_798 : ((Jvm.Cond.methodLink "DawnTales$JokeKind" (15 : Nat) ({ cls := "DawnTales$TaleKind", name := "marked", desc := "(LDawnTales$Book;LDawnTales$Telling;I)I" } : Jvm.MethodName)) : Jvm.Cond) ∈ am_T := am_mem (am_c4 (List.mem_of_getElem? (i := 78) rfl)) rfl
theorem tw_799 : ((Jvm.Cond.selects "DawnTales$RingKind" ({ cls := "DawnTales$TaleKind", name := "marked", desc := "(LDawnTales$Book;LDawnTales$Telling;I)I" } : Jvm.MethodName) ({ cls := "DawnTales$RingKind", name := "marked", desc := "(LDawnTales$Book;LDawnTales$Telling;I)I" } : Jvm.MethodName)) : Jvm.Cond) ∈ am_T := am_mem (am_c4 (List.mem_of_getElem? (i := 79) rfl)) rfl
theorem tw_800 : ((Jvm.Cond.selects "DawnTales$TrueKind" ({ cls := "DawnTales$TaleKind", name := "marked", desc := "(LDawnTales$Book;LDawnTales$Telling;I)I" } : Jvm.MethodName) ({ cls := "DawnTales$TrueKind", name := "marked", desc := "(LDawnTales$Book;LDawnTales$Telling;I)I" } : Jvm.MethodName)) : Jvm.Cond) ∈ am_T := am_mem (am_c4 (List.mem_of_getElem? (i := 80) rfl)) rfl
theorem tw_801 : ((Jvm.Cond.instanceMethod ({ cls := "DawnTales$TrueKind", name := "marked", desc := "(LDawnTales$Book;LDawnTales$Telling;I)I" } : Jvm.MethodName)) : Jvm.Cond) ∈ am_T := am_mem (am_c4 (List.mem_of_getElem? (i := 81) rfl)) rfl
theorem tw_802 : ((Jvm.Cond.code ({ cls := "DawnTales$TrueKind", name := "marked", desc := "(LDawnTales$Book;LDawnTales$Telling;I)I" } : Jvm.MethodName) prog_12_method_2_code (4 : Nat) (Option.some Jvm.ClassFile.FieldType.int)) : Jvm.Cond) ∈ am_T := am_mem (am_c4 (List.mem_of_getElem? (i := 82) rfl)) rfl
theorem tw_803 : ((Jvm.Cond.constantLong "DawnTales$TrueKind" (13 : Nat) (1000 : Int64)) : Jvm.Cond) ∈ am_T := am_mem (am_c4 (List.mem_of_getElem? (i := 83) rfl)) rfl
theorem tw_804 : ((Jvm.Cond.methodLink "DawnTales$TrueKind" (15 : Nat) ({ cls := "DawnTales$BorrowedKind", name := "marked", desc := "(LDawnTales$Book;LDawnTales$Telling;I)I" } : Jvm.MethodName)) : Jvm.Cond) ∈ am_T := am_mem (am_c4 (List.mem_of_getElem? (i := 84) rfl)) rfl
theorem tw_805 : ((Jvm.Cond.code ({ cls := "DawnTales$TaleKind", name := "marked", desc := "(LDawnTales$Book;LDawnTales$Telling;I)I" } : Jvm.MethodName) prog_9_method_2_code (4 : Nat) (Option.some Jvm.ClassFile.FieldType.int)) : Jvm.Cond) ∈ am_T := am_mem (am_c4 (List.mem_of_getElem? (i := 85) rfl)) rfl
theorem tw_806 : ((Jvm.Cond.methodLink "DawnTales$TaleKind" (13 : Nat) ({ cls := "DawnTales$Telling", name := "leftOf", desc := "(I)I" } : Jvm.MethodName)) : Jvm.Cond) ∈ am_T := am_mem (am_c4 (List.mem_of_getElem? (i := 86) rfl)) rfl
theorem tw_807 : ((Jvm.Cond.methodLink "DawnTalesLaw" (113 : Nat) ({ cls := "DawnTales", name := "keep", desc := "(I)I" } : Jvm.MethodName)) : Jvm.Cond) ∈ am_T := am_mem (am_c4 (List.mem_of_getElem? (i := 87) rfl)) rfl
theorem tw_808 : ((Jvm.Cond.instanceMethod ({ cls := "DawnTales", name := "keep", desc := "(I)I" } : Jvm.MethodName)) : Jvm.Cond) ∈ am_T := am_mem (am_c4 (List.mem_of_getElem? (i := 88) rfl)) rfl
theorem tw_809 : ((Jvm.Cond.selects "DawnTales" ({ cls := "DawnTales", name := "keep", desc := "(I)I" } : Jvm.MethodName) ({ cls := "DawnTales", name := "keep", desc := "(I)I" } : Jvm.MethodName)) : Jvm.Cond) ∈ am_T := am_mem (am_c4 (List.mem_of_getElem? (i := 89) rfl)) rfl
theorem tw_810 : ((Jvm.Cond.code ({ cls := "DawnTales", name := "keep", desc := "(I)I" } : Jvm.MethodName) prog_1_method_26_code (2 : Nat) (Option.some Jvm.ClassFile.FieldType.int)) : Jvm.Cond) ∈ am_T := am_mem (am_c4 (List.mem_of_getElem? (i := 90) rfl)) rfl
theorem tw_811 : ((Jvm.Cond.methodLink "DawnTales" (274 : Nat) ({ cls := "DawnTales", name := "isImage", desc := "(I)Z" } : Jvm.MethodName)) : Jvm.Cond) ∈ am_T := am_mem (am_c4 (List.mem_of_getElem? (i := 91) rfl)) rfl
theorem tw_812 : ((Jvm.Cond.static ({ cls := "DawnTales", name := "isImage", desc := "(I)Z" } : Jvm.MethodName)) : Jvm.Cond) ∈ am_T := am_mem (am_c4 (List.mem_of_getElem? (i := 92) rfl)) rfl
theorem tw_813 : ((Jvm.Cond.code ({ cls := "DawnTales", name := "isImage", desc := "(I)Z" } : Jvm.MethodName) prog_1_method_34_code (1 : Nat) (Option.some Jvm.ClassFile.FieldType.boolean)) : Jvm.Cond) ∈ am_T := am_mem (am_c4 (List.mem_of_getElem? (i := 93) rfl)) rfl
theorem tw_814 : ((Jvm.Cond.methodLink "DawnTales" (277 : Nat) ({ cls := "DawnTales$Stand", name := "copyFrom", desc := "(LDawnTales$Stand;)V" } : Jvm.MethodName)) : Jvm.Cond) ∈ am_T := am_mem (am_c4 (List.mem_of_getElem? (i := 94) rfl)) rfl
theorem tw_815 : ((Jvm.Cond.instanceMethod ({ cls := "DawnTales$Stand", name := "copyFrom", desc := "(LDawnTales$Stand;)V" } : Jvm.MethodName)) : Jvm.Cond) ∈ am_T := am_mem (am_c4 (List.mem_of_getElem? (i := 95) rfl)) rfl
theorem tw_816 : ((Jvm.Cond.selects "DawnTales$Stand" ({ cls := "DawnTales$Stand", name := "copyFrom", desc := "(LDawnTales$Stand;)V" } : Jvm.MethodName) ({ cls := "DawnTales$Stand", name := "copyFrom", desc := "(LDawnTales$Stand;)V" } : Jvm.MethodName)) : Jvm.Cond) ∈ am_T := am_mem (am_c4 (List.mem_of_getElem? (i := 96) rfl)) rfl
theorem tw_817 : ((Jvm.Cond.code ({ cls := "DawnTales$Stand", name := "copyFrom", desc := "(LDawnTales$Stand;)V" } : Jvm.MethodName) prog_8_method_3_code (3 : Nat) (Option.none : Option Jvm.ClassFile.FieldType)) : Jvm.Cond) ∈ am_T := am_mem (am_c4 (List.mem_of_getElem? (i := 97) rfl)) rfl
theorem tw_818 : ((Jvm.Cond.methodLink "DawnTalesLaw" (117 : Nat) ({ cls := "DawnTales", name := "back", desc := "(I)I" } : Jvm.MethodName)) : Jvm.Cond) ∈ am_T := am_mem (am_c4 (List.mem_of_getElem? (i := 98) rfl)) rfl
theorem tw_819 : ((Jvm.Cond.instanceMethod ({ cls := "DawnTales", name := "back", desc := "(I)I" } : Jvm.MethodName)) : Jvm.Cond) ∈ am_T := am_mem (am_c4 (List.mem_of_getElem? (i := 99) rfl)) rfl
theorem tw_820 : ((Jvm.Cond.selects "DawnTales" ({ cls := "DawnTales", name := "back", desc := "(I)I" } : Jvm.MethodName) ({ cls := "DawnTales", name := "back", desc := "(I)I" } : Jvm.MethodName)) : Jvm.Cond) ∈ am_T := am_mem (am_c4 (List.mem_of_getElem? (i := 100) rfl)) rfl
theorem tw_821 : ((Jvm.Cond.code ({ cls := "DawnTales", name := "back", desc := "(I)I" } : Jvm.MethodName) prog_1_method_27_code (2 : Nat) (Option.some Jvm.ClassFile.FieldType.int)) : Jvm.Cond) ∈ am_T := am_mem (am_c4 (List.mem_of_getElem? (i := 101) rfl)) rfl
theorem tw_822 : ((Jvm.Cond.methodLink "DawnTalesLaw" (121 : Nat) ({ cls := "DawnTales", name := "count", desc := "(I)I" } : Jvm.MethodName)) : Jvm.Cond) ∈ am_T := am_mem (am_c4 (List.mem_of_getElem? (i := 102) rfl)) rfl
theorem tw_823 : ((Jvm.Cond.instanceMethod ({ cls := "DawnTales", name := "count", desc := "(I)I" } : Jvm.MethodName)) : Jvm.Cond) ∈ am_T := am_mem (am_c4 (List.mem_of_getElem? (i := 103) rfl)) rfl
theorem tw_824 : ((Jvm.Cond.selects "DawnTales" ({ cls := "DawnTales", name := "count", desc := "(I)I" } : Jvm.MethodName) ({ cls := "DawnTales", name := "count", desc := "(I)I" } : Jvm.MethodName)) : Jvm.Cond) ∈ am_T := am_mem (am_c4 (List.mem_of_getElem? (i := 104) rfl)) rfl
theorem tw_825 : ((Jvm.Cond.code ({ cls := "DawnTales", name := "count", desc := "(I)I" } : Jvm.MethodName) prog_1_method_28_code (2 : Nat) (Option.some Jvm.ClassFile.FieldType.int)) : Jvm.Cond) ∈ am_T := am_mem (am_c4 (List.mem_of_getElem? (i := 105) rfl)) rfl
theorem tw_826 : ((Jvm.Cond.methodLink "DawnTalesLaw" (125 : Nat) ({ cls := "DawnTales", name := "trace", desc := "()J" } : Jvm.MethodName)) : Jvm.Cond) ∈ am_T := am_mem (am_c4 (List.mem_of_getElem? (i := 106) rfl)) rfl
theorem tw_827 : ((Jvm.Cond.instanceMethod ({ cls := "DawnTales", name := "trace", desc := "()J" } : Jvm.MethodName)) : Jvm.Cond) ∈ am_T := am_mem (am_c4 (List.mem_of_getElem? (i := 107) rfl)) rfl
theorem tw_828 : ((Jvm.Cond.selects "DawnTales" ({ cls := "DawnTales", name := "trace", desc := "()J" } : Jvm.MethodName) ({ cls := "DawnTales", name := "trace", desc := "()J" } : Jvm.MethodName)) : Jvm.Cond) ∈ am_T := am_mem (am_c4 (List.mem_of_getElem? (i := 108) rfl)) rfl
theorem tw_829 : ((Jvm.Cond.code ({ cls := "DawnTales", name := "trace", desc := "()J" } : Jvm.MethodName) prog_1_method_29_code (4 : Nat) (Option.some Jvm.ClassFile.FieldType.long)) : Jvm.Cond) ∈ am_T := am_mem (am_c4 (List.mem_of_getElem? (i := 109) rfl)) rfl
theorem tw_830 : ((Jvm.Cond.classLink "DawnTalesLaw" (10 : Nat) "DawnTalesModel") : Jvm.Cond) ∈ am_T := am_mem (am_c4 (List.mem_of_getElem? (i := 110) rfl)) rfl
theorem tw_831 : ((Jvm.Cond.instantiable "DawnTalesModel" (37 : Nat)) : Jvm.Cond) ∈ am_T := am_mem (am_c4 (List.mem_of_getElem? (i := 111) rfl)) rfl
theorem tw_832 : ((Jvm.Cond.methodLink "DawnTalesLaw" (12 : Nat) ({ cls := "DawnTalesModel", name := "<init>", desc := "()V" } : Jvm.MethodName)) : Jvm.Cond) ∈ am_T := am_mem (am_c4 (List.mem_of_getElem? (i := 112) rfl)) rfl
theorem tw_833 : ((Jvm.Cond.instanceMethod ({ cls := "DawnTalesModel", name := "<init>", desc := "()V" } : Jvm.MethodName)) : Jvm.Cond) ∈ am_T := am_mem (am_c4 (List.mem_of_getElem? (i := 113) rfl)) rfl
theorem tw_834 : ((Jvm.Cond.code ({ cls := "DawnTalesModel", name := "<init>", desc := "()V" } : Jvm.MethodName) prog_14_method_3_code (1 : Nat) (Option.none : Option Jvm.ClassFile.FieldType)) : Jvm.Cond) ∈ am_T := am_mem (am_c4 (List.mem_of_getElem? (i := 114) rfl)) rfl
theorem tw_835 : ((Jvm.Cond.methodLink "DawnTalesModel" (1 : Nat) ({ cls := "java/lang/Object", name := "<init>", desc := "()V" } : Jvm.MethodName)) : Jvm.Cond) ∈ am_T := am_mem (am_c4 (List.mem_of_getElem? (i := 115) rfl)) rfl
theorem tw_836 : ((Jvm.Cond.methodLink "DawnTalesModel" (58 : Nat) ({ cls := "DawnTalesModel", name := "plain", desc := "()V" } : Jvm.MethodName)) : Jvm.Cond) ∈ am_T := am_mem (am_c4 (List.mem_of_getElem? (i := 116) rfl)) rfl
theorem tw_838 : ((Jvm.Cond.instanceMethod ({ cls := "DawnTalesModel", name := "plain", desc := "()V" } : Jvm.MethodName)) : Jvm.Cond) ∈ am_T := am_mem (am_c4 (List.mem_of_getElem? (i := 118) rfl)) rfl
theorem tw_839 : ((Jvm.Cond.code ({ cls := "DawnTalesModel", name := "plain", desc := "()V" } : Jvm.MethodName) prog_14_method_17_code (1 : Nat) (Option.none : Option Jvm.ClassFile.FieldType)) : Jvm.Cond) ∈ am_T := am_mem (am_c4 (List.mem_of_getElem? (i := 119) rfl)) rfl
theorem tw_840 : ((Jvm.Cond.methodLink "DawnTalesModel" (134 : Nat) ({ cls := "DawnTalesModel", name := "takes", desc := "()V" } : Jvm.MethodName)) : Jvm.Cond) ∈ am_T := am_mem (am_c4 (List.mem_of_getElem? (i := 120) rfl)) rfl
theorem tw_842 : ((Jvm.Cond.instanceMethod ({ cls := "DawnTalesModel", name := "takes", desc := "()V" } : Jvm.MethodName)) : Jvm.Cond) ∈ am_T := am_mem (am_c4 (List.mem_of_getElem? (i := 122) rfl)) rfl
theorem tw_843 : ((Jvm.Cond.code ({ cls := "DawnTalesModel", name := "takes", desc := "()V" } : Jvm.MethodName) prog_14_method_16_code (2 : Nat) (Option.none : Option Jvm.ClassFile.FieldType)) : Jvm.Cond) ∈ am_T := am_mem (am_c4 (List.mem_of_getElem? (i := 123) rfl)) rfl
theorem tw_844 : ((Jvm.Cond.methodLink "DawnTalesModel" (149 : Nat) ({ cls := "DawnTalesModel", name := "beginsAnew", desc := "()V" } : Jvm.MethodName)) : Jvm.Cond) ∈ am_T := am_mem (am_c4 (List.mem_of_getElem? (i := 124) rfl)) rfl
theorem tw_846 : ((Jvm.Cond.instanceMethod ({ cls := "DawnTalesModel", name := "beginsAnew", desc := "()V" } : Jvm.MethodName)) : Jvm.Cond) ∈ am_T := am_mem (am_c4 (List.mem_of_getElem? (i := 126) rfl)) rfl
theorem tw_847 : ((Jvm.Cond.code ({ cls := "DawnTalesModel", name := "beginsAnew", desc := "()V" } : Jvm.MethodName) prog_14_method_20_code (2 : Nat) (Option.none : Option Jvm.ClassFile.FieldType)) : Jvm.Cond) ∈ am_T := am_mem (am_c4 (List.mem_of_getElem? (i := 127) rfl)) rfl
theorem tw_848 : ((Jvm.Cond.methodLink "DawnTalesModel" (164 : Nat) ({ cls := "DawnTalesModel", name := "hoursOf", desc := "(I)I" } : Jvm.MethodName)) : Jvm.Cond) ∈ am_T := am_mem (am_c4 (List.mem_of_getElem? (i := 128) rfl)) rfl
theorem tw_850 : ((Jvm.Cond.instanceMethod ({ cls := "DawnTalesModel", name := "hoursOf", desc := "(I)I" } : Jvm.MethodName)) : Jvm.Cond) ∈ am_T := am_mem (am_c4 (List.mem_of_getElem? (i := 130) rfl)) rfl
theorem tw_851 : ((Jvm.Cond.code ({ cls := "DawnTalesModel", name := "hoursOf", desc := "(I)I" } : Jvm.MethodName) prog_14_method_19_code (2 : Nat) (Option.some Jvm.ClassFile.FieldType.int)) : Jvm.Cond) ∈ am_T := am_mem (am_c4 (List.mem_of_getElem? (i := 131) rfl)) rfl
theorem tw_852 : ((Jvm.Cond.fieldLink "DawnTalesModel" (7 : Nat) "DawnTalesModel" "text" "[I") : Jvm.Cond) ∈ am_T := am_mem (am_c4 (List.mem_of_getElem? (i := 132) rfl)) rfl
theorem tw_853 : ((Jvm.Cond.fieldLink "DawnTalesModel" (67 : Nat) "DawnTalesModel" "size" "I") : Jvm.Cond) ∈ am_T := am_mem (am_c4 (List.mem_of_getElem? (i := 133) rfl)) rfl
theorem tw_854 : ((Jvm.Cond.fieldLink "DawnTalesModel" (79 : Nat) "DawnTalesModel" "at" "I") : Jvm.Cond) ∈ am_T := am_mem (am_c4 (List.mem_of_getElem? (i := 134) rfl)) rfl
theorem tw_855 : ((Jvm.Cond.fieldLink "DawnTalesModel" (89 : Nat) "DawnTalesModel" "begin" "I") : Jvm.Cond) ∈ am_T := am_mem (am_c4 (List.mem_of_getElem? (i := 135) rfl)) rfl
theorem tw_856 : ((Jvm.Cond.fieldLink "DawnTalesModel" (92 : Nat) "DawnTalesModel" "token" "I") : Jvm.Cond) ∈ am_T := am_mem (am_c4 (List.mem_of_getElem? (i := 136) rfl)) rfl
theorem tw_857 : ((Jvm.Cond.fieldLink "DawnTalesModel" (82 : Nat) "DawnTalesModel" "told" "I") : Jvm.Cond) ∈ am_T := am_mem (am_c4 (List.mem_of_getElem? (i := 137) rfl)) rfl
theorem tw_858 : ((Jvm.Cond.fieldLink "DawnTalesModel" (107 : Nat) "DawnTalesModel" "readTales" "I") : Jvm.Cond) ∈ am_T := am_mem (am_c4 (List.mem_of_getElem? (i := 138) rfl)) rfl
theorem tw_859 : ((Jvm.Cond.fieldLink "DawnTalesModel" (114 : Nat) "DawnTalesModel" "readNights" "I") : Jvm.Cond) ∈ am_T := am_mem (am_c4 (List.mem_of_getElem? (i := 139) rfl)) rfl
theorem tw_860 : ((Jvm.Cond.fieldLink "DawnTalesModel" (125 : Nat) "DawnTalesModel" "readMemory" "I") : Jvm.Cond) ∈ am_T := am_mem (am_c4 (List.mem_of_getElem? (i := 140) rfl)) rfl
theorem tw_861 : ((Jvm.Cond.fieldLink "DawnTalesModel" (128 : Nat) "DawnTalesModel" "readDepth" "I") : Jvm.Cond) ∈ am_T := am_mem (am_c4 (List.mem_of_getElem? (i := 141) rfl)) rfl
theorem tw_862 : ((Jvm.Cond.fieldLink "DawnTalesModel" (13 : Nat) "DawnTalesModel" "readParts" "[I") : Jvm.Cond) ∈ am_T := am_mem (am_c4 (List.mem_of_getElem? (i := 142) rfl)) rfl
theorem tw_863 : ((Jvm.Cond.fieldLink "DawnTalesModel" (16 : Nat) "DawnTalesModel" "readWithin" "[I") : Jvm.Cond) ∈ am_T := am_mem (am_c4 (List.mem_of_getElem? (i := 143) rfl)) rfl
theorem tw_864 : ((Jvm.Cond.fieldLink "DawnTalesModel" (19 : Nat) "DawnTalesModel" "readHours" "[I") : Jvm.Cond) ∈ am_T := am_mem (am_c4 (List.mem_of_getElem? (i := 144) rfl)) rfl
theorem tw_865 : ((Jvm.Cond.fieldLink "DawnTalesModel" (137 : Nat) "DawnTalesModel" "tales" "I") : Jvm.Cond) ∈ am_T := am_mem (am_c4 (List.mem_of_getElem? (i := 145) rfl)) rfl
theorem tw_866 : ((Jvm.Cond.fieldLink "DawnTalesModel" (140 : Nat) "DawnTalesModel" "nights" "I") : Jvm.Cond) ∈ am_T := am_mem (am_c4 (List.mem_of_getElem? (i := 146) rfl)) rfl
theorem tw_867 : ((Jvm.Cond.fieldLink "DawnTalesModel" (143 : Nat) "DawnTalesModel" "memory" "I") : Jvm.Cond) ∈ am_T := am_mem (am_c4 (List.mem_of_getElem? (i := 147) rfl)) rfl
theorem tw_868 : ((Jvm.Cond.fieldLink "DawnTalesModel" (146 : Nat) "DawnTalesModel" "depth" "I") : Jvm.Cond) ∈ am_T := am_mem (am_c4 (List.mem_of_getElem? (i := 148) rfl)) rfl
theorem tw_869 : ((Jvm.Cond.fieldLink "DawnTalesModel" (22 : Nat) "DawnTalesModel" "parts" "[I") : Jvm.Cond) ∈ am_T := am_mem (am_c4 (List.mem_of_getElem? (i := 149) rfl)) rfl
theorem tw_870 : ((Jvm.Cond.fieldLink "DawnTalesModel" (25 : Nat) "DawnTalesModel" "within" "[I") : Jvm.Cond) ∈ am_T := am_mem (am_c4 (List.mem_of_getElem? (i := 150) rfl)) rfl
theorem tw_871 : ((Jvm.Cond.fieldLink "DawnTalesModel" (28 : Nat) "DawnTalesModel" "hours" "[I") : Jvm.Cond) ∈ am_T := am_mem (am_c4 (List.mem_of_getElem? (i := 151) rfl)) rfl
theorem tw_872 : ((Jvm.Cond.fieldLink "DawnTalesModel" (161 : Nat) "DawnTalesModel" "longer" "I") : Jvm.Cond) ∈ am_T := am_mem (am_c4 (List.mem_of_getElem? (i := 152) rfl)) rfl
theorem tw_873 : ((Jvm.Cond.fieldLink "DawnTalesModel" (31 : Nat) "DawnTalesModel" "now" "[I") : Jvm.Cond) ∈ am_T := am_mem (am_c4 (List.mem_of_getElem? (i := 153) rfl)) rfl
theorem tw_874 : ((Jvm.Cond.fieldLink "DawnTalesModel" (34 : Nat) "DawnTalesModel" "row" "[I") : Jvm.Cond) ∈ am_T := am_mem (am_c4 (List.mem_of_getElem? (i := 154) rfl)) rfl
theorem tw_875 : ((Jvm.Cond.fieldLink "DawnTalesModel" (152 : Nat) "DawnTalesModel" "saved" "I") : Jvm.Cond) ∈ am_T := am_mem (am_c4 (List.mem_of_getElem? (i := 155) rfl)) rfl
theorem tw_876 : ((Jvm.Cond.fieldLink "DawnTalesModel" (37 : Nat) "DawnTalesModel" "undone" "[I") : Jvm.Cond) ∈ am_T := am_mem (am_c4 (List.mem_of_getElem? (i := 156) rfl)) rfl
theorem tw_877 : ((Jvm.Cond.fieldLink "DawnTalesModel" (155 : Nat) "DawnTalesModel" "undos" "I") : Jvm.Cond) ∈ am_T := am_mem (am_c4 (List.mem_of_getElem? (i := 157) rfl)) rfl
theorem tw_878 : ((Jvm.Cond.fieldLink "DawnTalesModel" (40 : Nat) "DawnTalesModel" "order" "[I") : Jvm.Cond) ∈ am_T := am_mem (am_c4 (List.mem_of_getElem? (i := 158) rfl)) rfl
theorem tw_879 : ((Jvm.Cond.fieldLink "DawnTalesModel" (199 : Nat) "DawnTalesModel" "many" "I") : Jvm.Cond) ∈ am_T := am_mem (am_c4 (List.mem_of_getElem? (i := 159) rfl)) rfl
theorem tw_880 : ((Jvm.Cond.fieldLink "DawnTalesModel" (43 : Nat) "DawnTalesModel" "opens" "[I") : Jvm.Cond) ∈ am_T := am_mem (am_c4 (List.mem_of_getElem? (i := 160) rfl)) rfl
theorem tw_881 : ((Jvm.Cond.fieldLink "DawnTalesModel" (46 : Nat) "DawnTalesModel" "sets" "[I") : Jvm.Cond) ∈ am_T := am_mem (am_c4 (List.mem_of_getElem? (i := 161) rfl)) rfl
theorem tw_882 : ((Jvm.Cond.fieldLink "DawnTalesModel" (213 : Nat) "DawnTalesModel" "bestDawns" "I") : Jvm.Cond) ∈ am_T := am_mem (am_c4 (List.mem_of_getElem? (i := 162) rfl)) rfl
theorem tw_883 : ((Jvm.Cond.fieldLink "DawnTalesModel" (216 : Nat) "DawnTalesModel" "bestRow" "I") : Jvm.Cond) ∈ am_T := am_mem (am_c4 (List.mem_of_getElem? (i := 163) rfl)) rfl
theorem tw_884 : ((Jvm.Cond.fieldLink "DawnTalesModel" (158 : Nat) "DawnTalesModel" "heards" "I") : Jvm.Cond) ∈ am_T := am_mem (am_c4 (List.mem_of_getElem? (i := 164) rfl)) rfl
theorem tw_885 : ((Jvm.Cond.fieldLink "DawnTalesModel" (49 : Nat) "DawnTalesModel" "heardWhen" "[I") : Jvm.Cond) ∈ am_T := am_mem (am_c4 (List.mem_of_getElem? (i := 165) rfl)) rfl
theorem tw_886 : ((Jvm.Cond.fieldLink "DawnTalesModel" (52 : Nat) "DawnTalesModel" "heardOpen" "[I") : Jvm.Cond) ∈ am_T := am_mem (am_c4 (List.mem_of_getElem? (i := 166) rfl)) rfl
theorem tw_887 : ((Jvm.Cond.fieldLink "DawnTalesModel" (245 : Nat) "DawnTalesModel" "trace" "J") : Jvm.Cond) ∈ am_T := am_mem (am_c4 (List.mem_of_getElem? (i := 167) rfl)) rfl
theorem tw_888 : ((Jvm.Cond.fieldLink "DawnTalesModel" (55 : Nat) "DawnTalesModel" "kept" "[I") : Jvm.Cond) ∈ am_T := am_mem (am_c4 (List.mem_of_getElem? (i := 168) rfl)) rfl
theorem tw_889 : ((Jvm.Cond.laysFinal "DawnTalesModel" "DawnTalesModel" "text" "[I") : Jvm.Cond) ∈ am_T := am_mem (am_c4 (List.mem_of_getElem? (i := 169) rfl)) rfl
theorem tw_891 : ((Jvm.Cond.lays "DawnTalesModel" "DawnTalesModel" "size" "I") : Jvm.Cond) ∈ am_T := am_mem (am_c4 (List.mem_of_getElem? (i := 171) rfl)) rfl
theorem tw_893 : ((Jvm.Cond.lays "DawnTalesModel" "DawnTalesModel" "at" "I") : Jvm.Cond) ∈ am_T := am_mem (am_c4 (List.mem_of_getElem? (i := 173) rfl)) rfl
theorem tw_895 : ((Jvm.Cond.lays "DawnTalesModel" "DawnTalesModel" "begin" "I") : Jvm.Cond) ∈ am_T := am_mem (am_c4 (List.mem_of_getElem? (i := 175) rfl)) rfl
theorem tw_897 : ((Jvm.Cond.lays "DawnTalesModel" "DawnTalesModel" "token" "I") : Jvm.Cond) ∈ am_T := am_mem (am_c4 (List.mem_of_getElem? (i := 177) rfl)) rfl
theorem tw_899 : ((Jvm.Cond.lays "DawnTalesModel" "DawnTalesModel" "told" "I") : Jvm.Cond) ∈ am_T := am_mem (am_c4 (List.mem_of_getElem? (i := 179) rfl)) rfl
theorem tw_901 : ((Jvm.Cond.lays "DawnTalesModel" "DawnTalesModel" "readTales" "I") : Jvm.Cond) ∈ am_T := am_mem (am_c4 (List.mem_of_getElem? (i := 181) rfl)) rfl
theorem tw_903 : ((Jvm.Cond.lays "DawnTalesModel" "DawnTalesModel" "readNights" "I") : Jvm.Cond) ∈ am_T := am_mem (am_c4 (List.mem_of_getElem? (i := 183) rfl)) rfl
theorem tw_905 : ((Jvm.Cond.lays "DawnTalesModel" "DawnTalesModel" "readMemory" "I") : Jvm.Cond) ∈ am_T := am_mem (am_c4 (List.mem_of_getElem? (i := 185) rfl)) rfl
theorem tw_907 : ((Jvm.Cond.lays "DawnTalesModel" "DawnTalesModel" "readDepth" "I") : Jvm.Cond) ∈ am_T := am_mem (am_c4 (List.mem_of_getElem? (i := 187) rfl)) rfl
theorem tw_909 : ((Jvm.Cond.laysFinal "DawnTalesModel" "DawnTalesModel" "readParts" "[I") : Jvm.Cond) ∈ am_T := am_mem (am_c4 (List.mem_of_getElem? (i := 189) rfl)) rfl
theorem tw_911 : ((Jvm.Cond.laysFinal "DawnTalesModel" "DawnTalesModel" "readWithin" "[I") : Jvm.Cond) ∈ am_T := am_mem (am_c4 (List.mem_of_getElem? (i := 191) rfl)) rfl
theorem tw_913 : ((Jvm.Cond.laysFinal "DawnTalesModel" "DawnTalesModel" "readHours" "[I") : Jvm.Cond) ∈ am_T := am_mem (am_c4 (List.mem_of_getElem? (i := 193) rfl)) rfl
theorem tw_915 : ((Jvm.Cond.lays "DawnTalesModel" "DawnTalesModel" "tales" "I") : Jvm.Cond) ∈ am_T := am_mem (am_c4 (List.mem_of_getElem? (i := 195) rfl)) rfl
theorem tw_917 : ((Jvm.Cond.lays "DawnTalesModel" "DawnTalesModel" "nights" "I") : Jvm.Cond) ∈ am_T := am_mem (am_c4 (List.mem_of_getElem? (i := 197) rfl)) rfl
theorem tw_919 : ((Jvm.Cond.lays "DawnTalesModel" "DawnTalesModel" "memory" "I") : Jvm.Cond) ∈ am_T := am_mem (am_c4 (List.mem_of_getElem? (i := 199) rfl)) rfl
theorem tw_921 : ((Jvm.Cond.lays "DawnTalesModel" "DawnTalesModel" "depth" "I") : Jvm.Cond) ∈ am_T := am_mem (am_c4 (List.mem_of_getElem? (i := 201) rfl)) rfl
theorem tw_923 : ((Jvm.Cond.laysFinal "DawnTalesModel" "DawnTalesModel" "parts" "[I") : Jvm.Cond) ∈ am_T := am_mem (am_c4 (List.mem_of_getElem? (i := 203) rfl)) rfl
theorem tw_925 : ((Jvm.Cond.laysFinal "DawnTalesModel" "DawnTalesModel" "within" "[I") : Jvm.Cond) ∈ am_T := am_mem (am_c4 (List.mem_of_getElem? (i := 205) rfl)) rfl
theorem tw_927 : ((Jvm.Cond.laysFinal "DawnTalesModel" "DawnTalesModel" "hours" "[I") : Jvm.Cond) ∈ am_T := am_mem (am_c4 (List.mem_of_getElem? (i := 207) rfl)) rfl
theorem tw_929 : ((Jvm.Cond.lays "DawnTalesModel" "DawnTalesModel" "longer" "I") : Jvm.Cond) ∈ am_T := am_mem (am_c4 (List.mem_of_getElem? (i := 209) rfl)) rfl
theorem tw_931 : ((Jvm.Cond.laysFinal "DawnTalesModel" "DawnTalesModel" "now" "[I") : Jvm.Cond) ∈ am_T := am_mem (am_c4 (List.mem_of_getElem? (i := 211) rfl)) rfl
theorem tw_933 : ((Jvm.Cond.laysFinal "DawnTalesModel" "DawnTalesModel" "row" "[I") : Jvm.Cond) ∈ am_T := am_mem (am_c4 (List.mem_of_getElem? (i := 213) rfl)) rfl
theorem tw_935 : ((Jvm.Cond.lays "DawnTalesModel" "DawnTalesModel" "saved" "I") : Jvm.Cond) ∈ am_T := am_mem (am_c4 (List.mem_of_getElem? (i := 215) rfl)) rfl
theorem tw_937 : ((Jvm.Cond.laysFinal "DawnTalesModel" "DawnTalesModel" "undone" "[I") : Jvm.Cond) ∈ am_T := am_mem (am_c4 (List.mem_of_getElem? (i := 217) rfl)) rfl
theorem tw_939 : ((Jvm.Cond.lays "DawnTalesModel" "DawnTalesModel" "undos" "I") : Jvm.Cond) ∈ am_T := am_mem (am_c4 (List.mem_of_getElem? (i := 219) rfl)) rfl
theorem tw_941 : ((Jvm.Cond.laysFinal "DawnTalesModel" "DawnTalesModel" "order" "[I") : Jvm.Cond) ∈ am_T := am_mem (am_c4 (List.mem_of_getElem? (i := 221) rfl)) rfl
theorem tw_943 : ((Jvm.Cond.lays "DawnTalesModel" "DawnTalesModel" "many" "I") : Jvm.Cond) ∈ am_T := am_mem (am_c4 (List.mem_of_getElem? (i := 223) rfl)) rfl
theorem tw_945 : ((Jvm.Cond.laysFinal "DawnTalesModel" "DawnTalesModel" "opens" "[I") : Jvm.Cond) ∈ am_T := am_mem (am_c4 (List.mem_of_getElem? (i := 225) rfl)) rfl
theorem tw_947 : ((Jvm.Cond.laysFinal "DawnTalesModel" "DawnTalesModel" "sets" "[I") : Jvm.Cond) ∈ am_T := am_mem (am_c4 (List.mem_of_getElem? (i := 227) rfl)) rfl
theorem tw_949 : ((Jvm.Cond.lays "DawnTalesModel" "DawnTalesModel" "bestDawns" "I") : Jvm.Cond) ∈ am_T := am_mem (am_c4 (List.mem_of_getElem? (i := 229) rfl)) rfl
theorem tw_951 : ((Jvm.Cond.lays "DawnTalesModel" "DawnTalesModel" "bestRow" "I") : Jvm.Cond) ∈ am_T := am_mem (am_c4 (List.mem_of_getElem? (i := 231) rfl)) rfl
theorem tw_953 : ((Jvm.Cond.lays "DawnTalesModel" "DawnTalesModel" "heards" "I") : Jvm.Cond) ∈ am_T := am_mem (am_c4 (List.mem_of_getElem? (i := 233) rfl)) rfl
theorem tw_955 : ((Jvm.Cond.laysFinal "DawnTalesModel" "DawnTalesModel" "heardWhen" "[I") : Jvm.Cond) ∈ am_T := am_mem (am_c4 (List.mem_of_getElem? (i := 235) rfl)) rfl
theorem tw_957 : ((Jvm.Cond.laysFinal "DawnTalesModel" "DawnTalesModel" "heardOpen" "[I") : Jvm.Cond) ∈ am_T := am_mem (am_c4 (List.mem_of_getElem? (i := 237) rfl)) rfl
theorem tw_959 : ((Jvm.Cond.lays "DawnTalesModel" "DawnTalesModel" "trace" "J") : Jvm.Cond) ∈ am_T := am_mem (am_c4 (List.mem_of_getElem? (i := 239) rfl)) rfl
theorem tw_961 : ((Jvm.Cond.laysFinal "DawnTalesModel" "DawnTalesModel" "kept" "[I") : Jvm.Cond) ∈ am_T := am_mem (am_c5 (List.mem_of_getElem? (i := 1) rfl)) rfl
theorem tw_963 : ((Jvm.Cond.superclass "DawnTalesModel" "java/lang/Object") : Jvm.Cond) ∈ am_T := am_mem (am_c5 (List.mem_of_getElem? (i := 3) rfl)) rfl
theorem tw_964 : ((Jvm.Cond.methodLink "DawnTalesLaw" (17 : Nat) ({ cls := "DawnTalesModel", name := "type", desc := "(I)I" } : Jvm.MethodName)) : Jvm.Cond) ∈ am_T := am_mem (am_c5 (List.mem_of_getElem? (i := 4) rfl)) rfl
theorem tw_965 : ((Jvm.Cond.instanceMethod ({ cls := "DawnTalesModel", name := "type", desc := "(I)I" } : Jvm.MethodName)) : Jvm.Cond) ∈ am_T := am_mem (am_c5 (List.mem_of_getElem? (i := 5) rfl)) rfl
theorem tw_966 : ((Jvm.Cond.selects "DawnTalesModel" ({ cls := "DawnTalesModel", name := "type", desc := "(I)I" } : Jvm.MethodName) ({ cls := "DawnTalesModel", name := "type", desc := "(I)I" } : Jvm.MethodName)) : Jvm.Cond) ∈ am_T := am_mem (am_c5 (List.mem_of_getElem? (i := 6) rfl)) rfl
theorem tw_967 : ((Jvm.Cond.code ({ cls := "DawnTalesModel", name := "type", desc := "(I)I" } : Jvm.MethodName) prog_14_method_4_code (2 : Nat) (Option.some Jvm.ClassFile.FieldType.int)) : Jvm.Cond) ∈ am_T := am_mem (am_c5 (List.mem_of_getElem? (i := 7) rfl)) rfl
theorem tw_968 : ((Jvm.Cond.constantLong "DawnTalesModel" (61 : Nat) (255 : Int64)) : Jvm.Cond) ∈ am_T := am_mem (am_c5 (List.mem_of_getElem? (i := 8) rfl)) rfl
theorem tw_969 : ((Jvm.Cond.methodLink "DawnTalesModel" (63 : Nat) ({ cls := "DawnTalesModel", name := "in", desc := "(JJJ)Z" } : Jvm.MethodName)) : Jvm.Cond) ∈ am_T := am_mem (am_c5 (List.mem_of_getElem? (i := 9) rfl)) rfl
theorem tw_970 : ((Jvm.Cond.static ({ cls := "DawnTalesModel", name := "in", desc := "(JJJ)Z" } : Jvm.MethodName)) : Jvm.Cond) ∈ am_T := am_mem (am_c5 (List.mem_of_getElem? (i := 10) rfl)) rfl
theorem tw_971 : ((Jvm.Cond.code ({ cls := "DawnTalesModel", name := "in", desc := "(JJJ)Z" } : Jvm.MethodName) prog_14_method_2_code (6 : Nat) (Option.some Jvm.ClassFile.FieldType.boolean)) : Jvm.Cond) ∈ am_T := am_mem (am_c5 (List.mem_of_getElem? (i := 11) rfl)) rfl
theorem tw_972 : ((Jvm.Cond.methodLink "DawnTalesLaw" (22 : Nat) ({ cls := "DawnTalesModel", name := "clear", desc := "()I" } : Jvm.MethodName)) : Jvm.Cond) ∈ am_T := am_mem (am_c5 (List.mem_of_getElem? (i := 12) rfl)) rfl
theorem tw_973 : ((Jvm.Cond.instanceMethod ({ cls := "DawnTalesModel", name := "clear", desc := "()I" } : Jvm.MethodName)) : Jvm.Cond) ∈ am_T := am_mem (am_c5 (List.mem_of_getElem? (i := 13) rfl)) rfl
theorem tw_974 : ((Jvm.Cond.selects "DawnTalesModel" ({ cls := "DawnTalesModel", name := "clear", desc := "()I" } : Jvm.MethodName) ({ cls := "DawnTalesModel", name := "clear", desc := "()I" } : Jvm.MethodName)) : Jvm.Cond) ∈ am_T := am_mem (am_c5 (List.mem_of_getElem? (i := 14) rfl)) rfl
theorem tw_975 : ((Jvm.Cond.code ({ cls := "DawnTalesModel", name := "clear", desc := "()I" } : Jvm.MethodName) prog_14_method_5_code (2 : Nat) (Option.some Jvm.ClassFile.FieldType.int)) : Jvm.Cond) ∈ am_T := am_mem (am_c5 (List.mem_of_getElem? (i := 15) rfl)) rfl
theorem tw_976 : ((Jvm.Cond.methodLink "DawnTalesLaw" (26 : Nat) ({ cls := "DawnTalesModel", name := "tales", desc := "()I" } : Jvm.MethodName)) : Jvm.Cond) ∈ am_T := am_mem (am_c5 (List.mem_of_getElem? (i := 16) rfl)) rfl
theorem tw_977 : ((Jvm.Cond.instanceMethod ({ cls := "DawnTalesModel", name := "tales", desc := "()I" } : Jvm.MethodName)) : Jvm.Cond) ∈ am_T := am_mem (am_c5 (List.mem_of_getElem? (i := 17) rfl)) rfl
theorem tw_978 : ((Jvm.Cond.selects "DawnTalesModel" ({ cls := "DawnTalesModel", name := "tales", desc := "()I" } : Jvm.MethodName) ({ cls := "DawnTalesModel", name := "tales", desc := "()I" } : Jvm.MethodName)) : Jvm.Cond) ∈ am_T := am_mem (am_c5 (List.mem_of_getElem? (i := 18) rfl)) rfl
theorem tw_979 : ((Jvm.Cond.code ({ cls := "DawnTalesModel", name := "tales", desc := "()I" } : Jvm.MethodName) prog_14_method_15_code (2 : Nat) (Option.some Jvm.ClassFile.FieldType.int)) : Jvm.Cond) ∈ am_T := am_mem (am_c5 (List.mem_of_getElem? (i := 19) rfl)) rfl
theorem tw_980 : ((Jvm.Cond.methodLink "DawnTalesModel" (104 : Nat) ({ cls := "DawnTalesModel", name := "reads", desc := "()V" } : Jvm.MethodName)) : Jvm.Cond) ∈ am_T := am_mem (am_c5 (List.mem_of_getElem? (i := 20) rfl)) rfl
theorem tw_982 : ((Jvm.Cond.instanceMethod ({ cls := "DawnTalesModel", name := "reads", desc := "()V" } : Jvm.MethodName)) : Jvm.Cond) ∈ am_T := am_mem (am_c5 (List.mem_of_getElem? (i := 22) rfl)) rfl
theorem tw_983 : ((Jvm.Cond.code ({ cls := "DawnTalesModel", name := "reads", desc := "()V" } : Jvm.MethodName) prog_14_method_10_code (1 : Nat) (Option.none : Option Jvm.ClassFile.FieldType)) : Jvm.Cond) ∈ am_T := am_mem (am_c5 (List.mem_of_getElem? (i := 23) rfl)) rfl
theorem tw_984 : ((Jvm.Cond.methodLink "DawnTalesModel" (85 : Nat) ({ cls := "DawnTalesModel", name := "isLetter", desc := "(I)Z" } : Jvm.MethodName)) : Jvm.Cond) ∈ am_T := am_mem (am_c5 (List.mem_of_getElem? (i := 24) rfl)) rfl
theorem tw_985 : ((Jvm.Cond.static ({ cls := "DawnTalesModel", name := "isLetter", desc := "(I)Z" } : Jvm.MethodName)) : Jvm.Cond) ∈ am_T := am_mem (am_c5 (List.mem_of_getElem? (i := 25) rfl)) rfl
theorem tw_986 : ((Jvm.Cond.code ({ cls := "DawnTalesModel", name := "isLetter", desc := "(I)Z" } : Jvm.MethodName) prog_14_method_6_code (1 : Nat) (Option.some Jvm.ClassFile.FieldType.boolean)) : Jvm.Cond) ∈ am_T := am_mem (am_c5 (List.mem_of_getElem? (i := 26) rfl)) rfl
theorem tw_987 : ((Jvm.Cond.constantLong "DawnTalesModel" (71 : Nat) (97 : Int64)) : Jvm.Cond) ∈ am_T := am_mem (am_c5 (List.mem_of_getElem? (i := 27) rfl)) rfl
theorem tw_988 : ((Jvm.Cond.constantLong "DawnTalesModel" (73 : Nat) (122 : Int64)) : Jvm.Cond) ∈ am_T := am_mem (am_c5 (List.mem_of_getElem? (i := 28) rfl)) rfl
theorem tw_989 : ((Jvm.Cond.methodLink "DawnTalesModel" (98 : Nat) ({ cls := "DawnTalesModel", name := "readLetters", desc := "()V" } : Jvm.MethodName)) : Jvm.Cond) ∈ am_T := am_mem (am_c5 (List.mem_of_getElem? (i := 29) rfl)) rfl
theorem tw_991 : ((Jvm.Cond.instanceMethod ({ cls := "DawnTalesModel", name := "readLetters", desc := "()V" } : Jvm.MethodName)) : Jvm.Cond) ∈ am_T := am_mem (am_c5 (List.mem_of_getElem? (i := 31) rfl)) rfl
theorem tw_992 : ((Jvm.Cond.code ({ cls := "DawnTalesModel", name := "readLetters", desc := "()V" } : Jvm.MethodName) prog_14_method_8_code (1 : Nat) (Option.none : Option Jvm.ClassFile.FieldType)) : Jvm.Cond) ∈ am_T := am_mem (am_c5 (List.mem_of_getElem? (i := 32) rfl)) rfl
theorem tw_993 : ((Jvm.Cond.methodLink "DawnTalesModel" (95 : Nat) ({ cls := "DawnTalesModel", name := "isFigure", desc := "(I)Z" } : Jvm.MethodName)) : Jvm.Cond) ∈ am_T := am_mem (am_c5 (List.mem_of_getElem? (i := 33) rfl)) rfl
theorem tw_994 : ((Jvm.Cond.static ({ cls := "DawnTalesModel", name := "isFigure", desc := "(I)Z" } : Jvm.MethodName)) : Jvm.Cond) ∈ am_T := am_mem (am_c5 (List.mem_of_getElem? (i := 34) rfl)) rfl
theorem tw_995 : ((Jvm.Cond.code ({ cls := "DawnTalesModel", name := "isFigure", desc := "(I)Z" } : Jvm.MethodName) prog_14_method_7_code (1 : Nat) (Option.some Jvm.ClassFile.FieldType.boolean)) : Jvm.Cond) ∈ am_T := am_mem (am_c5 (List.mem_of_getElem? (i := 35) rfl)) rfl
theorem tw_996 : ((Jvm.Cond.constantLong "DawnTalesModel" (75 : Nat) (48 : Int64)) : Jvm.Cond) ∈ am_T := am_mem (am_c5 (List.mem_of_getElem? (i := 36) rfl)) rfl
theorem tw_997 : ((Jvm.Cond.constantLong "DawnTalesModel" (77 : Nat) (57 : Int64)) : Jvm.Cond) ∈ am_T := am_mem (am_c5 (List.mem_of_getElem? (i := 37) rfl)) rfl
theorem tw_998 : ((Jvm.Cond.methodLink "DawnTalesModel" (101 : Nat) ({ cls := "DawnTalesModel", name := "readNumber", desc := "()V" } : Jvm.MethodName)) : Jvm.Cond) ∈ am_T := am_mem (am_c5 (List.mem_of_getElem? (i := 38) rfl)) rfl
theorem tw_1000 : ((Jvm.Cond.instanceMethod ({ cls := "DawnTalesModel", name := "readNumber", desc := "()V" } : Jvm.MethodName)) : Jvm.Cond) ∈ am_T := am_mem (am_c5 (List.mem_of_getElem? (i := 40) rfl)) rfl
theorem tw_1001 : ((Jvm.Cond.code ({ cls := "DawnTalesModel", name := "readNumber", desc := "()V" } : Jvm.MethodName) prog_14_method_9_code (2 : Nat) (Option.none : Option Jvm.ClassFile.FieldType)) : Jvm.Cond) ∈ am_T := am_mem (am_c5 (List.mem_of_getElem? (i := 41) rfl)) rfl
theorem tw_1002 : ((Jvm.Cond.methodLink "DawnTalesModel" (131 : Nat) ({ cls := "DawnTalesModel", name := "readItem", desc := "()Z" } : Jvm.MethodName)) : Jvm.Cond) ∈ am_T := am_mem (am_c5 (List.mem_of_getElem? (i := 42) rfl)) rfl
theorem tw_1004 : ((Jvm.Cond.instanceMethod ({ cls := "DawnTalesModel", name := "readItem", desc := "()Z" } : Jvm.MethodName)) : Jvm.Cond) ∈ am_T := am_mem (am_c5 (List.mem_of_getElem? (i := 44) rfl)) rfl
theorem tw_1005 : ((Jvm.Cond.code ({ cls := "DawnTalesModel", name := "readItem", desc := "()Z" } : Jvm.MethodName) prog_14_method_14_code (2 : Nat) (Option.some Jvm.ClassFile.FieldType.boolean)) : Jvm.Cond) ∈ am_T := am_mem (am_c5 (List.mem_of_getElem? (i := 45) rfl)) rfl
theorem tw_1006 : ((Jvm.Cond.methodLink "DawnTalesModel" (119 : Nat) ({ cls := "DawnTalesModel", name := "readTale", desc := "()Z" } : Jvm.MethodName)) : Jvm.Cond) ∈ am_T := am_mem (am_c5 (List.mem_of_getElem? (i := 46) rfl)) rfl
theorem tw_1008 : ((Jvm.Cond.instanceMethod ({ cls := "DawnTalesModel", name := "readTale", desc := "()Z" } : Jvm.MethodName)) : Jvm.Cond) ∈ am_T := am_mem (am_c5 (List.mem_of_getElem? (i := 48) rfl)) rfl
theorem tw_1009 : ((Jvm.Cond.code ({ cls := "DawnTalesModel", name := "readTale", desc := "()Z" } : Jvm.MethodName) prog_14_method_12_code (1 : Nat) (Option.some Jvm.ClassFile.FieldType.boolean)) : Jvm.Cond) ∈ am_T := am_mem (am_c5 (List.mem_of_getElem? (i := 49) rfl)) rfl
theorem tw_1010 : ((Jvm.Cond.methodLink "DawnTalesModel" (110 : Nat) ({ cls := "DawnTalesModel", name := "number", desc := "(II)Z" } : Jvm.MethodName)) : Jvm.Cond) ∈ am_T := am_mem (am_c5 (List.mem_of_getElem? (i := 50) rfl)) rfl
theorem tw_1012 : ((Jvm.Cond.instanceMethod ({ cls := "DawnTalesModel", name := "number", desc := "(II)Z" } : Jvm.MethodName)) : Jvm.Cond) ∈ am_T := am_mem (am_c5 (List.mem_of_getElem? (i := 52) rfl)) rfl
theorem tw_1013 : ((Jvm.Cond.code ({ cls := "DawnTalesModel", name := "number", desc := "(II)Z" } : Jvm.MethodName) prog_14_method_11_code (3 : Nat) (Option.some Jvm.ClassFile.FieldType.boolean)) : Jvm.Cond) ∈ am_T := am_mem (am_c5 (List.mem_of_getElem? (i := 53) rfl)) rfl
theorem tw_1014 : ((Jvm.Cond.methodLink "DawnTalesModel" (123 : Nat) ({ cls := "DawnTalesModel", name := "readNights", desc := "()Z" } : Jvm.MethodName)) : Jvm.Cond) ∈ am_T := am_mem (am_c5 (List.mem_of_getElem? (i := 54) rfl)) rfl
theorem tw_1016 : ((Jvm.Cond.instanceMethod ({ cls := "DawnTalesModel", name := "readNights", desc := "()Z" } : Jvm.MethodName)) : Jvm.Cond) ∈ am_T := am_mem (am_c5 (List.mem_of_getElem? (i := 56) rfl)) rfl
theorem tw_1017 : ((Jvm.Cond.code ({ cls := "DawnTalesModel", name := "readNights", desc := "()Z" } : Jvm.MethodName) prog_14_method_13_code (1 : Nat) (Option.some Jvm.ClassFile.FieldType.boolean)) : Jvm.Cond) ∈ am_T := am_mem (am_c5 (List.mem_of_getElem? (i := 57) rfl)) rfl
theorem tw_1018 : ((Jvm.Cond.constantLong "DawnTalesModel" (117 : Nat) (9 : Int64)) : Jvm.Cond) ∈ am_T := am_mem (am_c5 (List.mem_of_getElem? (i := 58) rfl)) rfl
theorem tw_1019 : ((Jvm.Cond.methodLink "DawnTalesLaw" (31 : Nat) ({ cls := "DawnTalesModel", name := "tale", desc := "(II)I" } : Jvm.MethodName)) : Jvm.Cond) ∈ am_T := am_mem (am_c5 (List.mem_of_getElem? (i := 59) rfl)) rfl
theorem tw_1020 : ((Jvm.Cond.instanceMethod ({ cls := "DawnTalesModel", name := "tale", desc := "(II)I" } : Jvm.MethodName)) : Jvm.Cond) ∈ am_T := am_mem (am_c5 (List.mem_of_getElem? (i := 60) rfl)) rfl
theorem tw_1021 : ((Jvm.Cond.selects "DawnTalesModel" ({ cls := "DawnTalesModel", name := "tale", desc := "(II)I" } : Jvm.MethodName) ({ cls := "DawnTalesModel", name := "tale", desc := "(II)I" } : Jvm.MethodName)) : Jvm.Cond) ∈ am_T := am_mem (am_c5 (List.mem_of_getElem? (i := 61) rfl)) rfl
theorem tw_1022 : ((Jvm.Cond.code ({ cls := "DawnTalesModel", name := "tale", desc := "(II)I" } : Jvm.MethodName) prog_14_method_26_code (5 : Nat) (Option.some Jvm.ClassFile.FieldType.int)) : Jvm.Cond) ∈ am_T := am_mem (am_c5 (List.mem_of_getElem? (i := 62) rfl)) rfl
theorem tw_1023 : ((Jvm.Cond.methodLink "DawnTalesModel" (176 : Nat) ({ cls := "DawnTalesModel", name := "isTale", desc := "(I)Z" } : Jvm.MethodName)) : Jvm.Cond) ∈ am_T := am_mem (am_c5 (List.mem_of_getElem? (i := 63) rfl)) rfl
theorem tw_1025 : ((Jvm.Cond.instanceMethod ({ cls := "DawnTalesModel", name := "isTale", desc := "(I)Z" } : Jvm.MethodName)) : Jvm.Cond) ∈ am_T := am_mem (am_c5 (List.mem_of_getElem? (i := 65) rfl)) rfl
theorem tw_1026 : ((Jvm.Cond.code ({ cls := "DawnTalesModel", name := "isTale", desc := "(I)Z" } : Jvm.MethodName) prog_14_method_18_code (2 : Nat) (Option.some Jvm.ClassFile.FieldType.boolean)) : Jvm.Cond) ∈ am_T := am_mem (am_c5 (List.mem_of_getElem? (i := 66) rfl)) rfl
theorem tw_1027 : ((Jvm.Cond.methodLink "DawnTalesLaw" (35 : Nat) ({ cls := "DawnTalesModel", name := "hours", desc := "(I)I" } : Jvm.MethodName)) : Jvm.Cond) ∈ am_T := am_mem (am_c5 (List.mem_of_getElem? (i := 67) rfl)) rfl
theorem tw_1028 : ((Jvm.Cond.instanceMethod ({ cls := "DawnTalesModel", name := "hours", desc := "(I)I" } : Jvm.MethodName)) : Jvm.Cond) ∈ am_T := am_mem (am_c5 (List.mem_of_getElem? (i := 68) rfl)) rfl
theorem tw_1029 : ((Jvm.Cond.selects "DawnTalesModel" ({ cls := "DawnTalesModel", name := "hours", desc := "(I)I" } : Jvm.MethodName) ({ cls := "DawnTalesModel", name := "hours", desc := "(I)I" } : Jvm.MethodName)) : Jvm.Cond) ∈ am_T := am_mem (am_c5 (List.mem_of_getElem? (i := 69) rfl)) rfl
theorem tw_1030 : ((Jvm.Cond.code ({ cls := "DawnTalesModel", name := "hours", desc := "(I)I" } : Jvm.MethodName) prog_14_method_27_code (2 : Nat) (Option.some Jvm.ClassFile.FieldType.int)) : Jvm.Cond) ∈ am_T := am_mem (am_c5 (List.mem_of_getElem? (i := 70) rfl)) rfl
theorem tw_1031 : ((Jvm.Cond.constantLong "DawnTalesModel" (179 : Nat) (200 : Int64)) : Jvm.Cond) ∈ am_T := am_mem (am_c5 (List.mem_of_getElem? (i := 71) rfl)) rfl
theorem tw_1032 : ((Jvm.Cond.methodLink "DawnTalesLaw" (39 : Nat) ({ cls := "DawnTalesModel", name := "begins", desc := "(I)I" } : Jvm.MethodName)) : Jvm.Cond) ∈ am_T := am_mem (am_c5 (List.mem_of_getElem? (i := 72) rfl)) rfl
theorem tw_1033 : ((Jvm.Cond.instanceMethod ({ cls := "DawnTalesModel", name := "begins", desc := "(I)I" } : Jvm.MethodName)) : Jvm.Cond) ∈ am_T := am_mem (am_c5 (List.mem_of_getElem? (i := 73) rfl)) rfl
theorem tw_1034 : ((Jvm.Cond.selects "DawnTalesModel" ({ cls := "DawnTalesModel", name := "begins", desc := "(I)I" } : Jvm.MethodName) ({ cls := "DawnTalesModel", name := "begins", desc := "(I)I" } : Jvm.MethodName)) : Jvm.Cond) ∈ am_T := am_mem (am_c5 (List.mem_of_getElem? (i := 74) rfl)) rfl
theorem tw_1035 : ((Jvm.Cond.code ({ cls := "DawnTalesModel", name := "begins", desc := "(I)I" } : Jvm.MethodName) prog_14_method_30_code (2 : Nat) (Option.some Jvm.ClassFile.FieldType.int)) : Jvm.Cond) ∈ am_T := am_mem (am_c5 (List.mem_of_getElem? (i := 75) rfl)) rfl
theorem tw_1036 : ((Jvm.Cond.methodLink "DawnTalesModel" (181 : Nat) ({ cls := "DawnTalesModel", name := "has", desc := "()Z" } : Jvm.MethodName)) : Jvm.Cond) ∈ am_T := am_mem (am_c5 (List.mem_of_getElem? (i := 76) rfl)) rfl
theorem tw_1038 : ((Jvm.Cond.instanceMethod ({ cls := "DawnTalesModel", name := "has", desc := "()Z" } : Jvm.MethodName)) : Jvm.Cond) ∈ am_T := am_mem (am_c5 (List.mem_of_getElem? (i := 78) rfl)) rfl
theorem tw_1039 : ((Jvm.Cond.code ({ cls := "DawnTalesModel", name := "has", desc := "()Z" } : Jvm.MethodName) prog_14_method_29_code (1 : Nat) (Option.some Jvm.ClassFile.FieldType.boolean)) : Jvm.Cond) ∈ am_T := am_mem (am_c5 (List.mem_of_getElem? (i := 79) rfl)) rfl
theorem tw_1040 : ((Jvm.Cond.methodLink "DawnTalesModel" (184 : Nat) ({ cls := "DawnTalesModel", name := "mayBegin", desc := "([II)Z" } : Jvm.MethodName)) : Jvm.Cond) ∈ am_T := am_mem (am_c5 (List.mem_of_getElem? (i := 80) rfl)) rfl
theorem tw_1042 : ((Jvm.Cond.instanceMethod ({ cls := "DawnTalesModel", name := "mayBegin", desc := "([II)Z" } : Jvm.MethodName)) : Jvm.Cond) ∈ am_T := am_mem (am_c5 (List.mem_of_getElem? (i := 82) rfl)) rfl
theorem tw_1043 : ((Jvm.Cond.code ({ cls := "DawnTalesModel", name := "mayBegin", desc := "([II)Z" } : Jvm.MethodName) prog_14_method_22_code (3 : Nat) (Option.some Jvm.ClassFile.FieldType.boolean)) : Jvm.Cond) ∈ am_T := am_mem (am_c5 (List.mem_of_getElem? (i := 83) rfl)) rfl
theorem tw_1044 : ((Jvm.Cond.methodLink "DawnTalesModel" (168 : Nat) ({ cls := "DawnTalesModel", name := "inner", desc := "([I)I" } : Jvm.MethodName)) : Jvm.Cond) ∈ am_T := am_mem (am_c5 (List.mem_of_getElem? (i := 84) rfl)) rfl
theorem tw_1045 : ((Jvm.Cond.static ({ cls := "DawnTalesModel", name := "inner", desc := "([I)I" } : Jvm.MethodName)) : Jvm.Cond) ∈ am_T := am_mem (am_c5 (List.mem_of_getElem? (i := 85) rfl)) rfl
theorem tw_1046 : ((Jvm.Cond.code ({ cls := "DawnTalesModel", name := "inner", desc := "([I)I" } : Jvm.MethodName) prog_14_method_21_code (1 : Nat) (Option.some Jvm.ClassFile.FieldType.int)) : Jvm.Cond) ∈ am_T := am_mem (am_c5 (List.mem_of_getElem? (i := 86) rfl)) rfl
theorem tw_1047 : ((Jvm.Cond.methodLink "DawnTalesModel" (188 : Nat) ({ cls := "DawnTalesModel", name := "notes", desc := "()V" } : Jvm.MethodName)) : Jvm.Cond) ∈ am_T := am_mem (am_c5 (List.mem_of_getElem? (i := 87) rfl)) rfl
theorem tw_1049 : ((Jvm.Cond.instanceMethod ({ cls := "DawnTalesModel", name := "notes", desc := "()V" } : Jvm.MethodName)) : Jvm.Cond) ∈ am_T := am_mem (am_c5 (List.mem_of_getElem? (i := 89) rfl)) rfl
theorem tw_1050 : ((Jvm.Cond.code ({ cls := "DawnTalesModel", name := "notes", desc := "()V" } : Jvm.MethodName) prog_14_method_28_code (2 : Nat) (Option.none : Option Jvm.ClassFile.FieldType)) : Jvm.Cond) ∈ am_T := am_mem (am_c5 (List.mem_of_getElem? (i := 90) rfl)) rfl
theorem tw_1051 : ((Jvm.Cond.methodLink "DawnTalesModel" (191 : Nat) ({ cls := "DawnTalesModel", name := "goesIn", desc := "([II)V" } : Jvm.MethodName)) : Jvm.Cond) ∈ am_T := am_mem (am_c5 (List.mem_of_getElem? (i := 91) rfl)) rfl
theorem tw_1052 : ((Jvm.Cond.static ({ cls := "DawnTalesModel", name := "goesIn", desc := "([II)V" } : Jvm.MethodName)) : Jvm.Cond) ∈ am_T := am_mem (am_c5 (List.mem_of_getElem? (i := 92) rfl)) rfl
theorem tw_1053 : ((Jvm.Cond.code ({ cls := "DawnTalesModel", name := "goesIn", desc := "([II)V" } : Jvm.MethodName) prog_14_method_24_code (2 : Nat) (Option.none : Option Jvm.ClassFile.FieldType)) : Jvm.Cond) ∈ am_T := am_mem (am_c5 (List.mem_of_getElem? (i := 93) rfl)) rfl
theorem tw_1054 : ((Jvm.Cond.methodLink "DawnTalesModel" (172 : Nat) ({ cls := "DawnTalesModel", name := "goesOn", desc := "([I)V" } : Jvm.MethodName)) : Jvm.Cond) ∈ am_T := am_mem (am_c5 (List.mem_of_getElem? (i := 94) rfl)) rfl
theorem tw_1055 : ((Jvm.Cond.static ({ cls := "DawnTalesModel", name := "goesOn", desc := "([I)V" } : Jvm.MethodName)) : Jvm.Cond) ∈ am_T := am_mem (am_c5 (List.mem_of_getElem? (i := 95) rfl)) rfl
theorem tw_1056 : ((Jvm.Cond.code ({ cls := "DawnTalesModel", name := "goesOn", desc := "([I)V" } : Jvm.MethodName) prog_14_method_23_code (2 : Nat) (Option.none : Option Jvm.ClassFile.FieldType)) : Jvm.Cond) ∈ am_T := am_mem (am_c5 (List.mem_of_getElem? (i := 96) rfl)) rfl
theorem tw_1057 : ((Jvm.Cond.methodLink "DawnTalesLaw" (43 : Nat) ({ cls := "DawnTalesModel", name := "tells", desc := "()I" } : Jvm.MethodName)) : Jvm.Cond) ∈ am_T := am_mem (am_c5 (List.mem_of_getElem? (i := 97) rfl)) rfl
theorem tw_1058 : ((Jvm.Cond.instanceMethod ({ cls := "DawnTalesModel", name := "tells", desc := "()I" } : Jvm.MethodName)) : Jvm.Cond) ∈ am_T := am_mem (am_c5 (List.mem_of_getElem? (i := 98) rfl)) rfl
theorem tw_1059 : ((Jvm.Cond.selects "DawnTalesModel" ({ cls := "DawnTalesModel", name := "tells", desc := "()I" } : Jvm.MethodName) ({ cls := "DawnTalesModel", name := "tells", desc := "()I" } : Jvm.MethodName)) : Jvm.Cond) ∈ am_T := am_mem (am_c5 (List.mem_of_getElem? (i := 99) rfl)) rfl
theorem tw_1060 : ((Jvm.Cond.code ({ cls := "DawnTalesModel", name := "tells", desc := "()I" } : Jvm.MethodName) prog_14_method_31_code (1 : Nat) (Option.some Jvm.ClassFile.FieldType.int)) : Jvm.Cond) ∈ am_T := am_mem (am_c5 (List.mem_of_getElem? (i := 100) rfl)) rfl
theorem tw_1061 : ((Jvm.Cond.methodLink "DawnTalesLaw" (47 : Nat) ({ cls := "DawnTalesModel", name := "silent", desc := "()I" } : Jvm.MethodName)) : Jvm.Cond) ∈ am_T := am_mem (am_c5 (List.mem_of_getElem? (i := 101) rfl)) rfl
theorem tw_1062 : ((Jvm.Cond.instanceMethod ({ cls := "DawnTalesModel", name := "silent", desc := "()I" } : Jvm.MethodName)) : Jvm.Cond) ∈ am_T := am_mem (am_c5 (List.mem_of_getElem? (i := 102) rfl)) rfl
theorem tw_1063 : ((Jvm.Cond.selects "DawnTalesModel" ({ cls := "DawnTalesModel", name := "silent", desc := "()I" } : Jvm.MethodName) ({ cls := "DawnTalesModel", name := "silent", desc := "()I" } : Jvm.MethodName)) : Jvm.Cond) ∈ am_T := am_mem (am_c5 (List.mem_of_getElem? (i := 103) rfl)) rfl
theorem tw_1064 : ((Jvm.Cond.code ({ cls := "DawnTalesModel", name := "silent", desc := "()I" } : Jvm.MethodName) prog_14_method_32_code (1 : Nat) (Option.some Jvm.ClassFile.FieldType.int)) : Jvm.Cond) ∈ am_T := am_mem (am_c5 (List.mem_of_getElem? (i := 104) rfl)) rfl
theorem tw_1065 : ((Jvm.Cond.methodLink "DawnTalesLaw" (51 : Nat) ({ cls := "DawnTalesModel", name := "dawn", desc := "()I" } : Jvm.MethodName)) : Jvm.Cond) ∈ am_T := am_mem (am_c5 (List.mem_of_getElem? (i := 105) rfl)) rfl
theorem tw_1066 : ((Jvm.Cond.instanceMethod ({ cls := "DawnTalesModel", name := "dawn", desc := "()I" } : Jvm.MethodName)) : Jvm.Cond) ∈ am_T := am_mem (am_c5 (List.mem_of_getElem? (i := 106) rfl)) rfl
theorem tw_1067 : ((Jvm.Cond.selects "DawnTalesModel" ({ cls := "DawnTalesModel", name := "dawn", desc := "()I" } : Jvm.MethodName) ({ cls := "DawnTalesModel", name := "dawn", desc := "()I" } : Jvm.MethodName)) : Jvm.Cond) ∈ am_T := am_mem (am_c5 (List.mem_of_getElem? (i := 107) rfl)) rfl
theorem tw_1068 : ((Jvm.Cond.code ({ cls := "DawnTalesModel", name := "dawn", desc := "()I" } : Jvm.MethodName) prog_14_method_33_code (2 : Nat) (Option.some Jvm.ClassFile.FieldType.int)) : Jvm.Cond) ∈ am_T := am_mem (am_c5 (List.mem_of_getElem? (i := 108) rfl)) rfl
theorem tw_1069 : ((Jvm.Cond.methodLink "DawnTalesModel" (195 : Nat) ({ cls := "DawnTalesModel", name := "dawns", desc := "([I)Z" } : Jvm.MethodName)) : Jvm.Cond) ∈ am_T := am_mem (am_c5 (List.mem_of_getElem? (i := 109) rfl)) rfl
theorem tw_1071 : ((Jvm.Cond.instanceMethod ({ cls := "DawnTalesModel", name := "dawns", desc := "([I)Z" } : Jvm.MethodName)) : Jvm.Cond) ∈ am_T := am_mem (am_c5 (List.mem_of_getElem? (i := 111) rfl)) rfl
theorem tw_1072 : ((Jvm.Cond.code ({ cls := "DawnTalesModel", name := "dawns", desc := "([I)Z" } : Jvm.MethodName) prog_14_method_25_code (4 : Nat) (Option.some Jvm.ClassFile.FieldType.boolean)) : Jvm.Cond) ∈ am_T := am_mem (am_c5 (List.mem_of_getElem? (i := 112) rfl)) rfl
theorem tw_1073 : ((Jvm.Cond.methodLink "DawnTalesLaw" (55 : Nat) ({ cls := "DawnTalesModel", name := "undo", desc := "()I" } : Jvm.MethodName)) : Jvm.Cond) ∈ am_T := am_mem (am_c5 (List.mem_of_getElem? (i := 113) rfl)) rfl
theorem tw_1074 : ((Jvm.Cond.instanceMethod ({ cls := "DawnTalesModel", name := "undo", desc := "()I" } : Jvm.MethodName)) : Jvm.Cond) ∈ am_T := am_mem (am_c5 (List.mem_of_getElem? (i := 114) rfl)) rfl
theorem tw_1075 : ((Jvm.Cond.selects "DawnTalesModel" ({ cls := "DawnTalesModel", name := "undo", desc := "()I" } : Jvm.MethodName) ({ cls := "DawnTalesModel", name := "undo", desc := "()I" } : Jvm.MethodName)) : Jvm.Cond) ∈ am_T := am_mem (am_c5 (List.mem_of_getElem? (i := 115) rfl)) rfl
theorem tw_1076 : ((Jvm.Cond.code ({ cls := "DawnTalesModel", name := "undo", desc := "()I" } : Jvm.MethodName) prog_14_method_34_code (2 : Nat) (Option.some Jvm.ClassFile.FieldType.int)) : Jvm.Cond) ∈ am_T := am_mem (am_c5 (List.mem_of_getElem? (i := 116) rfl)) rfl
theorem tw_1077 : ((Jvm.Cond.methodLink "DawnTalesLaw" (59 : Nat) ({ cls := "DawnTalesModel", name := "now", desc := "(I)I" } : Jvm.MethodName)) : Jvm.Cond) ∈ am_T := am_mem (am_c5 (List.mem_of_getElem? (i := 117) rfl)) rfl
theorem tw_1078 : ((Jvm.Cond.instanceMethod ({ cls := "DawnTalesModel", name := "now", desc := "(I)I" } : Jvm.MethodName)) : Jvm.Cond) ∈ am_T := am_mem (am_c5 (List.mem_of_getElem? (i := 118) rfl)) rfl
theorem tw_1079 : ((Jvm.Cond.selects "DawnTalesModel" ({ cls := "DawnTalesModel", name := "now", desc := "(I)I" } : Jvm.MethodName) ({ cls := "DawnTalesModel", name := "now", desc := "(I)I" } : Jvm.MethodName)) : Jvm.Cond) ∈ am_T := am_mem (am_c5 (List.mem_of_getElem? (i := 119) rfl)) rfl
theorem tw_1080 : ((Jvm.Cond.code ({ cls := "DawnTalesModel", name := "now", desc := "(I)I" } : Jvm.MethodName) prog_14_method_35_code (5 : Nat) (Option.some Jvm.ClassFile.FieldType.int)) : Jvm.Cond) ∈ am_T := am_mem (am_c5 (List.mem_of_getElem? (i := 120) rfl)) rfl
theorem tw_1081 : ((Jvm.Cond.methodLink "DawnTalesLaw" (63 : Nat) ({ cls := "DawnTalesModel", name := "on", desc := "()I" } : Jvm.MethodName)) : Jvm.Cond) ∈ am_T := am_mem (am_c5 (List.mem_of_getElem? (i := 121) rfl)) rfl
theorem tw_1082 : ((Jvm.Cond.instanceMethod ({ cls := "DawnTalesModel", name := "on", desc := "()I" } : Jvm.MethodName)) : Jvm.Cond) ∈ am_T := am_mem (am_c5 (List.mem_of_getElem? (i := 122) rfl)) rfl
theorem tw_1083 : ((Jvm.Cond.selects "DawnTalesModel" ({ cls := "DawnTalesModel", name := "on", desc := "()I" } : Jvm.MethodName) ({ cls := "DawnTalesModel", name := "on", desc := "()I" } : Jvm.MethodName)) : Jvm.Cond) ∈ am_T := am_mem (am_c5 (List.mem_of_getElem? (i := 123) rfl)) rfl
theorem tw_1084 : ((Jvm.Cond.code ({ cls := "DawnTalesModel", name := "on", desc := "()I" } : Jvm.MethodName) prog_14_method_36_code (2 : Nat) (Option.some Jvm.ClassFile.FieldType.int)) : Jvm.Cond) ∈ am_T := am_mem (am_c5 (List.mem_of_getElem? (i := 124) rfl)) rfl
theorem tw_1085 : ((Jvm.Cond.methodLink "DawnTalesLaw" (67 : Nat) ({ cls := "DawnTalesModel", name := "by", desc := "(I)I" } : Jvm.MethodName)) : Jvm.Cond) ∈ am_T := am_mem (am_c5 (List.mem_of_getElem? (i := 125) rfl)) rfl
theorem tw_1086 : ((Jvm.Cond.instanceMethod ({ cls := "DawnTalesModel", name := "by", desc := "(I)I" } : Jvm.MethodName)) : Jvm.Cond) ∈ am_T := am_mem (am_c5 (List.mem_of_getElem? (i := 126) rfl)) rfl
theorem tw_1087 : ((Jvm.Cond.selects "DawnTalesModel" ({ cls := "DawnTalesModel", name := "by", desc := "(I)I" } : Jvm.MethodName) ({ cls := "DawnTalesModel", name := "by", desc := "(I)I" } : Jvm.MethodName)) : Jvm.Cond) ∈ am_T := am_mem (am_c5 (List.mem_of_getElem? (i := 127) rfl)) rfl
theorem tw_1088 : ((Jvm.Cond.code ({ cls := "DawnTalesModel", name := "by", desc := "(I)I" } : Jvm.MethodName) prog_14_method_38_code (6 : Nat) (Option.some Jvm.ClassFile.FieldType.int)) : Jvm.Cond) ∈ am_T := am_mem (am_c5 (List.mem_of_getElem? (i := 128) rfl)) rfl
theorem tw_1089 : ((Jvm.Cond.constant "DawnTalesModel" (202 : Nat) (1000000 : Int32)) : Jvm.Cond) ∈ am_T := am_mem (am_c5 (List.mem_of_getElem? (i := 129) rfl)) rfl
theorem tw_1090 : ((Jvm.Cond.methodLink "DawnTalesModel" (203 : Nat) ({ cls := "DawnTalesModel", name := "saves", desc := "()I" } : Jvm.MethodName)) : Jvm.Cond) ∈ am_T := am_mem (am_c5 (List.mem_of_getElem? (i := 130) rfl)) rfl
theorem tw_1092 : ((Jvm.Cond.instanceMethod ({ cls := "DawnTalesModel", name := "saves", desc := "()I" } : Jvm.MethodName)) : Jvm.Cond) ∈ am_T := am_mem (am_c5 (List.mem_of_getElem? (i := 132) rfl)) rfl
theorem tw_1093 : ((Jvm.Cond.code ({ cls := "DawnTalesModel", name := "saves", desc := "()I" } : Jvm.MethodName) prog_14_method_37_code (4 : Nat) (Option.some Jvm.ClassFile.FieldType.int)) : Jvm.Cond) ∈ am_T := am_mem (am_c5 (List.mem_of_getElem? (i := 133) rfl)) rfl
theorem tw_1094 : ((Jvm.Cond.methodLink "DawnTalesLaw" (71 : Nat) ({ cls := "DawnTalesModel", name := "best", desc := "(I)I" } : Jvm.MethodName)) : Jvm.Cond) ∈ am_T := am_mem (am_c5 (List.mem_of_getElem? (i := 134) rfl)) rfl
theorem tw_1095 : ((Jvm.Cond.instanceMethod ({ cls := "DawnTalesModel", name := "best", desc := "(I)I" } : Jvm.MethodName)) : Jvm.Cond) ∈ am_T := am_mem (am_c5 (List.mem_of_getElem? (i := 135) rfl)) rfl
theorem tw_1096 : ((Jvm.Cond.selects "DawnTalesModel" ({ cls := "DawnTalesModel", name := "best", desc := "(I)I" } : Jvm.MethodName) ({ cls := "DawnTalesModel", name := "best", desc := "(I)I" } : Jvm.MethodName)) : Jvm.Cond) ∈ am_T := am_mem (am_c5 (List.mem_of_getElem? (i := 136) rfl)) rfl
theorem tw_1097 : ((Jvm.Cond.code ({ cls := "DawnTalesModel", name := "best", desc := "(I)I" } : Jvm.MethodName) prog_14_method_45_code (2 : Nat) (Option.some Jvm.ClassFile.FieldType.int)) : Jvm.Cond) ∈ am_T := am_mem (am_c5 (List.mem_of_getElem? (i := 137) rfl)) rfl
theorem tw_1098 : ((Jvm.Cond.methodLink "DawnTalesModel" (228 : Nat) ({ cls := "DawnTalesModel", name := "finds", desc := "()V" } : Jvm.MethodName)) : Jvm.Cond) ∈ am_T := am_mem (am_c5 (List.mem_of_getElem? (i := 138) rfl)) rfl
theorem tw_1100 : ((Jvm.Cond.instanceMethod ({ cls := "DawnTalesModel", name := "finds", desc := "()V" } : Jvm.MethodName)) : Jvm.Cond) ∈ am_T := am_mem (am_c5 (List.mem_of_getElem? (i := 140) rfl)) rfl
theorem tw_1101 : ((Jvm.Cond.code ({ cls := "DawnTalesModel", name := "finds", desc := "()V" } : Jvm.MethodName) prog_14_method_44_code (4 : Nat) (Option.none : Option Jvm.ClassFile.FieldType)) : Jvm.Cond) ∈ am_T := am_mem (am_c5 (List.mem_of_getElem? (i := 141) rfl)) rfl
theorem tw_1102 : ((Jvm.Cond.methodLink "DawnTalesModel" (219 : Nat) ({ cls := "DawnTalesModel", name := "starts", desc := "(I)Z" } : Jvm.MethodName)) : Jvm.Cond) ∈ am_T := am_mem (am_c5 (List.mem_of_getElem? (i := 142) rfl)) rfl
theorem tw_1104 : ((Jvm.Cond.instanceMethod ({ cls := "DawnTalesModel", name := "starts", desc := "(I)Z" } : Jvm.MethodName)) : Jvm.Cond) ∈ am_T := am_mem (am_c5 (List.mem_of_getElem? (i := 144) rfl)) rfl
theorem tw_1105 : ((Jvm.Cond.code ({ cls := "DawnTalesModel", name := "starts", desc := "(I)Z" } : Jvm.MethodName) prog_14_method_43_code (2 : Nat) (Option.some Jvm.ClassFile.FieldType.boolean)) : Jvm.Cond) ∈ am_T := am_mem (am_c5 (List.mem_of_getElem? (i := 145) rfl)) rfl
theorem tw_1106 : ((Jvm.Cond.methodLink "DawnTalesModel" (210 : Nat) ({ cls := "DawnTalesModel", name := "fills", desc := "(I)Z" } : Jvm.MethodName)) : Jvm.Cond) ∈ am_T := am_mem (am_c5 (List.mem_of_getElem? (i := 146) rfl)) rfl
theorem tw_1108 : ((Jvm.Cond.instanceMethod ({ cls := "DawnTalesModel", name := "fills", desc := "(I)Z" } : Jvm.MethodName)) : Jvm.Cond) ∈ am_T := am_mem (am_c5 (List.mem_of_getElem? (i := 148) rfl)) rfl
theorem tw_1109 : ((Jvm.Cond.code ({ cls := "DawnTalesModel", name := "fills", desc := "(I)Z" } : Jvm.MethodName) prog_14_method_42_code (3 : Nat) (Option.some Jvm.ClassFile.FieldType.boolean)) : Jvm.Cond) ∈ am_T := am_mem (am_c5 (List.mem_of_getElem? (i := 149) rfl)) rfl
theorem tw_1110 : ((Jvm.Cond.methodLink "DawnTalesModel" (207 : Nat) ({ cls := "DawnTalesModel", name := "isMet", desc := "(I)Z" } : Jvm.MethodName)) : Jvm.Cond) ∈ am_T := am_mem (am_c5 (List.mem_of_getElem? (i := 150) rfl)) rfl
theorem tw_1112 : ((Jvm.Cond.instanceMethod ({ cls := "DawnTalesModel", name := "isMet", desc := "(I)Z" } : Jvm.MethodName)) : Jvm.Cond) ∈ am_T := am_mem (am_c5 (List.mem_of_getElem? (i := 152) rfl)) rfl
theorem tw_1113 : ((Jvm.Cond.code ({ cls := "DawnTalesModel", name := "isMet", desc := "(I)Z" } : Jvm.MethodName) prog_14_method_41_code (4 : Nat) (Option.some Jvm.ClassFile.FieldType.boolean)) : Jvm.Cond) ∈ am_T := am_mem (am_c5 (List.mem_of_getElem? (i := 153) rfl)) rfl
theorem tw_1114 : ((Jvm.Cond.methodLink "DawnTalesModel" (222 : Nat) ({ cls := "DawnTalesModel", name := "code", desc := "()I" } : Jvm.MethodName)) : Jvm.Cond) ∈ am_T := am_mem (am_c5 (List.mem_of_getElem? (i := 154) rfl)) rfl
theorem tw_1116 : ((Jvm.Cond.instanceMethod ({ cls := "DawnTalesModel", name := "code", desc := "()I" } : Jvm.MethodName)) : Jvm.Cond) ∈ am_T := am_mem (am_c5 (List.mem_of_getElem? (i := 156) rfl)) rfl
theorem tw_1117 : ((Jvm.Cond.code ({ cls := "DawnTalesModel", name := "code", desc := "()I" } : Jvm.MethodName) prog_14_method_39_code (3 : Nat) (Option.some Jvm.ClassFile.FieldType.int)) : Jvm.Cond) ∈ am_T := am_mem (am_c5 (List.mem_of_getElem? (i := 157) rfl)) rfl
theorem tw_1118 : ((Jvm.Cond.methodLink "DawnTalesModel" (225 : Nat) ({ cls := "DawnTalesModel", name := "turns", desc := "()Z" } : Jvm.MethodName)) : Jvm.Cond) ∈ am_T := am_mem (am_c5 (List.mem_of_getElem? (i := 158) rfl)) rfl
theorem tw_1120 : ((Jvm.Cond.instanceMethod ({ cls := "DawnTalesModel", name := "turns", desc := "()Z" } : Jvm.MethodName)) : Jvm.Cond) ∈ am_T := am_mem (am_c5 (List.mem_of_getElem? (i := 160) rfl)) rfl
theorem tw_1121 : ((Jvm.Cond.code ({ cls := "DawnTalesModel", name := "turns", desc := "()Z" } : Jvm.MethodName) prog_14_method_40_code (2 : Nat) (Option.some Jvm.ClassFile.FieldType.boolean)) : Jvm.Cond) ∈ am_T := am_mem (am_c5 (List.mem_of_getElem? (i := 161) rfl)) rfl
theorem tw_1122 : ((Jvm.Cond.methodLink "DawnTalesLaw" (75 : Nat) ({ cls := "DawnTalesModel", name := "fewest", desc := "(II)I" } : Jvm.MethodName)) : Jvm.Cond) ∈ am_T := am_mem (am_c5 (List.mem_of_getElem? (i := 162) rfl)) rfl
theorem tw_1123 : ((Jvm.Cond.instanceMethod ({ cls := "DawnTalesModel", name := "fewest", desc := "(II)I" } : Jvm.MethodName)) : Jvm.Cond) ∈ am_T := am_mem (am_c5 (List.mem_of_getElem? (i := 163) rfl)) rfl
theorem tw_1124 : ((Jvm.Cond.selects "DawnTalesModel" ({ cls := "DawnTalesModel", name := "fewest", desc := "(II)I" } : Jvm.MethodName) ({ cls := "DawnTalesModel", name := "fewest", desc := "(II)I" } : Jvm.MethodName)) : Jvm.Cond) ∈ am_T := am_mem (am_c5 (List.mem_of_getElem? (i := 164) rfl)) rfl
theorem tw_1125 : ((Jvm.Cond.code ({ cls := "DawnTalesModel", name := "fewest", desc := "(II)I" } : Jvm.MethodName) prog_14_method_46_code (5 : Nat) (Option.some Jvm.ClassFile.FieldType.int)) : Jvm.Cond) ∈ am_T := am_mem (am_c5 (List.mem_of_getElem? (i := 165) rfl)) rfl
theorem tw_1126 : ((Jvm.Cond.constantLong "DawnTalesModel" (231 : Nat) (30 : Int64)) : Jvm.Cond) ∈ am_T := am_mem (am_c5 (List.mem_of_getElem? (i := 166) rfl)) rfl
theorem tw_1127 : ((Jvm.Cond.methodLink "DawnTalesLaw" (79 : Nat) ({ cls := "DawnTalesModel", name := "mind", desc := "(II)I" } : Jvm.MethodName)) : Jvm.Cond) ∈ am_T := am_mem (am_c5 (List.mem_of_getElem? (i := 167) rfl)) rfl
theorem tw_1128 : ((Jvm.Cond.instanceMethod ({ cls := "DawnTalesModel", name := "mind", desc := "(II)I" } : Jvm.MethodName)) : Jvm.Cond) ∈ am_T := am_mem (am_c5 (List.mem_of_getElem? (i := 168) rfl)) rfl
theorem tw_1129 : ((Jvm.Cond.selects "DawnTalesModel" ({ cls := "DawnTalesModel", name := "mind", desc := "(II)I" } : Jvm.MethodName) ({ cls := "DawnTalesModel", name := "mind", desc := "(II)I" } : Jvm.MethodName)) : Jvm.Cond) ∈ am_T := am_mem (am_c5 (List.mem_of_getElem? (i := 169) rfl)) rfl
theorem tw_1130 : ((Jvm.Cond.code ({ cls := "DawnTalesModel", name := "mind", desc := "(II)I" } : Jvm.MethodName) prog_14_method_47_code (10 : Nat) (Option.some Jvm.ClassFile.FieldType.int)) : Jvm.Cond) ∈ am_T := am_mem (am_c5 (List.mem_of_getElem? (i := 170) rfl)) rfl
theorem tw_1131 : ((Jvm.Cond.methodLink "DawnTalesLaw" (83 : Nat) ({ cls := "DawnTalesModel", name := "bars", desc := "(I)I" } : Jvm.MethodName)) : Jvm.Cond) ∈ am_T := am_mem (am_c5 (List.mem_of_getElem? (i := 171) rfl)) rfl
theorem tw_1132 : ((Jvm.Cond.instanceMethod ({ cls := "DawnTalesModel", name := "bars", desc := "(I)I" } : Jvm.MethodName)) : Jvm.Cond) ∈ am_T := am_mem (am_c5 (List.mem_of_getElem? (i := 172) rfl)) rfl
theorem tw_1133 : ((Jvm.Cond.selects "DawnTalesModel" ({ cls := "DawnTalesModel", name := "bars", desc := "(I)I" } : Jvm.MethodName) ({ cls := "DawnTalesModel", name := "bars", desc := "(I)I" } : Jvm.MethodName)) : Jvm.Cond) ∈ am_T := am_mem (am_c5 (List.mem_of_getElem? (i := 173) rfl)) rfl
theorem tw_1134 : ((Jvm.Cond.code ({ cls := "DawnTalesModel", name := "bars", desc := "(I)I" } : Jvm.MethodName) prog_14_method_48_code (8 : Nat) (Option.some Jvm.ClassFile.FieldType.int)) : Jvm.Cond) ∈ am_T := am_mem (am_c5 (List.mem_of_getElem? (i := 174) rfl)) rfl
theorem tw_1135 : ((Jvm.Cond.methodLink "DawnTalesLaw" (87 : Nat) ({ cls := "DawnTalesModel", name := "longer", desc := "()I" } : Jvm.MethodName)) : Jvm.Cond) ∈ am_T := am_mem (am_c5 (List.mem_of_getElem? (i := 175) rfl)) rfl
theorem tw_1136 : ((Jvm.Cond.instanceMethod ({ cls := "DawnTalesModel", name := "longer", desc := "()I" } : Jvm.MethodName)) : Jvm.Cond) ∈ am_T := am_mem (am_c5 (List.mem_of_getElem? (i := 176) rfl)) rfl
theorem tw_1137 : ((Jvm.Cond.selects "DawnTalesModel" ({ cls := "DawnTalesModel", name := "longer", desc := "()I" } : Jvm.MethodName) ({ cls := "DawnTalesModel", name := "longer", desc := "()I" } : Jvm.MethodName)) : Jvm.Cond) ∈ am_T := am_mem (am_c5 (List.mem_of_getElem? (i := 177) rfl)) rfl
theorem tw_1138 : ((Jvm.Cond.code ({ cls := "DawnTalesModel", name := "longer", desc := "()I" } : Jvm.MethodName) prog_14_method_49_code (2 : Nat) (Option.some Jvm.ClassFile.FieldType.int)) : Jvm.Cond) ∈ am_T := am_mem (am_c5 (List.mem_of_getElem? (i := 178) rfl)) rfl
theorem tw_1139 : ((Jvm.Cond.methodLink "DawnTalesLaw" (91 : Nat) ({ cls := "DawnTalesModel", name := "heard", desc := "(II)I" } : Jvm.MethodName)) : Jvm.Cond) ∈ am_T := am_mem (am_c5 (List.mem_of_getElem? (i := 179) rfl)) rfl
theorem tw_1140 : ((Jvm.Cond.instanceMethod ({ cls := "DawnTalesModel", name := "heard", desc := "(II)I" } : Jvm.MethodName)) : Jvm.Cond) ∈ am_T := am_mem (am_c5 (List.mem_of_getElem? (i := 180) rfl)) rfl
theorem tw_1141 : ((Jvm.Cond.selects "DawnTalesModel" ({ cls := "DawnTalesModel", name := "heard", desc := "(II)I" } : Jvm.MethodName) ({ cls := "DawnTalesModel", name := "heard", desc := "(II)I" } : Jvm.MethodName)) : Jvm.Cond) ∈ am_T := am_mem (am_c5 (List.mem_of_getElem? (i := 181) rfl)) rfl
theorem tw_1142 : ((Jvm.Cond.code ({ cls := "DawnTalesModel", name := "heard", desc := "(II)I" } : Jvm.MethodName) prog_14_method_50_code (3 : Nat) (Option.some Jvm.ClassFile.FieldType.int)) : Jvm.Cond) ∈ am_T := am_mem (am_c5 (List.mem_of_getElem? (i := 182) rfl)) rfl
theorem tw_1143 : ((Jvm.Cond.constantLong "DawnTalesModel" (233 : Nat) (6 : Int64)) : Jvm.Cond) ∈ am_T := am_mem (am_c5 (List.mem_of_getElem? (i := 183) rfl)) rfl
theorem tw_1144 : ((Jvm.Cond.methodLink "DawnTalesLaw" (95 : Nat) ({ cls := "DawnTalesModel", name := "forget", desc := "()I" } : Jvm.MethodName)) : Jvm.Cond) ∈ am_T := am_mem (am_c5 (List.mem_of_getElem? (i := 184) rfl)) rfl
theorem tw_1145 : ((Jvm.Cond.instanceMethod ({ cls := "DawnTalesModel", name := "forget", desc := "()I" } : Jvm.MethodName)) : Jvm.Cond) ∈ am_T := am_mem (am_c5 (List.mem_of_getElem? (i := 185) rfl)) rfl
theorem tw_1146 : ((Jvm.Cond.selects "DawnTalesModel" ({ cls := "DawnTalesModel", name := "forget", desc := "()I" } : Jvm.MethodName) ({ cls := "DawnTalesModel", name := "forget", desc := "()I" } : Jvm.MethodName)) : Jvm.Cond) ∈ am_T := am_mem (am_c5 (List.mem_of_getElem? (i := 186) rfl)) rfl
theorem tw_1147 : ((Jvm.Cond.code ({ cls := "DawnTalesModel", name := "forget", desc := "()I" } : Jvm.MethodName) prog_14_method_51_code (2 : Nat) (Option.some Jvm.ClassFile.FieldType.int)) : Jvm.Cond) ∈ am_T := am_mem (am_c5 (List.mem_of_getElem? (i := 187) rfl)) rfl
theorem tw_1148 : ((Jvm.Cond.methodLink "DawnTalesLaw" (99 : Nat) ({ cls := "DawnTalesModel", name := "orders", desc := "(I)I" } : Jvm.MethodName)) : Jvm.Cond) ∈ am_T := am_mem (am_c5 (List.mem_of_getElem? (i := 188) rfl)) rfl
theorem tw_1149 : ((Jvm.Cond.instanceMethod ({ cls := "DawnTalesModel", name := "orders", desc := "(I)I" } : Jvm.MethodName)) : Jvm.Cond) ∈ am_T := am_mem (am_c5 (List.mem_of_getElem? (i := 189) rfl)) rfl
theorem tw_1150 : ((Jvm.Cond.selects "DawnTalesModel" ({ cls := "DawnTalesModel", name := "orders", desc := "(I)I" } : Jvm.MethodName) ({ cls := "DawnTalesModel", name := "orders", desc := "(I)I" } : Jvm.MethodName)) : Jvm.Cond) ∈ am_T := am_mem (am_c5 (List.mem_of_getElem? (i := 190) rfl)) rfl
theorem tw_1151 : ((Jvm.Cond.code ({ cls := "DawnTalesModel", name := "orders", desc := "(I)I" } : Jvm.MethodName) prog_14_method_53_code (6 : Nat) (Option.some Jvm.ClassFile.FieldType.int)) : Jvm.Cond) ∈ am_T := am_mem (am_c5 (List.mem_of_getElem? (i := 191) rfl)) rfl
theorem tw_1152 : ((Jvm.Cond.methodLink "DawnTalesModel" (235 : Nat) ({ cls := "DawnTalesModel", name := "isHeard", desc := "(I)Z" } : Jvm.MethodName)) : Jvm.Cond) ∈ am_T := am_mem (am_c5 (List.mem_of_getElem? (i := 192) rfl)) rfl
theorem tw_1154 : ((Jvm.Cond.instanceMethod ({ cls := "DawnTalesModel", name := "isHeard", desc := "(I)Z" } : Jvm.MethodName)) : Jvm.Cond) ∈ am_T := am_mem (am_c5 (List.mem_of_getElem? (i := 194) rfl)) rfl
theorem tw_1155 : ((Jvm.Cond.code ({ cls := "DawnTalesModel", name := "isHeard", desc := "(I)Z" } : Jvm.MethodName) prog_14_method_52_code (4 : Nat) (Option.some Jvm.ClassFile.FieldType.boolean)) : Jvm.Cond) ∈ am_T := am_mem (am_c5 (List.mem_of_getElem? (i := 195) rfl)) rfl
theorem tw_1156 : ((Jvm.Cond.methodLink "DawnTalesLaw" (103 : Nat) ({ cls := "DawnTalesModel", name := "surely", desc := "(I)I" } : Jvm.MethodName)) : Jvm.Cond) ∈ am_T := am_mem (am_c5 (List.mem_of_getElem? (i := 196) rfl)) rfl
theorem tw_1157 : ((Jvm.Cond.instanceMethod ({ cls := "DawnTalesModel", name := "surely", desc := "(I)I" } : Jvm.MethodName)) : Jvm.Cond) ∈ am_T := am_mem (am_c5 (List.mem_of_getElem? (i := 197) rfl)) rfl
theorem tw_1158 : ((Jvm.Cond.selects "DawnTalesModel" ({ cls := "DawnTalesModel", name := "surely", desc := "(I)I" } : Jvm.MethodName) ({ cls := "DawnTalesModel", name := "surely", desc := "(I)I" } : Jvm.MethodName)) : Jvm.Cond) ∈ am_T := am_mem (am_c5 (List.mem_of_getElem? (i := 198) rfl)) rfl
theorem tw_1159 : ((Jvm.Cond.code ({ cls := "DawnTalesModel", name := "surely", desc := "(I)I" } : Jvm.MethodName) prog_14_method_54_code (6 : Nat) (Option.some Jvm.ClassFile.FieldType.int)) : Jvm.Cond) ∈ am_T := am_mem (am_c5 (List.mem_of_getElem? (i := 199) rfl)) rfl
theorem tw_1160 : ((Jvm.Cond.methodLink "DawnTalesLaw" (108 : Nat) ({ cls := "DawnTalesModel", name := "odds", desc := "(III)J" } : Jvm.MethodName)) : Jvm.Cond) ∈ am_T := am_mem (am_c5 (List.mem_of_getElem? (i := 200) rfl)) rfl
theorem tw_1161 : ((Jvm.Cond.instanceMethod ({ cls := "DawnTalesModel", name := "odds", desc := "(III)J" } : Jvm.MethodName)) : Jvm.Cond) ∈ am_T := am_mem (am_c5 (List.mem_of_getElem? (i := 201) rfl)) rfl
theorem tw_1162 : ((Jvm.Cond.selects "DawnTalesModel" ({ cls := "DawnTalesModel", name := "odds", desc := "(III)J" } : Jvm.MethodName) ({ cls := "DawnTalesModel", name := "odds", desc := "(III)J" } : Jvm.MethodName)) : Jvm.Cond) ∈ am_T := am_mem (am_c5 (List.mem_of_getElem? (i := 202) rfl)) rfl
theorem tw_1163 : ((Jvm.Cond.code ({ cls := "DawnTalesModel", name := "odds", desc := "(III)J" } : Jvm.MethodName) prog_14_method_55_code (14 : Nat) (Option.some Jvm.ClassFile.FieldType.long)) : Jvm.Cond) ∈ am_T := am_mem (am_c5 (List.mem_of_getElem? (i := 203) rfl)) rfl
theorem tw_1164 : ((Jvm.Cond.constantLong "DawnTalesModel" (238 : Nat) (10 : Int64)) : Jvm.Cond) ∈ am_T := am_mem (am_c5 (List.mem_of_getElem? (i := 204) rfl)) rfl
theorem tw_1165 : ((Jvm.Cond.constantLong "DawnTalesModel" (240 : Nat) (-1 : Int64)) : Jvm.Cond) ∈ am_T := am_mem (am_c5 (List.mem_of_getElem? (i := 205) rfl)) rfl
theorem tw_1166 : ((Jvm.Cond.methodLink "DawnTalesLaw" (112 : Nat) ({ cls := "DawnTalesModel", name := "mark", desc := "(II)I" } : Jvm.MethodName)) : Jvm.Cond) ∈ am_T := am_mem (am_c5 (List.mem_of_getElem? (i := 206) rfl)) rfl
theorem tw_1167 : ((Jvm.Cond.instanceMethod ({ cls := "DawnTalesModel", name := "mark", desc := "(II)I" } : Jvm.MethodName)) : Jvm.Cond) ∈ am_T := am_mem (am_c5 (List.mem_of_getElem? (i := 207) rfl)) rfl
theorem tw_1168 : ((Jvm.Cond.selects "DawnTalesModel" ({ cls := "DawnTalesModel", name := "mark", desc := "(II)I" } : Jvm.MethodName) ({ cls := "DawnTalesModel", name := "mark", desc := "(II)I" } : Jvm.MethodName)) : Jvm.Cond) ∈ am_T := am_mem (am_c5 (List.mem_of_getElem? (i := 208) rfl)) rfl
theorem tw_1169 : ((Jvm.Cond.code ({ cls := "DawnTalesModel", name := "mark", desc := "(II)I" } : Jvm.MethodName) prog_14_method_56_code (6 : Nat) (Option.some Jvm.ClassFile.FieldType.int)) : Jvm.Cond) ∈ am_T := am_mem (am_c5 (List.mem_of_getElem? (i := 209) rfl)) rfl
theorem tw_1170 : ((Jvm.Cond.constantLong "DawnTalesModel" (242 : Nat) (5 : Int64)) : Jvm.Cond) ∈ am_T := am_mem (am_c5 (List.mem_of_getElem? (i := 210) rfl)) rfl
theorem tw_1171 : ((Jvm.Cond.constant "DawnTalesModel" (244 : Nat) (-1000000 : Int32)) : Jvm.Cond) ∈ am_T := am_mem (am_c5 (List.mem_of_getElem? (i := 211) rfl)) rfl
theorem tw_1172 : ((Jvm.Cond.constantLong "DawnTalesModel" (249 : Nat) (11 : Int64)) : Jvm.Cond) ∈ am_T := am_mem (am_c5 (List.mem_of_getElem? (i := 212) rfl)) rfl
theorem tw_1173 : ((Jvm.Cond.constantLong "DawnTalesModel" (251 : Nat) (101 : Int64)) : Jvm.Cond) ∈ am_T := am_mem (am_c5 (List.mem_of_getElem? (i := 213) rfl)) rfl
theorem tw_1174 : ((Jvm.Cond.constantLong "DawnTalesModel" (253 : Nat) (1011 : Int64)) : Jvm.Cond) ∈ am_T := am_mem (am_c5 (List.mem_of_getElem? (i := 214) rfl)) rfl
theorem tw_1175 : ((Jvm.Cond.constantLong "DawnTalesModel" (255 : Nat) (10101 : Int64)) : Jvm.Cond) ∈ am_T := am_mem (am_c5 (List.mem_of_getElem? (i := 215) rfl)) rfl
theorem tw_1176 : ((Jvm.Cond.constantLong "DawnTalesModel" (257 : Nat) (100001 : Int64)) : Jvm.Cond) ∈ am_T := am_mem (am_c5 (List.mem_of_getElem? (i := 216) rfl)) rfl
theorem tw_1177 : ((Jvm.Cond.methodLink "DawnTalesLaw" (129 : Nat) ({ cls := "DawnTalesModel", name := "trace", desc := "()J" } : Jvm.MethodName)) : Jvm.Cond) ∈ am_T := am_mem (am_c5 (List.mem_of_getElem? (i := 217) rfl)) rfl
theorem tw_1178 : ((Jvm.Cond.instanceMethod ({ cls := "DawnTalesModel", name := "trace", desc := "()J" } : Jvm.MethodName)) : Jvm.Cond) ∈ am_T := am_mem (am_c5 (List.mem_of_getElem? (i := 218) rfl)) rfl
theorem tw_1179 : ((Jvm.Cond.selects "DawnTalesModel" ({ cls := "DawnTalesModel", name := "trace", desc := "()J" } : Jvm.MethodName) ({ cls := "DawnTalesModel", name := "trace", desc := "()J" } : Jvm.MethodName)) : Jvm.Cond) ∈ am_T := am_mem (am_c5 (List.mem_of_getElem? (i := 219) rfl)) rfl
theorem tw_1180 : ((Jvm.Cond.code ({ cls := "DawnTalesModel", name := "trace", desc := "()J" } : Jvm.MethodName) prog_14_method_57_code (1 : Nat) (Option.some Jvm.ClassFile.FieldType.long)) : Jvm.Cond) ∈ am_T := am_mem (am_c5 (List.mem_of_getElem? (i := 220) rfl)) rfl
theorem tw_1181 : ((Jvm.Cond.methodLink "DawnTalesLaw" (116 : Nat) ({ cls := "DawnTalesModel", name := "keep", desc := "(I)I" } : Jvm.MethodName)) : Jvm.Cond) ∈ am_T := am_mem (am_c5 (List.mem_of_getElem? (i := 221) rfl)) rfl
theorem tw_1182 : ((Jvm.Cond.instanceMethod ({ cls := "DawnTalesModel", name := "keep", desc := "(I)I" } : Jvm.MethodName)) : Jvm.Cond) ∈ am_T := am_mem (am_c5 (List.mem_of_getElem? (i := 222) rfl)) rfl
theorem tw_1183 : ((Jvm.Cond.selects "DawnTalesModel" ({ cls := "DawnTalesModel", name := "keep", desc := "(I)I" } : Jvm.MethodName) ({ cls := "DawnTalesModel", name := "keep", desc := "(I)I" } : Jvm.MethodName)) : Jvm.Cond) ∈ am_T := am_mem (am_c5 (List.mem_of_getElem? (i := 223) rfl)) rfl
theorem tw_1184 : ((Jvm.Cond.code ({ cls := "DawnTalesModel", name := "keep", desc := "(I)I" } : Jvm.MethodName) prog_14_method_58_code (4 : Nat) (Option.some Jvm.ClassFile.FieldType.int)) : Jvm.Cond) ∈ am_T := am_mem (am_c5 (List.mem_of_getElem? (i := 224) rfl)) rfl
theorem tw_1185 : ((Jvm.Cond.methodLink "DawnTalesLaw" (120 : Nat) ({ cls := "DawnTalesModel", name := "back", desc := "(I)I" } : Jvm.MethodName)) : Jvm.Cond) ∈ am_T := am_mem (am_c5 (List.mem_of_getElem? (i := 225) rfl)) rfl
theorem tw_1186 : ((Jvm.Cond.instanceMethod ({ cls := "DawnTalesModel", name := "back", desc := "(I)I" } : Jvm.MethodName)) : Jvm.Cond) ∈ am_T := am_mem (am_c5 (List.mem_of_getElem? (i := 226) rfl)) rfl
theorem tw_1187 : ((Jvm.Cond.selects "DawnTalesModel" ({ cls := "DawnTalesModel", name := "back", desc := "(I)I" } : Jvm.MethodName) ({ cls := "DawnTalesModel", name := "back", desc := "(I)I" } : Jvm.MethodName)) : Jvm.Cond) ∈ am_T := am_mem (am_c5 (List.mem_of_getElem? (i := 227) rfl)) rfl
theorem tw_1188 : ((Jvm.Cond.code ({ cls := "DawnTalesModel", name := "back", desc := "(I)I" } : Jvm.MethodName) prog_14_method_59_code (4 : Nat) (Option.some Jvm.ClassFile.FieldType.int)) : Jvm.Cond) ∈ am_T := am_mem (am_c5 (List.mem_of_getElem? (i := 228) rfl)) rfl
theorem tw_1189 : ((Jvm.Cond.methodLink "DawnTalesLaw" (124 : Nat) ({ cls := "DawnTalesModel", name := "count", desc := "(I)I" } : Jvm.MethodName)) : Jvm.Cond) ∈ am_T := am_mem (am_c5 (List.mem_of_getElem? (i := 229) rfl)) rfl
theorem tw_1190 : ((Jvm.Cond.instanceMethod ({ cls := "DawnTalesModel", name := "count", desc := "(I)I" } : Jvm.MethodName)) : Jvm.Cond) ∈ am_T := am_mem (am_c5 (List.mem_of_getElem? (i := 230) rfl)) rfl
theorem tw_1191 : ((Jvm.Cond.selects "DawnTalesModel" ({ cls := "DawnTalesModel", name := "count", desc := "(I)I" } : Jvm.MethodName) ({ cls := "DawnTalesModel", name := "count", desc := "(I)I" } : Jvm.MethodName)) : Jvm.Cond) ∈ am_T := am_mem (am_c5 (List.mem_of_getElem? (i := 231) rfl)) rfl
theorem tw_1192 : ((Jvm.Cond.code ({ cls := "DawnTalesModel", name := "count", desc := "(I)I" } : Jvm.MethodName) prog_14_method_60_code (2 : Nat) (Option.some Jvm.ClassFile.FieldType.int)) : Jvm.Cond) ∈ am_T := am_mem (am_c5 (List.mem_of_getElem? (i := 232) rfl)) rfl
theorem tw_1193 : ((Jvm.Cond.sameMethod "DawnTales$RingKind" "DawnTales$RingKind" "marked" "(LDawnTales$Book;LDawnTales$Telling;I)I") : Jvm.Cond) ∈ am_T := am_mem (am_c5 (List.mem_of_getElem? (i := 233) rfl)) rfl
theorem tw_1194 : ((Jvm.Cond.sameMethod "DawnTales$BorrowedKind" "DawnTales$BorrowedKind" "marked" "(LDawnTales$Book;LDawnTales$Telling;I)I") : Jvm.Cond) ∈ am_T := am_mem (am_c5 (List.mem_of_getElem? (i := 234) rfl)) rfl
theorem tw_1195 : ((Jvm.Cond.castable "DawnTales$BorrowedKind" "DawnTales$TaleKind") : Jvm.Cond) ∈ lw_tbl := am_c5 (List.mem_of_getElem? (i := 235) rfl)
theorem tw_1196 : ((Jvm.Cond.castable "DawnTales$RingKind" "DawnTales$TaleKind") : Jvm.Cond) ∈ lw_tbl := am_c5 (List.mem_of_getElem? (i := 236) rfl)
theorem tw_1197 : ((Jvm.Cond.castable "DawnTales$TrueKind" "DawnTales$TaleKind") : Jvm.Cond) ∈ lw_tbl := am_c5 (List.mem_of_getElem? (i := 237) rfl)
theorem tw_1198 : ((Jvm.Cond.castable "DawnTales$EndlessKind" "DawnTales$TaleKind") : Jvm.Cond) ∈ lw_tbl := am_c5 (List.mem_of_getElem? (i := 238) rfl)
theorem tw_1199 : ((Jvm.Cond.castable "DawnTales$JokeKind" "DawnTales$TaleKind") : Jvm.Cond) ∈ lw_tbl := am_c5 (List.mem_of_getElem? (i := 239) rfl)
theorem twp_0 : (Jvm.Cond.selects "DawnTales" ({ cls := "DawnTales", name := "startAnew", desc := "()V" } : Jvm.MethodName) ({ cls := "DawnTales", name := "startAnew", desc := "()V" } : Jvm.MethodName) : Jvm.Cond) ∈ am_T := am_mem (am_pv (q := (⟨"DawnTales", "startAnew", "()V"⟩, 11)) (List.mem_append_left _ (List.mem_of_getElem? (i := 0) rfl))) rfl
theorem twp_1 : (Jvm.Cond.selects "DawnTales" ({ cls := "DawnTales", name := "isAsHeard", desc := "(I)Z" } : Jvm.MethodName) ({ cls := "DawnTales", name := "isAsHeard", desc := "(I)Z" } : Jvm.MethodName) : Jvm.Cond) ∈ am_T := am_mem (am_pv (q := (⟨"DawnTales", "isAsHeard", "(I)Z"⟩, 11)) (List.mem_append_left _ (List.mem_of_getElem? (i := 1) rfl))) rfl
theorem twp_2 : (Jvm.Cond.selects "DawnTalesModel" ({ cls := "DawnTalesModel", name := "plain", desc := "()V" } : Jvm.MethodName) ({ cls := "DawnTalesModel", name := "plain", desc := "()V" } : Jvm.MethodName) : Jvm.Cond) ∈ am_T := am_mem (am_pv (q := (⟨"DawnTalesModel", "plain", "()V"⟩, 37)) (List.mem_append_left _ (List.mem_of_getElem? (i := 2) rfl))) rfl
theorem twp_3 : (Jvm.Cond.selects "DawnTalesModel" ({ cls := "DawnTalesModel", name := "takes", desc := "()V" } : Jvm.MethodName) ({ cls := "DawnTalesModel", name := "takes", desc := "()V" } : Jvm.MethodName) : Jvm.Cond) ∈ am_T := am_mem (am_pv (q := (⟨"DawnTalesModel", "takes", "()V"⟩, 37)) (List.mem_append_left _ (List.mem_of_getElem? (i := 3) rfl))) rfl
theorem twp_4 : (Jvm.Cond.selects "DawnTalesModel" ({ cls := "DawnTalesModel", name := "beginsAnew", desc := "()V" } : Jvm.MethodName) ({ cls := "DawnTalesModel", name := "beginsAnew", desc := "()V" } : Jvm.MethodName) : Jvm.Cond) ∈ am_T := am_mem (am_pv (q := (⟨"DawnTalesModel", "beginsAnew", "()V"⟩, 37)) (List.mem_append_left _ (List.mem_of_getElem? (i := 4) rfl))) rfl
theorem twp_5 : (Jvm.Cond.selects "DawnTalesModel" ({ cls := "DawnTalesModel", name := "hoursOf", desc := "(I)I" } : Jvm.MethodName) ({ cls := "DawnTalesModel", name := "hoursOf", desc := "(I)I" } : Jvm.MethodName) : Jvm.Cond) ∈ am_T := am_mem (am_pv (q := (⟨"DawnTalesModel", "hoursOf", "(I)I"⟩, 37)) (List.mem_append_left _ (List.mem_of_getElem? (i := 5) rfl))) rfl
theorem twp_6 : (Jvm.Cond.selects "DawnTalesModel" ({ cls := "DawnTalesModel", name := "reads", desc := "()V" } : Jvm.MethodName) ({ cls := "DawnTalesModel", name := "reads", desc := "()V" } : Jvm.MethodName) : Jvm.Cond) ∈ am_T := am_mem (am_pv (q := (⟨"DawnTalesModel", "reads", "()V"⟩, 37)) (List.mem_append_left _ (List.mem_of_getElem? (i := 6) rfl))) rfl
theorem twp_7 : (Jvm.Cond.selects "DawnTalesModel" ({ cls := "DawnTalesModel", name := "readLetters", desc := "()V" } : Jvm.MethodName) ({ cls := "DawnTalesModel", name := "readLetters", desc := "()V" } : Jvm.MethodName) : Jvm.Cond) ∈ am_T := am_mem (am_pv (q := (⟨"DawnTalesModel", "readLetters", "()V"⟩, 37)) (List.mem_append_left _ (List.mem_of_getElem? (i := 7) rfl))) rfl
theorem twp_8 : (Jvm.Cond.selects "DawnTalesModel" ({ cls := "DawnTalesModel", name := "readNumber", desc := "()V" } : Jvm.MethodName) ({ cls := "DawnTalesModel", name := "readNumber", desc := "()V" } : Jvm.MethodName) : Jvm.Cond) ∈ am_T := am_mem (am_pv (q := (⟨"DawnTalesModel", "readNumber", "()V"⟩, 37)) (List.mem_append_left _ (List.mem_of_getElem? (i := 8) rfl))) rfl
theorem twp_9 : (Jvm.Cond.selects "DawnTalesModel" ({ cls := "DawnTalesModel", name := "readItem", desc := "()Z" } : Jvm.MethodName) ({ cls := "DawnTalesModel", name := "readItem", desc := "()Z" } : Jvm.MethodName) : Jvm.Cond) ∈ am_T := am_mem (am_pv (q := (⟨"DawnTalesModel", "readItem", "()Z"⟩, 37)) (List.mem_append_left _ (List.mem_of_getElem? (i := 9) rfl))) rfl
theorem twp_10 : (Jvm.Cond.selects "DawnTalesModel" ({ cls := "DawnTalesModel", name := "readTale", desc := "()Z" } : Jvm.MethodName) ({ cls := "DawnTalesModel", name := "readTale", desc := "()Z" } : Jvm.MethodName) : Jvm.Cond) ∈ am_T := am_mem (am_pv (q := (⟨"DawnTalesModel", "readTale", "()Z"⟩, 37)) (List.mem_append_left _ (List.mem_of_getElem? (i := 10) rfl))) rfl
theorem twp_11 : (Jvm.Cond.selects "DawnTalesModel" ({ cls := "DawnTalesModel", name := "number", desc := "(II)Z" } : Jvm.MethodName) ({ cls := "DawnTalesModel", name := "number", desc := "(II)Z" } : Jvm.MethodName) : Jvm.Cond) ∈ am_T := am_mem (am_pv (q := (⟨"DawnTalesModel", "number", "(II)Z"⟩, 37)) (List.mem_append_left _ (List.mem_of_getElem? (i := 11) rfl))) rfl
theorem twp_12 : (Jvm.Cond.selects "DawnTalesModel" ({ cls := "DawnTalesModel", name := "readNights", desc := "()Z" } : Jvm.MethodName) ({ cls := "DawnTalesModel", name := "readNights", desc := "()Z" } : Jvm.MethodName) : Jvm.Cond) ∈ am_T := am_mem (am_pv (q := (⟨"DawnTalesModel", "readNights", "()Z"⟩, 37)) (List.mem_append_left _ (List.mem_of_getElem? (i := 12) rfl))) rfl
theorem twp_13 : (Jvm.Cond.selects "DawnTalesModel" ({ cls := "DawnTalesModel", name := "isTale", desc := "(I)Z" } : Jvm.MethodName) ({ cls := "DawnTalesModel", name := "isTale", desc := "(I)Z" } : Jvm.MethodName) : Jvm.Cond) ∈ am_T := am_mem (am_pv (q := (⟨"DawnTalesModel", "isTale", "(I)Z"⟩, 37)) (List.mem_append_left _ (List.mem_of_getElem? (i := 13) rfl))) rfl
theorem twp_14 : (Jvm.Cond.selects "DawnTalesModel" ({ cls := "DawnTalesModel", name := "has", desc := "()Z" } : Jvm.MethodName) ({ cls := "DawnTalesModel", name := "has", desc := "()Z" } : Jvm.MethodName) : Jvm.Cond) ∈ am_T := am_mem (am_pv (q := (⟨"DawnTalesModel", "has", "()Z"⟩, 37)) (List.mem_append_left _ (List.mem_of_getElem? (i := 14) rfl))) rfl
theorem twp_15 : (Jvm.Cond.selects "DawnTalesModel" ({ cls := "DawnTalesModel", name := "mayBegin", desc := "([II)Z" } : Jvm.MethodName) ({ cls := "DawnTalesModel", name := "mayBegin", desc := "([II)Z" } : Jvm.MethodName) : Jvm.Cond) ∈ am_T := am_mem (am_pv (q := (⟨"DawnTalesModel", "mayBegin", "([II)Z"⟩, 37)) (List.mem_append_left _ (List.mem_of_getElem? (i := 15) rfl))) rfl
theorem twp_16 : (Jvm.Cond.selects "DawnTalesModel" ({ cls := "DawnTalesModel", name := "notes", desc := "()V" } : Jvm.MethodName) ({ cls := "DawnTalesModel", name := "notes", desc := "()V" } : Jvm.MethodName) : Jvm.Cond) ∈ am_T := am_mem (am_pv (q := (⟨"DawnTalesModel", "notes", "()V"⟩, 37)) (List.mem_append_right _ (List.mem_of_getElem? (i := 0) rfl))) rfl
theorem twp_17 : (Jvm.Cond.selects "DawnTalesModel" ({ cls := "DawnTalesModel", name := "dawns", desc := "([I)Z" } : Jvm.MethodName) ({ cls := "DawnTalesModel", name := "dawns", desc := "([I)Z" } : Jvm.MethodName) : Jvm.Cond) ∈ am_T := am_mem (am_pv (q := (⟨"DawnTalesModel", "dawns", "([I)Z"⟩, 37)) (List.mem_append_right _ (List.mem_of_getElem? (i := 1) rfl))) rfl
theorem twp_18 : (Jvm.Cond.selects "DawnTalesModel" ({ cls := "DawnTalesModel", name := "saves", desc := "()I" } : Jvm.MethodName) ({ cls := "DawnTalesModel", name := "saves", desc := "()I" } : Jvm.MethodName) : Jvm.Cond) ∈ am_T := am_mem (am_pv (q := (⟨"DawnTalesModel", "saves", "()I"⟩, 37)) (List.mem_append_right _ (List.mem_of_getElem? (i := 2) rfl))) rfl
theorem twp_19 : (Jvm.Cond.selects "DawnTalesModel" ({ cls := "DawnTalesModel", name := "finds", desc := "()V" } : Jvm.MethodName) ({ cls := "DawnTalesModel", name := "finds", desc := "()V" } : Jvm.MethodName) : Jvm.Cond) ∈ am_T := am_mem (am_pv (q := (⟨"DawnTalesModel", "finds", "()V"⟩, 37)) (List.mem_append_right _ (List.mem_of_getElem? (i := 3) rfl))) rfl
theorem twp_20 : (Jvm.Cond.selects "DawnTalesModel" ({ cls := "DawnTalesModel", name := "starts", desc := "(I)Z" } : Jvm.MethodName) ({ cls := "DawnTalesModel", name := "starts", desc := "(I)Z" } : Jvm.MethodName) : Jvm.Cond) ∈ am_T := am_mem (am_pv (q := (⟨"DawnTalesModel", "starts", "(I)Z"⟩, 37)) (List.mem_append_right _ (List.mem_of_getElem? (i := 4) rfl))) rfl
theorem twp_21 : (Jvm.Cond.selects "DawnTalesModel" ({ cls := "DawnTalesModel", name := "fills", desc := "(I)Z" } : Jvm.MethodName) ({ cls := "DawnTalesModel", name := "fills", desc := "(I)Z" } : Jvm.MethodName) : Jvm.Cond) ∈ am_T := am_mem (am_pv (q := (⟨"DawnTalesModel", "fills", "(I)Z"⟩, 37)) (List.mem_append_right _ (List.mem_of_getElem? (i := 5) rfl))) rfl
theorem twp_22 : (Jvm.Cond.selects "DawnTalesModel" ({ cls := "DawnTalesModel", name := "isMet", desc := "(I)Z" } : Jvm.MethodName) ({ cls := "DawnTalesModel", name := "isMet", desc := "(I)Z" } : Jvm.MethodName) : Jvm.Cond) ∈ am_T := am_mem (am_pv (q := (⟨"DawnTalesModel", "isMet", "(I)Z"⟩, 37)) (List.mem_append_right _ (List.mem_of_getElem? (i := 6) rfl))) rfl
theorem twp_23 : (Jvm.Cond.selects "DawnTalesModel" ({ cls := "DawnTalesModel", name := "code", desc := "()I" } : Jvm.MethodName) ({ cls := "DawnTalesModel", name := "code", desc := "()I" } : Jvm.MethodName) : Jvm.Cond) ∈ am_T := am_mem (am_pv (q := (⟨"DawnTalesModel", "code", "()I"⟩, 37)) (List.mem_append_right _ (List.mem_of_getElem? (i := 7) rfl))) rfl
theorem twp_24 : (Jvm.Cond.selects "DawnTalesModel" ({ cls := "DawnTalesModel", name := "turns", desc := "()Z" } : Jvm.MethodName) ({ cls := "DawnTalesModel", name := "turns", desc := "()Z" } : Jvm.MethodName) : Jvm.Cond) ∈ am_T := am_mem (am_pv (q := (⟨"DawnTalesModel", "turns", "()Z"⟩, 37)) (List.mem_append_right _ (List.mem_of_getElem? (i := 8) rfl))) rfl
theorem twp_25 : (Jvm.Cond.selects "DawnTalesModel" ({ cls := "DawnTalesModel", name := "isHeard", desc := "(I)Z" } : Jvm.MethodName) ({ cls := "DawnTalesModel", name := "isHeard", desc := "(I)Z" } : Jvm.MethodName) : Jvm.Cond) ∈ am_T := am_mem (am_pv (q := (⟨"DawnTalesModel", "isHeard", "(I)Z"⟩, 37)) (List.mem_append_right _ (List.mem_of_getElem? (i := 9) rfl))) rfl
end
